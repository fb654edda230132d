theorem wd_1_96 : (Jvm.Cond.fieldLink "SheetPrinter$Sheet" (142 : Nat) "SheetPrinter$Page" "orientation" "I") ∈ gT := gT_in (in_1 _ (List.mem_of_getElem? (i := 96) rfl)) rfl
theorem wd_1_116 : (Jvm.Cond.fieldLink "SheetPrinter$Interpreter" (268 : Nat) "SheetPrinter$Page" "wrap" "Z") ∈ gT := gT_in (in_1 _ (List.mem_of_getElem? (i := 116) rfl)) rfl
theorem wd_1_120 : (Jvm.Cond.fieldLink "SheetPrinter$Interpreter" (295 : Nat) "SheetPrinter$Page" "lineEnd" "I") ∈ gT := gT_in (in_1 _ (List.mem_of_getElem? (i := 120) rfl)) rfl
theorem wd_2_238 : (Jvm.Cond.fieldLink "SheetPrinter$Raster" (57 : Nat) "SheetPrinter$Raster" "scale" "I") ∈ gT := gT_in (in_2 _ (List.mem_of_getElem? (i := 238) rfl)) rfl
theorem wd_3_0 : (Jvm.Cond.fieldLink "SheetPrinter$Raster" (60 : Nat) "SheetPrinter$Raster" "row" "I") ∈ gT := gT_in (in_3 _ (List.mem_of_getElem? (i := 0) rfl)) rfl
theorem wd_3_4 : (Jvm.Cond.fieldLink "SheetPrinter$Raster" (45 : Nat) "SheetPrinter$Raster" "height" "I") ∈ gT := gT_in (in_3 _ (List.mem_of_getElem? (i := 4) rfl)) rfl
theorem wd_3_56 : (Jvm.Cond.fieldLink "SheetPrinter$Parser" (43 : Nat) "SheetPrinter$Parser" "family" "I") ∈ gT := gT_in (in_3 _ (List.mem_of_getElem? (i := 56) rfl)) rfl
theorem wd_3_62 : (Jvm.Cond.fieldLink "SheetPrinter$Parser" (74 : Nat) "SheetPrinter$Parser" "last" "Z") ∈ gT := gT_in (in_3 _ (List.mem_of_getElem? (i := 62) rfl)) rfl
theorem wd_3_63 : (Jvm.Cond.fieldLink "SheetPrinter$Parser" (46 : Nat) "SheetPrinter$Parser" "phase" "I") ∈ gT := gT_in (in_3 _ (List.mem_of_getElem? (i := 63) rfl)) rfl
theorem wd_3_64 : (Jvm.Cond.fieldLink "SheetPrinter$Parser" (49 : Nat) "SheetPrinter$Parser" "sign" "I") ∈ gT := gT_in (in_3 _ (List.mem_of_getElem? (i := 64) rfl)) rfl
theorem wd_3_65 : (Jvm.Cond.fieldLink "SheetPrinter$Parser" (52 : Nat) "SheetPrinter$Parser" "whole" "I") ∈ gT := gT_in (in_3 _ (List.mem_of_getElem? (i := 65) rfl)) rfl
theorem wd_3_66 : (Jvm.Cond.fieldLink "SheetPrinter$Parser" (55 : Nat) "SheetPrinter$Parser" "fraction" "I") ∈ gT := gT_in (in_3 _ (List.mem_of_getElem? (i := 66) rfl)) rfl
theorem wd_3_67 : (Jvm.Cond.fieldLink "SheetPrinter$Parser" (58 : Nat) "SheetPrinter$Parser" "digitWorth" "I") ∈ gT := gT_in (in_3 _ (List.mem_of_getElem? (i := 67) rfl)) rfl
theorem wd_3_68 : (Jvm.Cond.fieldLink "SheetPrinter$Parser" (84 : Nat) "SheetPrinter$Parser" "value" "I") ∈ gT := gT_in (in_3 _ (List.mem_of_getElem? (i := 68) rfl)) rfl
theorem wd_3_129 : (Jvm.Cond.fieldLink "SheetPrinter$Interpreter" (218 : Nat) "SheetPrinter$Interpreter" "then" "I") ∈ gT := gT_in (in_3 _ (List.mem_of_getElem? (i := 129) rfl)) rfl
theorem wd_3_130 : (Jvm.Cond.fieldLink "SheetPrinter$Interpreter" (221 : Nat) "SheetPrinter$Interpreter" "thenNumber" "I") ∈ gT := gT_in (in_3 _ (List.mem_of_getElem? (i := 130) rfl)) rfl
theorem wd_3_184 : (Jvm.Cond.fieldLink "SheetPrinter$PictureFile" (56 : Nat) "SheetPrinter$PictureFile" "next" "J") ∈ gT := gT_in (in_3 _ (List.mem_of_getElem? (i := 184) rfl)) rfl
theorem wd_4_10 : (Jvm.Cond.fieldLink "SheetPrinter$Coder" (58 : Nat) "SheetPrinter$Coder" "aboveCount" "I") ∈ gT := gT_in (in_4 _ (List.mem_of_getElem? (i := 10) rfl)) rfl
theorem wd_4_12 : (Jvm.Cond.fieldLink "SheetPrinter$Coder" (61 : Nat) "SheetPrinter$Coder" "lineCount" "I") ∈ gT := gT_in (in_4 _ (List.mem_of_getElem? (i := 12) rfl)) rfl
theorem wd_4_77 : (Jvm.Cond.fieldLink "SheetPrinter$LineReader" (84 : Nat) "SheetPrinter$LineReader" "aboveCount" "I") ∈ gT := gT_in (in_4 _ (List.mem_of_getElem? (i := 77) rfl)) rfl
theorem wd_4_80 : (Jvm.Cond.fieldLink "SheetPrinter$LineReader" (87 : Nat) "SheetPrinter$LineReader" "lineCount" "I") ∈ gT := gT_in (in_4 _ (List.mem_of_getElem? (i := 80) rfl)) rfl
theorem wd_4_83 : (Jvm.Cond.fieldLink "SheetPrinter$LineReader" (116 : Nat) "SheetPrinter$LineReader" "a" "I") ∈ gT := gT_in (in_4 _ (List.mem_of_getElem? (i := 83) rfl)) rfl
theorem wd_4_84 : (Jvm.Cond.fieldLink "SheetPrinter$LineReader" (119 : Nat) "SheetPrinter$LineReader" "colour" "I") ∈ gT := gT_in (in_4 _ (List.mem_of_getElem? (i := 84) rfl)) rfl
theorem wd_4_85 : (Jvm.Cond.fieldLink "SheetPrinter$LineReader" (122 : Nat) "SheetPrinter$LineReader" "over" "I") ∈ gT := gT_in (in_4 _ (List.mem_of_getElem? (i := 85) rfl)) rfl
theorem wd_4_224 : (Jvm.Cond.code ({ cls := "SheetPrinter$OutFile", name := "evenLength", desc := "()I" } : Jvm.MethodName) prog_7_method_5_code (1 : Nat) (Option.some Jvm.ClassFile.FieldType.int)) ∈ gT := gT_in (in_4 _ (List.mem_of_getElem? (i := 224) rfl)) rfl
theorem wd_5_10 : (Jvm.Cond.constantLong "SheetPrinter$Sheet" (179 : Nat) (-1 : Int64)) ∈ gT := gT_in (in_5 _ (List.mem_of_getElem? (i := 10) rfl)) rfl
theorem wd_5_24 : (Jvm.Cond.code ({ cls := "SheetPrinter$Sheet", name := "laid", desc := "(JJJJI)J" } : Jvm.MethodName) prog_12_method_23_code (11 : Nat) (Option.some Jvm.ClassFile.FieldType.long)) ∈ gT := gT_in (in_5 _ (List.mem_of_getElem? (i := 24) rfl)) rfl
theorem wd_5_25 : (Jvm.Cond.constant "SheetPrinter$Sheet" (145 : Nat) (32768 : Int32)) ∈ gT := gT_in (in_5 _ (List.mem_of_getElem? (i := 25) rfl)) rfl
theorem wd_5_41 : (Jvm.Cond.code ({ cls := "SheetPrinter$Coder", name := "takeWhite", desc := "()V" } : Jvm.MethodName) prog_2_method_5_code (1 : Nat) (Option.none : Option Jvm.ClassFile.FieldType)) ∈ gT := gT_in (in_5 _ (List.mem_of_getElem? (i := 41) rfl)) rfl
theorem wd_5_68 : (Jvm.Cond.code ({ cls := "SheetPrinter$Coder", name := "turnOver", desc := "()V" } : Jvm.MethodName) prog_2_method_12_code (2 : Nat) (Option.none : Option Jvm.ClassFile.FieldType)) ∈ gT := gT_in (in_5 _ (List.mem_of_getElem? (i := 68) rfl)) rfl
theorem wd_5_157 : (Jvm.Cond.code ({ cls := "SheetPrinter$LineReader", name := "turnOver", desc := "()V" } : Jvm.MethodName) prog_5_method_7_code (2 : Nat) (Option.none : Option Jvm.ClassFile.FieldType)) ∈ gT := gT_in (in_5 _ (List.mem_of_getElem? (i := 157) rfl)) rfl
theorem wd_6_137 : (Jvm.Cond.code ({ cls := "SheetPrinter$Parser", name := "beginField", desc := "()V" } : Jvm.MethodName) prog_9_method_6_code (1 : Nat) (Option.none : Option Jvm.ClassFile.FieldType)) ∈ gT := gT_in (in_6 _ (List.mem_of_getElem? (i := 137) rfl)) rfl
theorem wd_6_154 : (Jvm.Cond.code ({ cls := "SheetPrinter$Parser", name := "finishField", desc := "()I" } : Jvm.MethodName) prog_9_method_10_code (1 : Nat) (Option.some Jvm.ClassFile.FieldType.int)) ∈ gT := gT_in (in_6 _ (List.mem_of_getElem? (i := 154) rfl)) rfl
theorem wd_6_158 : (Jvm.Cond.code ({ cls := "SheetPrinter$Parser", name := "takePlain", desc := "(I)I" } : Jvm.MethodName) prog_9_method_4_code (2 : Nat) (Option.some Jvm.ClassFile.FieldType.int)) ∈ gT := gT_in (in_6 _ (List.mem_of_getElem? (i := 158) rfl)) rfl
theorem wd_6_162 : (Jvm.Cond.code ({ cls := "SheetPrinter$Parser", name := "takeEscaped", desc := "(I)I" } : Jvm.MethodName) prog_9_method_5_code (2 : Nat) (Option.some Jvm.ClassFile.FieldType.int)) ∈ gT := gT_in (in_6 _ (List.mem_of_getElem? (i := 162) rfl)) rfl
theorem wd_6_199 : (Jvm.Cond.code ({ cls := "SheetPrinter$Page", name := "fits", desc := "(I)Z" } : Jvm.MethodName) prog_8_method_28_code (2 : Nat) (Option.some Jvm.ClassFile.FieldType.boolean)) ∈ gT := gT_in (in_6 _ (List.mem_of_getElem? (i := 199) rfl)) rfl
theorem wd_6_215 : (Jvm.Cond.code ({ cls := "SheetPrinter$Interpreter", name := "waitToDo", desc := "(II)V" } : Jvm.MethodName) prog_4_method_12_code (3 : Nat) (Option.none : Option Jvm.ClassFile.FieldType)) ∈ gT := gT_in (in_6 _ (List.mem_of_getElem? (i := 215) rfl)) rfl
theorem wd_7_87 : (Jvm.Cond.code ({ cls := "SheetPrinter$Macros", name := "setId", desc := "(I)V" } : Jvm.MethodName) prog_6_method_4_code (2 : Nat) (Option.none : Option Jvm.ClassFile.FieldType)) ∈ gT := gT_in (in_7 _ (List.mem_of_getElem? (i := 87) rfl)) rfl
theorem wd_7_104 : (Jvm.Cond.code ({ cls := "SheetPrinter$FontShelf", name := "setId", desc := "(I)V" } : Jvm.MethodName) prog_3_method_3_code (2 : Nat) (Option.none : Option Jvm.ClassFile.FieldType)) ∈ gT := gT_in (in_7 _ (List.mem_of_getElem? (i := 104) rfl)) rfl
theorem wd_7_108 : (Jvm.Cond.code ({ cls := "SheetPrinter$FontShelf", name := "setCode", desc := "(I)V" } : Jvm.MethodName) prog_3_method_4_code (2 : Nat) (Option.none : Option Jvm.ClassFile.FieldType)) ∈ gT := gT_in (in_7 _ (List.mem_of_getElem? (i := 108) rfl)) rfl
theorem wd_7_117 : (Jvm.Cond.code ({ cls := "SheetPrinter$Sheet", name := "setRuleWidth", desc := "(J)V" } : Jvm.MethodName) prog_12_method_5_code (3 : Nat) (Option.none : Option Jvm.ClassFile.FieldType)) ∈ gT := gT_in (in_7 _ (List.mem_of_getElem? (i := 117) rfl)) rfl
theorem wd_7_121 : (Jvm.Cond.code ({ cls := "SheetPrinter$Sheet", name := "setRuleHeight", desc := "(J)V" } : Jvm.MethodName) prog_12_method_6_code (3 : Nat) (Option.none : Option Jvm.ClassFile.FieldType)) ∈ gT := gT_in (in_7 _ (List.mem_of_getElem? (i := 121) rfl)) rfl
theorem wd_7_125 : (Jvm.Cond.code ({ cls := "SheetPrinter$Sheet", name := "setPattern", desc := "(I)V" } : Jvm.MethodName) prog_12_method_7_code (2 : Nat) (Option.none : Option Jvm.ClassFile.FieldType)) ∈ gT := gT_in (in_7 _ (List.mem_of_getElem? (i := 125) rfl)) rfl
theorem wd_7_136 : (Jvm.Cond.code ({ cls := "SheetPrinter$Sheet", name := "isInk", desc := "(II)Z" } : Jvm.MethodName) prog_12_method_8_code (2 : Nat) (Option.some Jvm.ClassFile.FieldType.boolean)) ∈ gT := gT_in (in_7 _ (List.mem_of_getElem? (i := 136) rfl)) rfl
theorem wd_7_144 : (Jvm.Cond.code ({ cls := "SheetPrinter$Sheet", name := "hasRoom", desc := "(I)Z" } : Jvm.MethodName) prog_12_method_17_code (2 : Nat) (Option.some Jvm.ClassFile.FieldType.boolean)) ∈ gT := gT_in (in_7 _ (List.mem_of_getElem? (i := 144) rfl)) rfl
theorem wd_7_152 : (Jvm.Cond.code ({ cls := "SheetPrinter$Page", name := "dotDown", desc := "(I)I" } : Jvm.MethodName) prog_8_method_16_code (2 : Nat) (Option.some Jvm.ClassFile.FieldType.int)) ∈ gT := gT_in (in_7 _ (List.mem_of_getElem? (i := 152) rfl)) rfl
theorem wd_7_173 : (Jvm.Cond.code ({ cls := "SheetPrinter$Sheet", name := "setSourceOpaque", desc := "(I)V" } : Jvm.MethodName) prog_12_method_10_code (2 : Nat) (Option.none : Option Jvm.ClassFile.FieldType)) ∈ gT := gT_in (in_7 _ (List.mem_of_getElem? (i := 173) rfl)) rfl
theorem wd_7_177 : (Jvm.Cond.code ({ cls := "SheetPrinter$Sheet", name := "setInkOpaque", desc := "(I)V" } : Jvm.MethodName) prog_12_method_11_code (2 : Nat) (Option.none : Option Jvm.ClassFile.FieldType)) ∈ gT := gT_in (in_7 _ (List.mem_of_getElem? (i := 177) rfl)) rfl
theorem wd_7_185 : (Jvm.Cond.code ({ cls := "SheetPrinter$Raster", name := "setResolution", desc := "(I)V" } : Jvm.MethodName) prog_11_method_3_code (2 : Nat) (Option.none : Option Jvm.ClassFile.FieldType)) ∈ gT := gT_in (in_7 _ (List.mem_of_getElem? (i := 185) rfl)) rfl
theorem wd_7_193 : (Jvm.Cond.code ({ cls := "SheetPrinter$Raster", name := "setNextWidth", desc := "(I)V" } : Jvm.MethodName) prog_11_method_4_code (2 : Nat) (Option.none : Option Jvm.ClassFile.FieldType)) ∈ gT := gT_in (in_7 _ (List.mem_of_getElem? (i := 193) rfl)) rfl
theorem wd_7_197 : (Jvm.Cond.code ({ cls := "SheetPrinter$Raster", name := "setNextHeight", desc := "(I)V" } : Jvm.MethodName) prog_11_method_5_code (2 : Nat) (Option.none : Option Jvm.ClassFile.FieldType)) ∈ gT := gT_in (in_7 _ (List.mem_of_getElem? (i := 197) rfl)) rfl
theorem wd_7_210 : (Jvm.Cond.code ({ cls := "SheetPrinter$Raster", name := "close", desc := "()I" } : Jvm.MethodName) prog_11_method_9_code (1 : Nat) (Option.some Jvm.ClassFile.FieldType.int)) ∈ gT := gT_in (in_7 _ (List.mem_of_getElem? (i := 210) rfl)) rfl
theorem wd_7_219 : (Jvm.Cond.code ({ cls := "SheetPrinter$Raster", name := "setMethod", desc := "(I)V" } : Jvm.MethodName) prog_11_method_6_code (2 : Nat) (Option.none : Option Jvm.ClassFile.FieldType)) ∈ gT := gT_in (in_7 _ (List.mem_of_getElem? (i := 219) rfl)) rfl
theorem wd_7_232 : (Jvm.Cond.code ({ cls := "SheetPrinter$Raster", name := "isFull", desc := "()Z" } : Jvm.MethodName) prog_11_method_10_code (1 : Nat) (Option.some Jvm.ClassFile.FieldType.boolean)) ∈ gT := gT_in (in_7 _ (List.mem_of_getElem? (i := 232) rfl)) rfl
theorem wd_8_45 : (Jvm.Cond.code ({ cls := "SheetPrinter$Parser", name := "signedNumber", desc := "()I" } : Jvm.MethodName) prog_9_method_15_code (1 : Nat) (Option.some Jvm.ClassFile.FieldType.int)) ∈ gT := gT_in (in_8 _ (List.mem_of_getElem? (i := 45) rfl)) rfl
theorem wd_8_145 : (Jvm.Cond.code ({ cls := "SheetPrinter$PictureFile", name := "canBe", desc := "(II)Z" } : Jvm.MethodName) prog_10_method_7_code (2 : Nat) (Option.some Jvm.ClassFile.FieldType.boolean)) ∈ gT := gT_in (in_8 _ (List.mem_of_getElem? (i := 145) rfl)) rfl
theorem wd_8_184 : (Jvm.Cond.code ({ cls := "SheetPrinter$PictureFile", name := "hasPage", desc := "()Z" } : Jvm.MethodName) prog_10_method_3_code (1 : Nat) (Option.some Jvm.ClassFile.FieldType.boolean)) ∈ gT := gT_in (in_8 _ (List.mem_of_getElem? (i := 184) rfl)) rfl
theorem wd_9_76 : (Jvm.Cond.fieldLink "SheetPrinterModel$Desk" (39 : Nat) "SheetPrinterModel$Desk" "thrown" "I") ∈ gT := gT_in (in_9 _ (List.mem_of_getElem? (i := 76) rfl)) rfl
theorem wd_9_91 : (Jvm.Cond.fieldLink "SheetPrinterModel$Desk" (164 : Nat) "SheetPrinterModel$Desk" "family" "I") ∈ gT := gT_in (in_9 _ (List.mem_of_getElem? (i := 91) rfl)) rfl
theorem wd_9_92 : (Jvm.Cond.fieldLink "SheetPrinterModel$Desk" (167 : Nat) "SheetPrinterModel$Desk" "group" "I") ∈ gT := gT_in (in_9 _ (List.mem_of_getElem? (i := 92) rfl)) rfl
theorem wd_9_93 : (Jvm.Cond.fieldLink "SheetPrinterModel$Desk" (143 : Nat) "SheetPrinterModel$Desk" "part" "I") ∈ gT := gT_in (in_9 _ (List.mem_of_getElem? (i := 93) rfl)) rfl
theorem wd_9_94 : (Jvm.Cond.fieldLink "SheetPrinterModel$Desk" (146 : Nat) "SheetPrinterModel$Desk" "signed" "Z") ∈ gT := gT_in (in_9 _ (List.mem_of_getElem? (i := 94) rfl)) rfl
theorem wd_9_95 : (Jvm.Cond.fieldLink "SheetPrinterModel$Desk" (149 : Nat) "SheetPrinterModel$Desk" "negative" "Z") ∈ gT := gT_in (in_9 _ (List.mem_of_getElem? (i := 95) rfl)) rfl
theorem wd_9_96 : (Jvm.Cond.fieldLink "SheetPrinterModel$Desk" (152 : Nat) "SheetPrinterModel$Desk" "whole" "I") ∈ gT := gT_in (in_9 _ (List.mem_of_getElem? (i := 96) rfl)) rfl
theorem wd_9_97 : (Jvm.Cond.fieldLink "SheetPrinterModel$Desk" (155 : Nat) "SheetPrinterModel$Desk" "behind" "I") ∈ gT := gT_in (in_9 _ (List.mem_of_getElem? (i := 97) rfl)) rfl
theorem wd_9_98 : (Jvm.Cond.fieldLink "SheetPrinterModel$Desk" (158 : Nat) "SheetPrinterModel$Desk" "places" "I") ∈ gT := gT_in (in_9 _ (List.mem_of_getElem? (i := 98) rfl)) rfl
theorem wd_11_22 : (Jvm.Cond.fieldLink "SheetPrinterModel$Sheet" (33 : Nat) "SheetPrinterModel$Sheet" "wide" "I") ∈ gT := gT_in (in_11 _ (List.mem_of_getElem? (i := 22) rfl)) rfl
theorem wd_11_26 : (Jvm.Cond.fieldLink "SheetPrinterModel$Sheet" (30 : Nat) "SheetPrinterModel$Sheet" "orientation" "I") ∈ gT := gT_in (in_11 _ (List.mem_of_getElem? (i := 26) rfl)) rfl
theorem wd_12_116 : (Jvm.Cond.code ({ cls := "SheetPrinterModel$Pictures", name := "sizeOf", desc := "(I)I" } : Jvm.MethodName) prog_18_method_24_code (1 : Nat) (Option.some Jvm.ClassFile.FieldType.int)) ∈ gT := gT_in (in_12 _ (List.mem_of_getElem? (i := 116) rfl)) rfl
theorem wd_13_40 : (Jvm.Cond.code ({ cls := "SheetPrinterModel$Macros", name := "closing", desc := "(I)I" } : Jvm.MethodName) prog_17_method_8_code (1 : Nat) (Option.some Jvm.ClassFile.FieldType.int)) ∈ gT := gT_in (in_13 _ (List.mem_of_getElem? (i := 40) rfl)) rfl
theorem wd_13_52 : (Jvm.Cond.code ({ cls := "SheetPrinterModel$Desk", name := "stop", desc := "()V" } : Jvm.MethodName) prog_15_method_29_code (1 : Nat) (Option.none : Option Jvm.ClassFile.FieldType)) ∈ gT := gT_in (in_13 _ (List.mem_of_getElem? (i := 52) rfl)) rfl
theorem wd_13_126 : (Jvm.Cond.code ({ cls := "SheetPrinterModel$Desk", name := "isSequence", desc := "()Z" } : Jvm.MethodName) prog_15_method_28_code (1 : Nat) (Option.some Jvm.ClassFile.FieldType.boolean)) ∈ gT := gT_in (in_13 _ (List.mem_of_getElem? (i := 126) rfl)) rfl
theorem wd_13_166 : (Jvm.Cond.code ({ cls := "SheetPrinterModel$Desk", name := "beginField", desc := "()V" } : Jvm.MethodName) prog_15_method_21_code (1 : Nat) (Option.none : Option Jvm.ClassFile.FieldType)) ∈ gT := gT_in (in_13 _ (List.mem_of_getElem? (i := 166) rfl)) rfl
theorem wd_13_191 : (Jvm.Cond.code ({ cls := "SheetPrinterModel$Desk", name := "divides", desc := "(I)Z" } : Jvm.MethodName) prog_15_method_36_code (1 : Nat) (Option.some Jvm.ClassFile.FieldType.boolean)) ∈ gT := gT_in (in_13 _ (List.mem_of_getElem? (i := 191) rfl)) rfl
theorem wd_13_195 : (Jvm.Cond.code ({ cls := "SheetPrinterModel$Desk", name := "is", desc := "(IIII)Z" } : Jvm.MethodName) prog_15_method_32_code (5 : Nat) (Option.some Jvm.ClassFile.FieldType.boolean)) ∈ gT := gT_in (in_13 _ (List.mem_of_getElem? (i := 195) rfl)) rfl
theorem wd_13_235 : (Jvm.Cond.code ({ cls := "SheetPrinterModel$Sheet", name := "take", desc := "(I)Z" } : Jvm.MethodName) prog_19_method_5_code (2 : Nat) (Option.some Jvm.ClassFile.FieldType.boolean)) ∈ gT := gT_in (in_13 _ (List.mem_of_getElem? (i := 235) rfl)) rfl
theorem wd_13_236 : (Jvm.Cond.constant "SheetPrinterModel$Sheet" (36 : Nat) (65536 : Int32)) ∈ gT := gT_in (in_13 _ (List.mem_of_getElem? (i := 236) rfl)) rfl
theorem wd_14_4 : (Jvm.Cond.code ({ cls := "SheetPrinterModel", name := "dotY", desc := "(I)I" } : Jvm.MethodName) prog_14_method_20_code (2 : Nat) (Option.some Jvm.ClassFile.FieldType.int)) ∈ gT := gT_in (in_14 _ (List.mem_of_getElem? (i := 4) rfl)) rfl
theorem wd_14_38 : (Jvm.Cond.code ({ cls := "SheetPrinterModel$Shelf", name := "hand", desc := "(ZI)Z" } : Jvm.MethodName) prog_20_method_5_code (3 : Nat) (Option.some Jvm.ClassFile.FieldType.boolean)) ∈ gT := gT_in (in_14 _ (List.mem_of_getElem? (i := 38) rfl)) rfl
theorem wd_14_49 : (Jvm.Cond.code ({ cls := "SheetPrinterModel", name := "isPattern", desc := "(II)Z" } : Jvm.MethodName) prog_14_method_22_code (2 : Nat) (Option.some Jvm.ClassFile.FieldType.boolean)) ∈ gT := gT_in (in_14 _ (List.mem_of_getElem? (i := 49) rfl)) rfl
theorem wd_14_55 : (Jvm.Cond.code ({ cls := "SheetPrinterModel$Desk", name := "due", desc := "()V" } : Jvm.MethodName) prog_15_method_40_code (1 : Nat) (Option.none : Option Jvm.ClassFile.FieldType)) ∈ gT := gT_in (in_14 _ (List.mem_of_getElem? (i := 55) rfl)) rfl
theorem wd_14_59 : (Jvm.Cond.code ({ cls := "SheetPrinterModel$Sheet", name := "down", desc := "()I" } : Jvm.MethodName) prog_19_method_4_code (1 : Nat) (Option.some Jvm.ClassFile.FieldType.int)) ∈ gT := gT_in (in_14 _ (List.mem_of_getElem? (i := 59) rfl)) rfl
theorem wd_14_63 : (Jvm.Cond.code ({ cls := "SheetPrinterModel$Sheet", name := "across", desc := "()I" } : Jvm.MethodName) prog_19_method_3_code (1 : Nat) (Option.some Jvm.ClassFile.FieldType.int)) ∈ gT := gT_in (in_14 _ (List.mem_of_getElem? (i := 63) rfl)) rfl

abbrev b_Ref_dotY : ByteArray := prog_14_method_20_code
abbrev y_Ref_dotY : MethodName := ⟨"SheetPrinterModel", "dotY", "(I)I"⟩
abbrev w_Ref_dotY : List Cond := .code y_Ref_dotY b_Ref_dotY 2 (some .int) :: gT
theorem gd_Ref_dotY : GoodIn gT w_Ref_dotY := gW wd_14_4
theorem d_Ref_dotY_0 : decode b_Ref_dotY 0 = .ok (.iload_n 1, 1) := by decide +kernel
theorem d_Ref_dotY_1 : decode b_Ref_dotY 1 = .ok (.aload_n 0, 1) := by decide +kernel
theorem d_Ref_dotY_2 : decode b_Ref_dotY 2 = .ok (.getfield 96, 3) := by decide +kernel
theorem d_Ref_dotY_5 : decode b_Ref_dotY 5 = .ok (.bipush 75, 2) := by decide +kernel
theorem d_Ref_dotY_7 : decode b_Ref_dotY 7 = .ok (.idiv, 1) := by decide +kernel
theorem d_Ref_dotY_8 : decode b_Ref_dotY 8 = .ok (.imul, 1) := by decide +kernel
theorem d_Ref_dotY_9 : decode b_Ref_dotY 9 = .ok (.bipush 96, 2) := by decide +kernel
theorem d_Ref_dotY_11 : decode b_Ref_dotY 11 = .ok (.idiv, 1) := by decide +kernel
theorem d_Ref_dotY_12 : decode b_Ref_dotY 12 = .ok (.ireturn, 1) := by decide +kernel
abbrev b_Ref_isPattern : ByteArray := prog_14_method_22_code
abbrev y_Ref_isPattern : MethodName := ⟨"SheetPrinterModel", "isPattern", "(II)Z"⟩
abbrev w_Ref_isPattern : List Cond := .code y_Ref_isPattern b_Ref_isPattern 2 (some .boolean) :: gT
theorem gd_Ref_isPattern : GoodIn gT w_Ref_isPattern := gW wd_14_49
theorem d_Ref_isPattern_0 : decode b_Ref_isPattern 0 = .ok (.iload_n 1, 1) := by decide +kernel
theorem d_Ref_isPattern_1 : decode b_Ref_isPattern 1 = .ok (.ifCond .le 23, 3) := by decide +kernel
theorem d_Ref_isPattern_4 : decode b_Ref_isPattern 4 = .ok (.iload_n 1, 1) := by decide +kernel
theorem d_Ref_isPattern_5 : decode b_Ref_isPattern 5 = .ok (.iload_n 0, 1) := by decide +kernel
theorem d_Ref_isPattern_6 : decode b_Ref_isPattern 6 = .ok (.iconst 2, 1) := by decide +kernel
theorem d_Ref_isPattern_7 : decode b_Ref_isPattern 7 = .ok (.if_icmp .ne 8, 3) := by decide +kernel
theorem d_Ref_isPattern_10 : decode b_Ref_isPattern 10 = .ok (.bipush 100, 2) := by decide +kernel
theorem d_Ref_isPattern_12 : decode b_Ref_isPattern 12 = .ok (.goto 5, 3) := by decide +kernel
theorem d_Ref_isPattern_15 : decode b_Ref_isPattern 15 = .ok (.bipush 6, 2) := by decide +kernel
theorem d_Ref_isPattern_17 : decode b_Ref_isPattern 17 = .ok (.if_icmp .gt 7, 3) := by decide +kernel
theorem d_Ref_isPattern_20 : decode b_Ref_isPattern 20 = .ok (.iconst 1, 1) := by decide +kernel
theorem d_Ref_isPattern_21 : decode b_Ref_isPattern 21 = .ok (.goto 4, 3) := by decide +kernel
theorem d_Ref_isPattern_24 : decode b_Ref_isPattern 24 = .ok (.iconst 0, 1) := by decide +kernel
theorem d_Ref_isPattern_25 : decode b_Ref_isPattern 25 = .ok (.ireturn, 1) := by decide +kernel
abbrev b_Coder_takeWhite : ByteArray := prog_2_method_5_code
abbrev y_Coder_takeWhite : MethodName := ⟨"SheetPrinter$Coder", "takeWhite", "()V"⟩
abbrev w_Coder_takeWhite : List Cond := .code y_Coder_takeWhite b_Coder_takeWhite 1 none :: gT
theorem gd_Coder_takeWhite : GoodIn gT w_Coder_takeWhite := gW wd_5_41
theorem d_Coder_takeWhite_0 : decode b_Coder_takeWhite 0 = .ok (.aload_n 0, 1) := by decide +kernel
theorem d_Coder_takeWhite_1 : decode b_Coder_takeWhite 1 = .ok (.iconst 0, 1) := by decide +kernel
theorem d_Coder_takeWhite_2 : decode b_Coder_takeWhite 2 = .ok (.putfield 61, 3) := by decide +kernel
theorem d_Coder_takeWhite_5 : decode b_Coder_takeWhite 5 = .ok (.return_, 1) := by decide +kernel
abbrev b_Coder_turnOver : ByteArray := prog_2_method_12_code
abbrev y_Coder_turnOver : MethodName := ⟨"SheetPrinter$Coder", "turnOver", "()V"⟩
abbrev w_Coder_turnOver : List Cond := .code y_Coder_turnOver b_Coder_turnOver 2 none :: gT
theorem gd_Coder_turnOver : GoodIn gT w_Coder_turnOver := gW wd_5_68
theorem d_Coder_turnOver_0 : decode b_Coder_turnOver 0 = .ok (.aload_n 0, 1) := by decide +kernel
theorem d_Coder_turnOver_1 : decode b_Coder_turnOver 1 = .ok (.getfield 15, 3) := by decide +kernel
theorem d_Coder_turnOver_4 : decode b_Coder_turnOver 4 = .ok (.astore_n 1, 1) := by decide +kernel
theorem d_Coder_turnOver_5 : decode b_Coder_turnOver 5 = .ok (.aload_n 0, 1) := by decide +kernel
theorem d_Coder_turnOver_6 : decode b_Coder_turnOver 6 = .ok (.aload_n 0, 1) := by decide +kernel
theorem d_Coder_turnOver_7 : decode b_Coder_turnOver 7 = .ok (.getfield 9, 3) := by decide +kernel
theorem d_Coder_turnOver_10 : decode b_Coder_turnOver 10 = .ok (.putfield 15, 3) := by decide +kernel
theorem d_Coder_turnOver_13 : decode b_Coder_turnOver 13 = .ok (.aload_n 0, 1) := by decide +kernel
theorem d_Coder_turnOver_14 : decode b_Coder_turnOver 14 = .ok (.aload_n 1, 1) := by decide +kernel
theorem d_Coder_turnOver_15 : decode b_Coder_turnOver 15 = .ok (.putfield 9, 3) := by decide +kernel
theorem d_Coder_turnOver_18 : decode b_Coder_turnOver 18 = .ok (.aload_n 0, 1) := by decide +kernel
theorem d_Coder_turnOver_19 : decode b_Coder_turnOver 19 = .ok (.aload_n 0, 1) := by decide +kernel
theorem d_Coder_turnOver_20 : decode b_Coder_turnOver 20 = .ok (.getfield 61, 3) := by decide +kernel
theorem d_Coder_turnOver_23 : decode b_Coder_turnOver 23 = .ok (.putfield 58, 3) := by decide +kernel
theorem d_Coder_turnOver_26 : decode b_Coder_turnOver 26 = .ok (.return_, 1) := by decide +kernel
abbrev b_FontShelf_setId : ByteArray := prog_3_method_3_code
abbrev y_FontShelf_setId : MethodName := ⟨"SheetPrinter$FontShelf", "setId", "(I)V"⟩
abbrev w_FontShelf_setId : List Cond := .code y_FontShelf_setId b_FontShelf_setId 2 none :: gT
theorem gd_FontShelf_setId : GoodIn gT w_FontShelf_setId := gW wd_7_104
theorem d_FontShelf_setId_0 : decode b_FontShelf_setId 0 = .ok (.aload_n 0, 1) := by decide +kernel
theorem d_FontShelf_setId_1 : decode b_FontShelf_setId 1 = .ok (.iload_n 1, 1) := by decide +kernel
theorem d_FontShelf_setId_2 : decode b_FontShelf_setId 2 = .ok (.putfield 59, 3) := by decide +kernel
theorem d_FontShelf_setId_5 : decode b_FontShelf_setId 5 = .ok (.return_, 1) := by decide +kernel
abbrev b_FontShelf_setCode : ByteArray := prog_3_method_4_code
abbrev y_FontShelf_setCode : MethodName := ⟨"SheetPrinter$FontShelf", "setCode", "(I)V"⟩
abbrev w_FontShelf_setCode : List Cond := .code y_FontShelf_setCode b_FontShelf_setCode 2 none :: gT
theorem gd_FontShelf_setCode : GoodIn gT w_FontShelf_setCode := gW wd_7_108
theorem d_FontShelf_setCode_0 : decode b_FontShelf_setCode 0 = .ok (.iload_n 1, 1) := by decide +kernel
theorem d_FontShelf_setCode_1 : decode b_FontShelf_setCode 1 = .ok (.sipush 255, 3) := by decide +kernel
theorem d_FontShelf_setCode_4 : decode b_FontShelf_setCode 4 = .ok (.if_icmp .gt 8, 3) := by decide +kernel
theorem d_FontShelf_setCode_7 : decode b_FontShelf_setCode 7 = .ok (.aload_n 0, 1) := by decide +kernel
theorem d_FontShelf_setCode_8 : decode b_FontShelf_setCode 8 = .ok (.iload_n 1, 1) := by decide +kernel
theorem d_FontShelf_setCode_9 : decode b_FontShelf_setCode 9 = .ok (.putfield 63, 3) := by decide +kernel
theorem d_FontShelf_setCode_12 : decode b_FontShelf_setCode 12 = .ok (.return_, 1) := by decide +kernel
abbrev b_Interpreter_waitToDo : ByteArray := prog_4_method_12_code
abbrev y_Interpreter_waitToDo : MethodName := ⟨"SheetPrinter$Interpreter", "waitToDo", "(II)V"⟩
abbrev w_Interpreter_waitToDo : List Cond := .code y_Interpreter_waitToDo b_Interpreter_waitToDo 3 none :: gT
theorem gd_Interpreter_waitToDo : GoodIn gT w_Interpreter_waitToDo := gW wd_6_215
theorem d_Interpreter_waitToDo_0 : decode b_Interpreter_waitToDo 0 = .ok (.aload_n 0, 1) := by decide +kernel
theorem d_Interpreter_waitToDo_1 : decode b_Interpreter_waitToDo 1 = .ok (.iload_n 1, 1) := by decide +kernel
theorem d_Interpreter_waitToDo_2 : decode b_Interpreter_waitToDo 2 = .ok (.putfield 218, 3) := by decide +kernel
theorem d_Interpreter_waitToDo_5 : decode b_Interpreter_waitToDo 5 = .ok (.aload_n 0, 1) := by decide +kernel
theorem d_Interpreter_waitToDo_6 : decode b_Interpreter_waitToDo 6 = .ok (.iload_n 2, 1) := by decide +kernel
theorem d_Interpreter_waitToDo_7 : decode b_Interpreter_waitToDo 7 = .ok (.putfield 221, 3) := by decide +kernel
theorem d_Interpreter_waitToDo_10 : decode b_Interpreter_waitToDo 10 = .ok (.return_, 1) := by decide +kernel
abbrev b_LineReader_turnOver : ByteArray := prog_5_method_7_code
abbrev y_LineReader_turnOver : MethodName := ⟨"SheetPrinter$LineReader", "turnOver", "()V"⟩
abbrev w_LineReader_turnOver : List Cond := .code y_LineReader_turnOver b_LineReader_turnOver 2 none :: gT
theorem gd_LineReader_turnOver : GoodIn gT w_LineReader_turnOver := gW wd_5_157
theorem d_LineReader_turnOver_0 : decode b_LineReader_turnOver 0 = .ok (.aload_n 0, 1) := by decide +kernel
theorem d_LineReader_turnOver_1 : decode b_LineReader_turnOver 1 = .ok (.getfield 22, 3) := by decide +kernel
theorem d_LineReader_turnOver_4 : decode b_LineReader_turnOver 4 = .ok (.astore_n 1, 1) := by decide +kernel
theorem d_LineReader_turnOver_5 : decode b_LineReader_turnOver 5 = .ok (.aload_n 0, 1) := by decide +kernel
theorem d_LineReader_turnOver_6 : decode b_LineReader_turnOver 6 = .ok (.aload_n 0, 1) := by decide +kernel
theorem d_LineReader_turnOver_7 : decode b_LineReader_turnOver 7 = .ok (.getfield 19, 3) := by decide +kernel
theorem d_LineReader_turnOver_10 : decode b_LineReader_turnOver 10 = .ok (.putfield 22, 3) := by decide +kernel
theorem d_LineReader_turnOver_13 : decode b_LineReader_turnOver 13 = .ok (.aload_n 0, 1) := by decide +kernel
theorem d_LineReader_turnOver_14 : decode b_LineReader_turnOver 14 = .ok (.aload_n 1, 1) := by decide +kernel
theorem d_LineReader_turnOver_15 : decode b_LineReader_turnOver 15 = .ok (.putfield 19, 3) := by decide +kernel
theorem d_LineReader_turnOver_18 : decode b_LineReader_turnOver 18 = .ok (.aload_n 0, 1) := by decide +kernel
theorem d_LineReader_turnOver_19 : decode b_LineReader_turnOver 19 = .ok (.aload_n 0, 1) := by decide +kernel
theorem d_LineReader_turnOver_20 : decode b_LineReader_turnOver 20 = .ok (.getfield 87, 3) := by decide +kernel
theorem d_LineReader_turnOver_23 : decode b_LineReader_turnOver 23 = .ok (.putfield 84, 3) := by decide +kernel
theorem d_LineReader_turnOver_26 : decode b_LineReader_turnOver 26 = .ok (.aload_n 0, 1) := by decide +kernel
theorem d_LineReader_turnOver_27 : decode b_LineReader_turnOver 27 = .ok (.iconst 0, 1) := by decide +kernel
theorem d_LineReader_turnOver_28 : decode b_LineReader_turnOver 28 = .ok (.putfield 87, 3) := by decide +kernel
theorem d_LineReader_turnOver_31 : decode b_LineReader_turnOver 31 = .ok (.aload_n 0, 1) := by decide +kernel
theorem d_LineReader_turnOver_32 : decode b_LineReader_turnOver 32 = .ok (.iconst (-1), 1) := by decide +kernel
theorem d_LineReader_turnOver_33 : decode b_LineReader_turnOver 33 = .ok (.putfield 116, 3) := by decide +kernel
theorem d_LineReader_turnOver_36 : decode b_LineReader_turnOver 36 = .ok (.aload_n 0, 1) := by decide +kernel
theorem d_LineReader_turnOver_37 : decode b_LineReader_turnOver 37 = .ok (.iconst 0, 1) := by decide +kernel
theorem d_LineReader_turnOver_38 : decode b_LineReader_turnOver 38 = .ok (.putfield 119, 3) := by decide +kernel
theorem d_LineReader_turnOver_41 : decode b_LineReader_turnOver 41 = .ok (.aload_n 0, 1) := by decide +kernel
theorem d_LineReader_turnOver_42 : decode b_LineReader_turnOver 42 = .ok (.iconst 0, 1) := by decide +kernel
theorem d_LineReader_turnOver_43 : decode b_LineReader_turnOver 43 = .ok (.putfield 122, 3) := by decide +kernel
theorem d_LineReader_turnOver_46 : decode b_LineReader_turnOver 46 = .ok (.return_, 1) := by decide +kernel
abbrev b_Macros_setId : ByteArray := prog_6_method_4_code
abbrev y_Macros_setId : MethodName := ⟨"SheetPrinter$Macros", "setId", "(I)V"⟩
abbrev w_Macros_setId : List Cond := .code y_Macros_setId b_Macros_setId 2 none :: gT
theorem gd_Macros_setId : GoodIn gT w_Macros_setId := gW wd_7_87
theorem d_Macros_setId_0 : decode b_Macros_setId 0 = .ok (.aload_n 0, 1) := by decide +kernel
theorem d_Macros_setId_1 : decode b_Macros_setId 1 = .ok (.iload_n 1, 1) := by decide +kernel
theorem d_Macros_setId_2 : decode b_Macros_setId 2 = .ok (.putfield 48, 3) := by decide +kernel
theorem d_Macros_setId_5 : decode b_Macros_setId 5 = .ok (.return_, 1) := by decide +kernel
abbrev b_OutFile_evenLength : ByteArray := prog_7_method_5_code
abbrev y_OutFile_evenLength : MethodName := ⟨"SheetPrinter$OutFile", "evenLength", "()I"⟩
abbrev w_OutFile_evenLength : List Cond := .code y_OutFile_evenLength b_OutFile_evenLength 1 (some .int) :: gT
theorem gd_OutFile_evenLength : GoodIn gT w_OutFile_evenLength := gW wd_4_224
theorem d_OutFile_evenLength_0 : decode b_OutFile_evenLength 0 = .ok (.aload_n 0, 1) := by decide +kernel
theorem d_OutFile_evenLength_1 : decode b_OutFile_evenLength 1 = .ok (.getfield 18, 3) := by decide +kernel
theorem d_OutFile_evenLength_4 : decode b_OutFile_evenLength 4 = .ok (.aload_n 0, 1) := by decide +kernel
theorem d_OutFile_evenLength_5 : decode b_OutFile_evenLength 5 = .ok (.getfield 18, 3) := by decide +kernel
theorem d_OutFile_evenLength_8 : decode b_OutFile_evenLength 8 = .ok (.iconst 1, 1) := by decide +kernel
theorem d_OutFile_evenLength_9 : decode b_OutFile_evenLength 9 = .ok (.iand, 1) := by decide +kernel
theorem d_OutFile_evenLength_10 : decode b_OutFile_evenLength 10 = .ok (.iadd, 1) := by decide +kernel
theorem d_OutFile_evenLength_11 : decode b_OutFile_evenLength 11 = .ok (.ireturn, 1) := by decide +kernel
abbrev b_Page_dotDown : ByteArray := prog_8_method_16_code
abbrev y_Page_dotDown : MethodName := ⟨"SheetPrinter$Page", "dotDown", "(I)I"⟩
abbrev w_Page_dotDown : List Cond := .code y_Page_dotDown b_Page_dotDown 2 (some .int) :: gT
theorem gd_Page_dotDown : GoodIn gT w_Page_dotDown := gW wd_7_152
theorem d_Page_dotDown_0 : decode b_Page_dotDown 0 = .ok (.iload_n 1, 1) := by decide +kernel
theorem d_Page_dotDown_1 : decode b_Page_dotDown 1 = .ok (.aload_n 0, 1) := by decide +kernel
theorem d_Page_dotDown_2 : decode b_Page_dotDown 2 = .ok (.getfield 18, 3) := by decide +kernel
theorem d_Page_dotDown_5 : decode b_Page_dotDown 5 = .ok (.imul, 1) := by decide +kernel
theorem d_Page_dotDown_6 : decode b_Page_dotDown 6 = .ok (.sipush 7200, 3) := by decide +kernel
theorem d_Page_dotDown_9 : decode b_Page_dotDown 9 = .ok (.idiv, 1) := by decide +kernel
theorem d_Page_dotDown_10 : decode b_Page_dotDown 10 = .ok (.ireturn, 1) := by decide +kernel
abbrev b_Page_fits : ByteArray := prog_8_method_28_code
abbrev y_Page_fits : MethodName := ⟨"SheetPrinter$Page", "fits", "(I)Z"⟩
abbrev w_Page_fits : List Cond := .code y_Page_fits b_Page_fits 2 (some .boolean) :: gT
theorem gd_Page_fits : GoodIn gT w_Page_fits := gW wd_6_199
theorem d_Page_fits_0 : decode b_Page_fits 0 = .ok (.aload_n 0, 1) := by decide +kernel
theorem d_Page_fits_1 : decode b_Page_fits 1 = .ok (.getfield 121, 3) := by decide +kernel
theorem d_Page_fits_4 : decode b_Page_fits 4 = .ok (.aload_n 0, 1) := by decide +kernel
theorem d_Page_fits_5 : decode b_Page_fits 5 = .ok (.getfield 75, 3) := by decide +kernel
theorem d_Page_fits_8 : decode b_Page_fits 8 = .ok (.if_icmp .ge 20, 3) := by decide +kernel
theorem d_Page_fits_11 : decode b_Page_fits 11 = .ok (.aload_n 0, 1) := by decide +kernel
theorem d_Page_fits_12 : decode b_Page_fits 12 = .ok (.getfield 121, 3) := by decide +kernel
theorem d_Page_fits_15 : decode b_Page_fits 15 = .ok (.iload_n 1, 1) := by decide +kernel
theorem d_Page_fits_16 : decode b_Page_fits 16 = .ok (.iadd, 1) := by decide +kernel
theorem d_Page_fits_17 : decode b_Page_fits 17 = .ok (.aload_n 0, 1) := by decide +kernel
theorem d_Page_fits_18 : decode b_Page_fits 18 = .ok (.getfield 75, 3) := by decide +kernel
theorem d_Page_fits_21 : decode b_Page_fits 21 = .ok (.if_icmp .gt 7, 3) := by decide +kernel
theorem d_Page_fits_24 : decode b_Page_fits 24 = .ok (.iconst 1, 1) := by decide +kernel
theorem d_Page_fits_25 : decode b_Page_fits 25 = .ok (.goto 4, 3) := by decide +kernel
theorem d_Page_fits_28 : decode b_Page_fits 28 = .ok (.iconst 0, 1) := by decide +kernel
theorem d_Page_fits_29 : decode b_Page_fits 29 = .ok (.ireturn, 1) := by decide +kernel
abbrev b_Parser_takePlain : ByteArray := prog_9_method_4_code
abbrev y_Parser_takePlain : MethodName := ⟨"SheetPrinter$Parser", "takePlain", "(I)I"⟩
abbrev w_Parser_takePlain : List Cond := .code y_Parser_takePlain b_Parser_takePlain 2 (some .int) :: gT
theorem gd_Parser_takePlain : GoodIn gT w_Parser_takePlain := gW wd_6_158
theorem d_Parser_takePlain_0 : decode b_Parser_takePlain 0 = .ok (.iload_n 1, 1) := by decide +kernel
theorem d_Parser_takePlain_1 : decode b_Parser_takePlain 1 = .ok (.bipush 27, 2) := by decide +kernel
theorem d_Parser_takePlain_3 : decode b_Parser_takePlain 3 = .ok (.if_icmp .ne 10, 3) := by decide +kernel
theorem d_Parser_takePlain_6 : decode b_Parser_takePlain 6 = .ok (.aload_n 0, 1) := by decide +kernel
theorem d_Parser_takePlain_7 : decode b_Parser_takePlain 7 = .ok (.iconst 1, 1) := by decide +kernel
theorem d_Parser_takePlain_8 : decode b_Parser_takePlain 8 = .ok (.putfield 13, 3) := by decide +kernel
theorem d_Parser_takePlain_11 : decode b_Parser_takePlain 11 = .ok (.iconst 0, 1) := by decide +kernel
theorem d_Parser_takePlain_12 : decode b_Parser_takePlain 12 = .ok (.ireturn, 1) := by decide +kernel
theorem d_Parser_takePlain_13 : decode b_Parser_takePlain 13 = .ok (.iload_n 1, 1) := by decide +kernel
theorem d_Parser_takePlain_14 : decode b_Parser_takePlain 14 = .ok (.bipush 32, 2) := by decide +kernel
theorem d_Parser_takePlain_16 : decode b_Parser_takePlain 16 = .ok (.if_icmp .lt 7, 3) := by decide +kernel
theorem d_Parser_takePlain_19 : decode b_Parser_takePlain 19 = .ok (.iconst 1, 1) := by decide +kernel
theorem d_Parser_takePlain_20 : decode b_Parser_takePlain 20 = .ok (.goto 4, 3) := by decide +kernel
theorem d_Parser_takePlain_23 : decode b_Parser_takePlain 23 = .ok (.iconst 2, 1) := by decide +kernel
theorem d_Parser_takePlain_24 : decode b_Parser_takePlain 24 = .ok (.ireturn, 1) := by decide +kernel
abbrev b_Parser_takeEscaped : ByteArray := prog_9_method_5_code
abbrev y_Parser_takeEscaped : MethodName := ⟨"SheetPrinter$Parser", "takeEscaped", "(I)I"⟩
abbrev w_Parser_takeEscaped : List Cond := .code y_Parser_takeEscaped b_Parser_takeEscaped 2 (some .int) :: gT
theorem gd_Parser_takeEscaped : GoodIn gT w_Parser_takeEscaped := gW wd_6_162
theorem d_Parser_takeEscaped_0 : decode b_Parser_takeEscaped 0 = .ok (.iload_n 1, 1) := by decide +kernel
theorem d_Parser_takeEscaped_1 : decode b_Parser_takeEscaped 1 = .ok (.bipush 27, 2) := by decide +kernel
theorem d_Parser_takeEscaped_3 : decode b_Parser_takeEscaped 3 = .ok (.if_icmp .ne 5, 3) := by decide +kernel
theorem d_Parser_takeEscaped_6 : decode b_Parser_takeEscaped 6 = .ok (.iconst 0, 1) := by decide +kernel
theorem d_Parser_takeEscaped_7 : decode b_Parser_takeEscaped 7 = .ok (.ireturn, 1) := by decide +kernel
theorem d_Parser_takeEscaped_8 : decode b_Parser_takeEscaped 8 = .ok (.aload_n 0, 1) := by decide +kernel
theorem d_Parser_takeEscaped_9 : decode b_Parser_takeEscaped 9 = .ok (.iconst 0, 1) := by decide +kernel
theorem d_Parser_takeEscaped_10 : decode b_Parser_takeEscaped 10 = .ok (.putfield 13, 3) := by decide +kernel
theorem d_Parser_takeEscaped_13 : decode b_Parser_takeEscaped 13 = .ok (.iload_n 1, 1) := by decide +kernel
theorem d_Parser_takeEscaped_14 : decode b_Parser_takeEscaped 14 = .ok (.bipush 33, 2) := by decide +kernel
theorem d_Parser_takeEscaped_16 : decode b_Parser_takeEscaped 16 = .ok (.if_icmp .lt 19, 3) := by decide +kernel
theorem d_Parser_takeEscaped_19 : decode b_Parser_takeEscaped 19 = .ok (.iload_n 1, 1) := by decide +kernel
theorem d_Parser_takeEscaped_20 : decode b_Parser_takeEscaped 20 = .ok (.bipush 47, 2) := by decide +kernel
theorem d_Parser_takeEscaped_22 : decode b_Parser_takeEscaped 22 = .ok (.if_icmp .gt 13, 3) := by decide +kernel
theorem d_Parser_takeEscaped_25 : decode b_Parser_takeEscaped 25 = .ok (.aload_n 0, 1) := by decide +kernel
theorem d_Parser_takeEscaped_26 : decode b_Parser_takeEscaped 26 = .ok (.iload_n 1, 1) := by decide +kernel
theorem d_Parser_takeEscaped_27 : decode b_Parser_takeEscaped 27 = .ok (.putfield 43, 3) := by decide +kernel
theorem d_Parser_takeEscaped_30 : decode b_Parser_takeEscaped 30 = .ok (.aload_n 0, 1) := by decide +kernel
theorem d_Parser_takeEscaped_31 : decode b_Parser_takeEscaped 31 = .ok (.iconst 2, 1) := by decide +kernel
theorem d_Parser_takeEscaped_32 : decode b_Parser_takeEscaped 32 = .ok (.putfield 13, 3) := by decide +kernel
theorem d_Parser_takeEscaped_35 : decode b_Parser_takeEscaped 35 = .ok (.iload_n 1, 1) := by decide +kernel
theorem d_Parser_takeEscaped_36 : decode b_Parser_takeEscaped 36 = .ok (.bipush 48, 2) := by decide +kernel
theorem d_Parser_takeEscaped_38 : decode b_Parser_takeEscaped 38 = .ok (.if_icmp .lt 13, 3) := by decide +kernel
theorem d_Parser_takeEscaped_41 : decode b_Parser_takeEscaped 41 = .ok (.iload_n 1, 1) := by decide +kernel
theorem d_Parser_takeEscaped_42 : decode b_Parser_takeEscaped 42 = .ok (.bipush 126, 2) := by decide +kernel
theorem d_Parser_takeEscaped_44 : decode b_Parser_takeEscaped 44 = .ok (.if_icmp .gt 7, 3) := by decide +kernel
theorem d_Parser_takeEscaped_47 : decode b_Parser_takeEscaped 47 = .ok (.iconst 3, 1) := by decide +kernel
theorem d_Parser_takeEscaped_48 : decode b_Parser_takeEscaped 48 = .ok (.goto 4, 3) := by decide +kernel
theorem d_Parser_takeEscaped_51 : decode b_Parser_takeEscaped 51 = .ok (.iconst 0, 1) := by decide +kernel
theorem d_Parser_takeEscaped_52 : decode b_Parser_takeEscaped 52 = .ok (.ireturn, 1) := by decide +kernel
abbrev b_Parser_beginField : ByteArray := prog_9_method_6_code
abbrev y_Parser_beginField : MethodName := ⟨"SheetPrinter$Parser", "beginField", "()V"⟩
abbrev w_Parser_beginField : List Cond := .code y_Parser_beginField b_Parser_beginField 1 none :: gT
theorem gd_Parser_beginField : GoodIn gT w_Parser_beginField := gW wd_6_137
theorem d_Parser_beginField_0 : decode b_Parser_beginField 0 = .ok (.aload_n 0, 1) := by decide +kernel
theorem d_Parser_beginField_1 : decode b_Parser_beginField 1 = .ok (.iconst 0, 1) := by decide +kernel
theorem d_Parser_beginField_2 : decode b_Parser_beginField 2 = .ok (.putfield 46, 3) := by decide +kernel
theorem d_Parser_beginField_5 : decode b_Parser_beginField 5 = .ok (.aload_n 0, 1) := by decide +kernel
theorem d_Parser_beginField_6 : decode b_Parser_beginField 6 = .ok (.iconst 0, 1) := by decide +kernel
theorem d_Parser_beginField_7 : decode b_Parser_beginField 7 = .ok (.putfield 49, 3) := by decide +kernel
theorem d_Parser_beginField_10 : decode b_Parser_beginField 10 = .ok (.aload_n 0, 1) := by decide +kernel
theorem d_Parser_beginField_11 : decode b_Parser_beginField 11 = .ok (.iconst 0, 1) := by decide +kernel
theorem d_Parser_beginField_12 : decode b_Parser_beginField 12 = .ok (.putfield 52, 3) := by decide +kernel
theorem d_Parser_beginField_15 : decode b_Parser_beginField 15 = .ok (.aload_n 0, 1) := by decide +kernel
theorem d_Parser_beginField_16 : decode b_Parser_beginField 16 = .ok (.iconst 0, 1) := by decide +kernel
theorem d_Parser_beginField_17 : decode b_Parser_beginField 17 = .ok (.putfield 55, 3) := by decide +kernel
theorem d_Parser_beginField_20 : decode b_Parser_beginField 20 = .ok (.aload_n 0, 1) := by decide +kernel
theorem d_Parser_beginField_21 : decode b_Parser_beginField 21 = .ok (.sipush 1000, 3) := by decide +kernel
theorem d_Parser_beginField_24 : decode b_Parser_beginField 24 = .ok (.putfield 58, 3) := by decide +kernel
theorem d_Parser_beginField_27 : decode b_Parser_beginField 27 = .ok (.return_, 1) := by decide +kernel
abbrev b_Parser_finishField : ByteArray := prog_9_method_10_code
abbrev y_Parser_finishField : MethodName := ⟨"SheetPrinter$Parser", "finishField", "()I"⟩
abbrev w_Parser_finishField : List Cond := .code y_Parser_finishField b_Parser_finishField 1 (some .int) :: gT
theorem gd_Parser_finishField : GoodIn gT w_Parser_finishField := gW wd_6_154
theorem d_Parser_finishField_0 : decode b_Parser_finishField 0 = .ok (.aload_n 0, 1) := by decide +kernel
theorem d_Parser_finishField_1 : decode b_Parser_finishField 1 = .ok (.aload_n 0, 1) := by decide +kernel
theorem d_Parser_finishField_2 : decode b_Parser_finishField 2 = .ok (.getfield 74, 3) := by decide +kernel
theorem d_Parser_finishField_5 : decode b_Parser_finishField 5 = .ok (.ifCond .eq 7, 3) := by decide +kernel
theorem d_Parser_finishField_8 : decode b_Parser_finishField 8 = .ok (.iconst 0, 1) := by decide +kernel
theorem d_Parser_finishField_9 : decode b_Parser_finishField 9 = .ok (.goto 4, 3) := by decide +kernel
theorem d_Parser_finishField_12 : decode b_Parser_finishField 12 = .ok (.iconst 3, 1) := by decide +kernel
theorem d_Parser_finishField_13 : decode b_Parser_finishField 13 = .ok (.putfield 13, 3) := by decide +kernel
theorem d_Parser_finishField_16 : decode b_Parser_finishField 16 = .ok (.aload_n 0, 1) := by decide +kernel
theorem d_Parser_finishField_17 : decode b_Parser_finishField 17 = .ok (.getfield 74, 3) := by decide +kernel
theorem d_Parser_finishField_20 : decode b_Parser_finishField 20 = .ok (.ifCond .eq 8, 3) := by decide +kernel
theorem d_Parser_finishField_23 : decode b_Parser_finishField 23 = .ok (.bipush 8, 2) := by decide +kernel
theorem d_Parser_finishField_25 : decode b_Parser_finishField 25 = .ok (.goto 4, 3) := by decide +kernel
theorem d_Parser_finishField_28 : decode b_Parser_finishField 28 = .ok (.iconst 0, 1) := by decide +kernel
theorem d_Parser_finishField_29 : decode b_Parser_finishField 29 = .ok (.ireturn, 1) := by decide +kernel
abbrev b_Parser_signedNumber : ByteArray := prog_9_method_15_code
abbrev y_Parser_signedNumber : MethodName := ⟨"SheetPrinter$Parser", "signedNumber", "()I"⟩
abbrev w_Parser_signedNumber : List Cond := .code y_Parser_signedNumber b_Parser_signedNumber 1 (some .int) :: gT
theorem gd_Parser_signedNumber : GoodIn gT w_Parser_signedNumber := gW wd_8_45
theorem d_Parser_signedNumber_0 : decode b_Parser_signedNumber 0 = .ok (.aload_n 0, 1) := by decide +kernel
theorem d_Parser_signedNumber_1 : decode b_Parser_signedNumber 1 = .ok (.getfield 84, 3) := by decide +kernel
theorem d_Parser_signedNumber_4 : decode b_Parser_signedNumber 4 = .ok (.sipush 10000, 3) := by decide +kernel
theorem d_Parser_signedNumber_7 : decode b_Parser_signedNumber 7 = .ok (.idiv, 1) := by decide +kernel
theorem d_Parser_signedNumber_8 : decode b_Parser_signedNumber 8 = .ok (.ireturn, 1) := by decide +kernel
abbrev b_PictureFile_hasPage : ByteArray := prog_10_method_3_code
abbrev y_PictureFile_hasPage : MethodName := ⟨"SheetPrinter$PictureFile", "hasPage", "()Z"⟩
abbrev w_PictureFile_hasPage : List Cond := .code y_PictureFile_hasPage b_PictureFile_hasPage 1 (some .boolean) :: gT
theorem gd_PictureFile_hasPage : GoodIn gT w_PictureFile_hasPage := gW wd_8_184
theorem d_PictureFile_hasPage_0 : decode b_PictureFile_hasPage 0 = .ok (.aload_n 0, 1) := by decide +kernel
theorem d_PictureFile_hasPage_1 : decode b_PictureFile_hasPage 1 = .ok (.getfield 56, 3) := by decide +kernel
theorem d_PictureFile_hasPage_4 : decode b_PictureFile_hasPage 4 = .ok (.lconst 0, 1) := by decide +kernel
theorem d_PictureFile_hasPage_5 : decode b_PictureFile_hasPage 5 = .ok (.lcmp, 1) := by decide +kernel
theorem d_PictureFile_hasPage_6 : decode b_PictureFile_hasPage 6 = .ok (.ifCond .eq 7, 3) := by decide +kernel
theorem d_PictureFile_hasPage_9 : decode b_PictureFile_hasPage 9 = .ok (.iconst 1, 1) := by decide +kernel
theorem d_PictureFile_hasPage_10 : decode b_PictureFile_hasPage 10 = .ok (.goto 4, 3) := by decide +kernel
theorem d_PictureFile_hasPage_13 : decode b_PictureFile_hasPage 13 = .ok (.iconst 0, 1) := by decide +kernel
theorem d_PictureFile_hasPage_14 : decode b_PictureFile_hasPage 14 = .ok (.ireturn, 1) := by decide +kernel
abbrev b_PictureFile_canBe : ByteArray := prog_10_method_7_code
abbrev y_PictureFile_canBe : MethodName := ⟨"SheetPrinter$PictureFile", "canBe", "(II)Z"⟩
abbrev w_PictureFile_canBe : List Cond := .code y_PictureFile_canBe b_PictureFile_canBe 2 (some .boolean) :: gT
theorem gd_PictureFile_canBe : GoodIn gT w_PictureFile_canBe := gW wd_8_145
theorem d_PictureFile_canBe_0 : decode b_PictureFile_canBe 0 = .ok (.iload_n 0, 1) := by decide +kernel
theorem d_PictureFile_canBe_1 : decode b_PictureFile_canBe 1 = .ok (.bipush 8, 2) := by decide +kernel
theorem d_PictureFile_canBe_3 : decode b_PictureFile_canBe 3 = .ok (.if_icmp .eq 9, 3) := by decide +kernel
theorem d_PictureFile_canBe_6 : decode b_PictureFile_canBe 6 = .ok (.iload_n 0, 1) := by decide +kernel
theorem d_PictureFile_canBe_7 : decode b_PictureFile_canBe 7 = .ok (.bipush 9, 2) := by decide +kernel
theorem d_PictureFile_canBe_9 : decode b_PictureFile_canBe 9 = .ok (.if_icmp .ne 14, 3) := by decide +kernel
theorem d_PictureFile_canBe_12 : decode b_PictureFile_canBe 12 = .ok (.iload_n 1, 1) := by decide +kernel
theorem d_PictureFile_canBe_13 : decode b_PictureFile_canBe 13 = .ok (.iconst 5, 1) := by decide +kernel
theorem d_PictureFile_canBe_14 : decode b_PictureFile_canBe 14 = .ok (.if_icmp .ne 7, 3) := by decide +kernel
theorem d_PictureFile_canBe_17 : decode b_PictureFile_canBe 17 = .ok (.iconst 1, 1) := by decide +kernel
theorem d_PictureFile_canBe_18 : decode b_PictureFile_canBe 18 = .ok (.goto 4, 3) := by decide +kernel
theorem d_PictureFile_canBe_21 : decode b_PictureFile_canBe 21 = .ok (.iconst 0, 1) := by decide +kernel
theorem d_PictureFile_canBe_22 : decode b_PictureFile_canBe 22 = .ok (.ireturn, 1) := by decide +kernel
theorem d_PictureFile_canBe_23 : decode b_PictureFile_canBe 23 = .ok (.iload_n 0, 1) := by decide +kernel
theorem d_PictureFile_canBe_24 : decode b_PictureFile_canBe 24 = .ok (.iconst 2, 1) := by decide +kernel
theorem d_PictureFile_canBe_25 : decode b_PictureFile_canBe 25 = .ok (.if_icmp .eq 19, 3) := by decide +kernel
theorem d_PictureFile_canBe_28 : decode b_PictureFile_canBe 28 = .ok (.iload_n 0, 1) := by decide +kernel
theorem d_PictureFile_canBe_29 : decode b_PictureFile_canBe 29 = .ok (.iconst 3, 1) := by decide +kernel
theorem d_PictureFile_canBe_30 : decode b_PictureFile_canBe 30 = .ok (.if_icmp .eq 14, 3) := by decide +kernel
theorem d_PictureFile_canBe_33 : decode b_PictureFile_canBe 33 = .ok (.iload_n 0, 1) := by decide +kernel
theorem d_PictureFile_canBe_34 : decode b_PictureFile_canBe 34 = .ok (.iconst 4, 1) := by decide +kernel
theorem d_PictureFile_canBe_35 : decode b_PictureFile_canBe 35 = .ok (.if_icmp .eq 9, 3) := by decide +kernel
theorem d_PictureFile_canBe_38 : decode b_PictureFile_canBe 38 = .ok (.iload_n 0, 1) := by decide +kernel
theorem d_PictureFile_canBe_39 : decode b_PictureFile_canBe 39 = .ok (.bipush 10, 2) := by decide +kernel
theorem d_PictureFile_canBe_41 : decode b_PictureFile_canBe 41 = .ok (.if_icmp .ne 14, 3) := by decide +kernel
theorem d_PictureFile_canBe_44 : decode b_PictureFile_canBe 44 = .ok (.iload_n 1, 1) := by decide +kernel
theorem d_PictureFile_canBe_45 : decode b_PictureFile_canBe 45 = .ok (.iconst 3, 1) := by decide +kernel
theorem d_PictureFile_canBe_46 : decode b_PictureFile_canBe 46 = .ok (.if_icmp .ne 7, 3) := by decide +kernel
theorem d_PictureFile_canBe_49 : decode b_PictureFile_canBe 49 = .ok (.iconst 1, 1) := by decide +kernel
theorem d_PictureFile_canBe_50 : decode b_PictureFile_canBe 50 = .ok (.goto 4, 3) := by decide +kernel
theorem d_PictureFile_canBe_53 : decode b_PictureFile_canBe 53 = .ok (.iconst 0, 1) := by decide +kernel
theorem d_PictureFile_canBe_54 : decode b_PictureFile_canBe 54 = .ok (.ireturn, 1) := by decide +kernel
theorem d_PictureFile_canBe_55 : decode b_PictureFile_canBe 55 = .ok (.iload_n 1, 1) := by decide +kernel
theorem d_PictureFile_canBe_56 : decode b_PictureFile_canBe 56 = .ok (.iconst 3, 1) := by decide +kernel
theorem d_PictureFile_canBe_57 : decode b_PictureFile_canBe 57 = .ok (.if_icmp .eq 8, 3) := by decide +kernel
theorem d_PictureFile_canBe_60 : decode b_PictureFile_canBe 60 = .ok (.iload_n 1, 1) := by decide +kernel
theorem d_PictureFile_canBe_61 : decode b_PictureFile_canBe 61 = .ok (.iconst 4, 1) := by decide +kernel
theorem d_PictureFile_canBe_62 : decode b_PictureFile_canBe 62 = .ok (.if_icmp .ne 7, 3) := by decide +kernel
theorem d_PictureFile_canBe_65 : decode b_PictureFile_canBe 65 = .ok (.iconst 1, 1) := by decide +kernel
theorem d_PictureFile_canBe_66 : decode b_PictureFile_canBe 66 = .ok (.goto 4, 3) := by decide +kernel
theorem d_PictureFile_canBe_69 : decode b_PictureFile_canBe 69 = .ok (.iconst 0, 1) := by decide +kernel
theorem d_PictureFile_canBe_70 : decode b_PictureFile_canBe 70 = .ok (.ireturn, 1) := by decide +kernel
abbrev b_Raster_setResolution : ByteArray := prog_11_method_3_code
abbrev y_Raster_setResolution : MethodName := ⟨"SheetPrinter$Raster", "setResolution", "(I)V"⟩
abbrev w_Raster_setResolution : List Cond := .code y_Raster_setResolution b_Raster_setResolution 2 none :: gT
theorem gd_Raster_setResolution : GoodIn gT w_Raster_setResolution := gW wd_7_185
theorem d_Raster_setResolution_0 : decode b_Raster_setResolution 0 = .ok (.aload_n 0, 1) := by decide +kernel
theorem d_Raster_setResolution_1 : decode b_Raster_setResolution 1 = .ok (.getfield 20, 3) := by decide +kernel
theorem d_Raster_setResolution_4 : decode b_Raster_setResolution 4 = .ok (.ifCond .ne 34, 3) := by decide +kernel
theorem d_Raster_setResolution_7 : decode b_Raster_setResolution 7 = .ok (.iload_n 1, 1) := by decide +kernel
theorem d_Raster_setResolution_8 : decode b_Raster_setResolution 8 = .ok (.bipush 75, 2) := by decide +kernel
theorem d_Raster_setResolution_10 : decode b_Raster_setResolution 10 = .ok (.if_icmp .eq 23, 3) := by decide +kernel
theorem d_Raster_setResolution_13 : decode b_Raster_setResolution 13 = .ok (.iload_n 1, 1) := by decide +kernel
theorem d_Raster_setResolution_14 : decode b_Raster_setResolution 14 = .ok (.bipush 100, 2) := by decide +kernel
theorem d_Raster_setResolution_16 : decode b_Raster_setResolution 16 = .ok (.if_icmp .eq 17, 3) := by decide +kernel
theorem d_Raster_setResolution_19 : decode b_Raster_setResolution 19 = .ok (.iload_n 1, 1) := by decide +kernel
theorem d_Raster_setResolution_20 : decode b_Raster_setResolution 20 = .ok (.sipush 150, 3) := by decide +kernel
theorem d_Raster_setResolution_23 : decode b_Raster_setResolution 23 = .ok (.if_icmp .eq 10, 3) := by decide +kernel
theorem d_Raster_setResolution_26 : decode b_Raster_setResolution 26 = .ok (.iload_n 1, 1) := by decide +kernel
theorem d_Raster_setResolution_27 : decode b_Raster_setResolution 27 = .ok (.sipush 300, 3) := by decide +kernel
theorem d_Raster_setResolution_30 : decode b_Raster_setResolution 30 = .ok (.if_icmp .ne 8, 3) := by decide +kernel
theorem d_Raster_setResolution_33 : decode b_Raster_setResolution 33 = .ok (.aload_n 0, 1) := by decide +kernel
theorem d_Raster_setResolution_34 : decode b_Raster_setResolution 34 = .ok (.iload_n 1, 1) := by decide +kernel
theorem d_Raster_setResolution_35 : decode b_Raster_setResolution 35 = .ok (.putfield 24, 3) := by decide +kernel
theorem d_Raster_setResolution_38 : decode b_Raster_setResolution 38 = .ok (.return_, 1) := by decide +kernel
abbrev b_Raster_setNextWidth : ByteArray := prog_11_method_4_code
abbrev y_Raster_setNextWidth : MethodName := ⟨"SheetPrinter$Raster", "setNextWidth", "(I)V"⟩
abbrev w_Raster_setNextWidth : List Cond := .code y_Raster_setNextWidth b_Raster_setNextWidth 2 none :: gT
theorem gd_Raster_setNextWidth : GoodIn gT w_Raster_setNextWidth := gW wd_7_193
theorem d_Raster_setNextWidth_0 : decode b_Raster_setNextWidth 0 = .ok (.aload_n 0, 1) := by decide +kernel
theorem d_Raster_setNextWidth_1 : decode b_Raster_setNextWidth 1 = .ok (.iload_n 1, 1) := by decide +kernel
theorem d_Raster_setNextWidth_2 : decode b_Raster_setNextWidth 2 = .ok (.sipush 5119, 3) := by decide +kernel
theorem d_Raster_setNextWidth_5 : decode b_Raster_setNextWidth 5 = .ok (.if_icmp .gt 7, 3) := by decide +kernel
theorem d_Raster_setNextWidth_8 : decode b_Raster_setNextWidth 8 = .ok (.iload_n 1, 1) := by decide +kernel
theorem d_Raster_setNextWidth_9 : decode b_Raster_setNextWidth 9 = .ok (.goto 7, 3) := by decide +kernel
theorem d_Raster_setNextWidth_12 : decode b_Raster_setNextWidth 12 = .ok (.aload_n 0, 1) := by decide +kernel
theorem d_Raster_setNextWidth_13 : decode b_Raster_setNextWidth 13 = .ok (.getfield 30, 3) := by decide +kernel
theorem d_Raster_setNextWidth_16 : decode b_Raster_setNextWidth 16 = .ok (.putfield 30, 3) := by decide +kernel
theorem d_Raster_setNextWidth_19 : decode b_Raster_setNextWidth 19 = .ok (.return_, 1) := by decide +kernel
abbrev b_Raster_setNextHeight : ByteArray := prog_11_method_5_code
abbrev y_Raster_setNextHeight : MethodName := ⟨"SheetPrinter$Raster", "setNextHeight", "(I)V"⟩
abbrev w_Raster_setNextHeight : List Cond := .code y_Raster_setNextHeight b_Raster_setNextHeight 2 none :: gT
theorem gd_Raster_setNextHeight : GoodIn gT w_Raster_setNextHeight := gW wd_7_197
theorem d_Raster_setNextHeight_0 : decode b_Raster_setNextHeight 0 = .ok (.aload_n 0, 1) := by decide +kernel
theorem d_Raster_setNextHeight_1 : decode b_Raster_setNextHeight 1 = .ok (.iload_n 1, 1) := by decide +kernel
theorem d_Raster_setNextHeight_2 : decode b_Raster_setNextHeight 2 = .ok (.sipush 5119, 3) := by decide +kernel
theorem d_Raster_setNextHeight_5 : decode b_Raster_setNextHeight 5 = .ok (.if_icmp .gt 7, 3) := by decide +kernel
theorem d_Raster_setNextHeight_8 : decode b_Raster_setNextHeight 8 = .ok (.iload_n 1, 1) := by decide +kernel
theorem d_Raster_setNextHeight_9 : decode b_Raster_setNextHeight 9 = .ok (.goto 7, 3) := by decide +kernel
theorem d_Raster_setNextHeight_12 : decode b_Raster_setNextHeight 12 = .ok (.aload_n 0, 1) := by decide +kernel
theorem d_Raster_setNextHeight_13 : decode b_Raster_setNextHeight 13 = .ok (.getfield 33, 3) := by decide +kernel
theorem d_Raster_setNextHeight_16 : decode b_Raster_setNextHeight 16 = .ok (.putfield 33, 3) := by decide +kernel
theorem d_Raster_setNextHeight_19 : decode b_Raster_setNextHeight 19 = .ok (.return_, 1) := by decide +kernel
abbrev b_Raster_setMethod : ByteArray := prog_11_method_6_code
abbrev y_Raster_setMethod : MethodName := ⟨"SheetPrinter$Raster", "setMethod", "(I)V"⟩
abbrev w_Raster_setMethod : List Cond := .code y_Raster_setMethod b_Raster_setMethod 2 none :: gT
theorem gd_Raster_setMethod : GoodIn gT w_Raster_setMethod := gW wd_7_219
theorem d_Raster_setMethod_0 : decode b_Raster_setMethod 0 = .ok (.aload_n 0, 1) := by decide +kernel
theorem d_Raster_setMethod_1 : decode b_Raster_setMethod 1 = .ok (.iload_n 1, 1) := by decide +kernel
theorem d_Raster_setMethod_2 : decode b_Raster_setMethod 2 = .ok (.ifCond .lt 12, 3) := by decide +kernel
theorem d_Raster_setMethod_5 : decode b_Raster_setMethod 5 = .ok (.iload_n 1, 1) := by decide +kernel
theorem d_Raster_setMethod_6 : decode b_Raster_setMethod 6 = .ok (.iconst 3, 1) := by decide +kernel
theorem d_Raster_setMethod_7 : decode b_Raster_setMethod 7 = .ok (.if_icmp .gt 7, 3) := by decide +kernel
theorem d_Raster_setMethod_10 : decode b_Raster_setMethod 10 = .ok (.iload_n 1, 1) := by decide +kernel
theorem d_Raster_setMethod_11 : decode b_Raster_setMethod 11 = .ok (.goto 7, 3) := by decide +kernel
theorem d_Raster_setMethod_14 : decode b_Raster_setMethod 14 = .ok (.aload_n 0, 1) := by decide +kernel
theorem d_Raster_setMethod_15 : decode b_Raster_setMethod 15 = .ok (.getfield 27, 3) := by decide +kernel
theorem d_Raster_setMethod_18 : decode b_Raster_setMethod 18 = .ok (.putfield 27, 3) := by decide +kernel
theorem d_Raster_setMethod_21 : decode b_Raster_setMethod 21 = .ok (.return_, 1) := by decide +kernel
abbrev b_Raster_close : ByteArray := prog_11_method_9_code
abbrev y_Raster_close : MethodName := ⟨"SheetPrinter$Raster", "close", "()I"⟩
abbrev w_Raster_close : List Cond := .code y_Raster_close b_Raster_close 1 (some .int) :: gT
theorem gd_Raster_close : GoodIn gT w_Raster_close := gW wd_7_210
theorem d_Raster_close_0 : decode b_Raster_close 0 = .ok (.aload_n 0, 1) := by decide +kernel
theorem d_Raster_close_1 : decode b_Raster_close 1 = .ok (.iconst 0, 1) := by decide +kernel
theorem d_Raster_close_2 : decode b_Raster_close 2 = .ok (.putfield 20, 3) := by decide +kernel
theorem d_Raster_close_5 : decode b_Raster_close 5 = .ok (.aload_n 0, 1) := by decide +kernel
theorem d_Raster_close_6 : decode b_Raster_close 6 = .ok (.iconst 0, 1) := by decide +kernel
theorem d_Raster_close_7 : decode b_Raster_close 7 = .ok (.putfield 27, 3) := by decide +kernel
theorem d_Raster_close_10 : decode b_Raster_close 10 = .ok (.aload_n 0, 1) := by decide +kernel
theorem d_Raster_close_11 : decode b_Raster_close 11 = .ok (.aload_n 0, 1) := by decide +kernel
theorem d_Raster_close_12 : decode b_Raster_close 12 = .ok (.getfield 45, 3) := by decide +kernel
theorem d_Raster_close_15 : decode b_Raster_close 15 = .ok (.ifCond .ne 10, 3) := by decide +kernel
theorem d_Raster_close_18 : decode b_Raster_close 18 = .ok (.aload_n 0, 1) := by decide +kernel
theorem d_Raster_close_19 : decode b_Raster_close 19 = .ok (.getfield 60, 3) := by decide +kernel
theorem d_Raster_close_22 : decode b_Raster_close 22 = .ok (.goto 7, 3) := by decide +kernel
theorem d_Raster_close_25 : decode b_Raster_close 25 = .ok (.aload_n 0, 1) := by decide +kernel
theorem d_Raster_close_26 : decode b_Raster_close 26 = .ok (.getfield 45, 3) := by decide +kernel
theorem d_Raster_close_29 : decode b_Raster_close 29 = .ok (.putfield 60, 3) := by decide +kernel
theorem d_Raster_close_32 : decode b_Raster_close 32 = .ok (.aload_n 0, 1) := by decide +kernel
theorem d_Raster_close_33 : decode b_Raster_close 33 = .ok (.getfield 57, 3) := by decide +kernel
theorem d_Raster_close_36 : decode b_Raster_close 36 = .ok (.aload_n 0, 1) := by decide +kernel
theorem d_Raster_close_37 : decode b_Raster_close 37 = .ok (.getfield 60, 3) := by decide +kernel
theorem d_Raster_close_40 : decode b_Raster_close 40 = .ok (.imul, 1) := by decide +kernel
theorem d_Raster_close_41 : decode b_Raster_close 41 = .ok (.ireturn, 1) := by decide +kernel
abbrev b_Raster_isFull : ByteArray := prog_11_method_10_code
abbrev y_Raster_isFull : MethodName := ⟨"SheetPrinter$Raster", "isFull", "()Z"⟩
abbrev w_Raster_isFull : List Cond := .code y_Raster_isFull b_Raster_isFull 1 (some .boolean) :: gT
theorem gd_Raster_isFull : GoodIn gT w_Raster_isFull := gW wd_7_232
theorem d_Raster_isFull_0 : decode b_Raster_isFull 0 = .ok (.aload_n 0, 1) := by decide +kernel
theorem d_Raster_isFull_1 : decode b_Raster_isFull 1 = .ok (.getfield 45, 3) := by decide +kernel
theorem d_Raster_isFull_4 : decode b_Raster_isFull 4 = .ok (.ifCond .eq 18, 3) := by decide +kernel
theorem d_Raster_isFull_7 : decode b_Raster_isFull 7 = .ok (.aload_n 0, 1) := by decide +kernel
theorem d_Raster_isFull_8 : decode b_Raster_isFull 8 = .ok (.getfield 60, 3) := by decide +kernel
theorem d_Raster_isFull_11 : decode b_Raster_isFull 11 = .ok (.aload_n 0, 1) := by decide +kernel
theorem d_Raster_isFull_12 : decode b_Raster_isFull 12 = .ok (.getfield 45, 3) := by decide +kernel
theorem d_Raster_isFull_15 : decode b_Raster_isFull 15 = .ok (.if_icmp .lt 7, 3) := by decide +kernel
theorem d_Raster_isFull_18 : decode b_Raster_isFull 18 = .ok (.iconst 1, 1) := by decide +kernel
theorem d_Raster_isFull_19 : decode b_Raster_isFull 19 = .ok (.goto 4, 3) := by decide +kernel
theorem d_Raster_isFull_22 : decode b_Raster_isFull 22 = .ok (.iconst 0, 1) := by decide +kernel
theorem d_Raster_isFull_23 : decode b_Raster_isFull 23 = .ok (.ireturn, 1) := by decide +kernel
abbrev b_Sheet_setRuleWidth : ByteArray := prog_12_method_5_code
abbrev y_Sheet_setRuleWidth : MethodName := ⟨"SheetPrinter$Sheet", "setRuleWidth", "(J)V"⟩
abbrev w_Sheet_setRuleWidth : List Cond := .code y_Sheet_setRuleWidth b_Sheet_setRuleWidth 3 none :: gT
theorem gd_Sheet_setRuleWidth : GoodIn gT w_Sheet_setRuleWidth := gW wd_7_117
theorem d_Sheet_setRuleWidth_0 : decode b_Sheet_setRuleWidth 0 = .ok (.aload_n 0, 1) := by decide +kernel
theorem d_Sheet_setRuleWidth_1 : decode b_Sheet_setRuleWidth 1 = .ok (.lload_n 1, 1) := by decide +kernel
theorem d_Sheet_setRuleWidth_2 : decode b_Sheet_setRuleWidth 2 = .ok (.l2i, 1) := by decide +kernel
theorem d_Sheet_setRuleWidth_3 : decode b_Sheet_setRuleWidth 3 = .ok (.putfield 67, 3) := by decide +kernel
theorem d_Sheet_setRuleWidth_6 : decode b_Sheet_setRuleWidth 6 = .ok (.return_, 1) := by decide +kernel
abbrev b_Sheet_setRuleHeight : ByteArray := prog_12_method_6_code
abbrev y_Sheet_setRuleHeight : MethodName := ⟨"SheetPrinter$Sheet", "setRuleHeight", "(J)V"⟩
abbrev w_Sheet_setRuleHeight : List Cond := .code y_Sheet_setRuleHeight b_Sheet_setRuleHeight 3 none :: gT
theorem gd_Sheet_setRuleHeight : GoodIn gT w_Sheet_setRuleHeight := gW wd_7_121
theorem d_Sheet_setRuleHeight_0 : decode b_Sheet_setRuleHeight 0 = .ok (.aload_n 0, 1) := by decide +kernel
theorem d_Sheet_setRuleHeight_1 : decode b_Sheet_setRuleHeight 1 = .ok (.lload_n 1, 1) := by decide +kernel
theorem d_Sheet_setRuleHeight_2 : decode b_Sheet_setRuleHeight 2 = .ok (.l2i, 1) := by decide +kernel
theorem d_Sheet_setRuleHeight_3 : decode b_Sheet_setRuleHeight 3 = .ok (.putfield 70, 3) := by decide +kernel
theorem d_Sheet_setRuleHeight_6 : decode b_Sheet_setRuleHeight 6 = .ok (.return_, 1) := by decide +kernel
abbrev b_Sheet_setPattern : ByteArray := prog_12_method_7_code
abbrev y_Sheet_setPattern : MethodName := ⟨"SheetPrinter$Sheet", "setPattern", "(I)V"⟩
abbrev w_Sheet_setPattern : List Cond := .code y_Sheet_setPattern b_Sheet_setPattern 2 none :: gT
theorem gd_Sheet_setPattern : GoodIn gT w_Sheet_setPattern := gW wd_7_125
theorem d_Sheet_setPattern_0 : decode b_Sheet_setPattern 0 = .ok (.aload_n 0, 1) := by decide +kernel
theorem d_Sheet_setPattern_1 : decode b_Sheet_setPattern 1 = .ok (.iload_n 1, 1) := by decide +kernel
theorem d_Sheet_setPattern_2 : decode b_Sheet_setPattern 2 = .ok (.putfield 73, 3) := by decide +kernel
theorem d_Sheet_setPattern_5 : decode b_Sheet_setPattern 5 = .ok (.return_, 1) := by decide +kernel
abbrev b_Sheet_isInk : ByteArray := prog_12_method_8_code
abbrev y_Sheet_isInk : MethodName := ⟨"SheetPrinter$Sheet", "isInk", "(II)Z"⟩
abbrev w_Sheet_isInk : List Cond := .code y_Sheet_isInk b_Sheet_isInk 2 (some .boolean) :: gT
theorem gd_Sheet_isInk : GoodIn gT w_Sheet_isInk := gW wd_7_136
theorem d_Sheet_isInk_0 : decode b_Sheet_isInk 0 = .ok (.iload_n 0, 1) := by decide +kernel
theorem d_Sheet_isInk_1 : decode b_Sheet_isInk 1 = .ok (.ifCond .eq 40, 3) := by decide +kernel
theorem d_Sheet_isInk_4 : decode b_Sheet_isInk 4 = .ok (.iload_n 0, 1) := by decide +kernel
theorem d_Sheet_isInk_5 : decode b_Sheet_isInk 5 = .ok (.iconst 1, 1) := by decide +kernel
theorem d_Sheet_isInk_6 : decode b_Sheet_isInk 6 = .ok (.if_icmp .eq 35, 3) := by decide +kernel
theorem d_Sheet_isInk_9 : decode b_Sheet_isInk 9 = .ok (.iload_n 0, 1) := by decide +kernel
theorem d_Sheet_isInk_10 : decode b_Sheet_isInk 10 = .ok (.iconst 2, 1) := by decide +kernel
theorem d_Sheet_isInk_11 : decode b_Sheet_isInk 11 = .ok (.if_icmp .ne 14, 3) := by decide +kernel
theorem d_Sheet_isInk_14 : decode b_Sheet_isInk 14 = .ok (.iload_n 1, 1) := by decide +kernel
theorem d_Sheet_isInk_15 : decode b_Sheet_isInk 15 = .ok (.iconst 1, 1) := by decide +kernel
theorem d_Sheet_isInk_16 : decode b_Sheet_isInk 16 = .ok (.if_icmp .lt 9, 3) := by decide +kernel
theorem d_Sheet_isInk_19 : decode b_Sheet_isInk 19 = .ok (.iload_n 1, 1) := by decide +kernel
theorem d_Sheet_isInk_20 : decode b_Sheet_isInk 20 = .ok (.bipush 100, 2) := by decide +kernel
theorem d_Sheet_isInk_22 : decode b_Sheet_isInk 22 = .ok (.if_icmp .le 19, 3) := by decide +kernel
theorem d_Sheet_isInk_25 : decode b_Sheet_isInk 25 = .ok (.iload_n 0, 1) := by decide +kernel
theorem d_Sheet_isInk_26 : decode b_Sheet_isInk 26 = .ok (.iconst 3, 1) := by decide +kernel
theorem d_Sheet_isInk_27 : decode b_Sheet_isInk 27 = .ok (.if_icmp .ne 18, 3) := by decide +kernel
theorem d_Sheet_isInk_30 : decode b_Sheet_isInk 30 = .ok (.iload_n 1, 1) := by decide +kernel
theorem d_Sheet_isInk_31 : decode b_Sheet_isInk 31 = .ok (.iconst 1, 1) := by decide +kernel
theorem d_Sheet_isInk_32 : decode b_Sheet_isInk 32 = .ok (.if_icmp .lt 13, 3) := by decide +kernel
theorem d_Sheet_isInk_35 : decode b_Sheet_isInk 35 = .ok (.iload_n 1, 1) := by decide +kernel
theorem d_Sheet_isInk_36 : decode b_Sheet_isInk 36 = .ok (.bipush 6, 2) := by decide +kernel
theorem d_Sheet_isInk_38 : decode b_Sheet_isInk 38 = .ok (.if_icmp .gt 7, 3) := by decide +kernel
theorem d_Sheet_isInk_41 : decode b_Sheet_isInk 41 = .ok (.iconst 1, 1) := by decide +kernel
theorem d_Sheet_isInk_42 : decode b_Sheet_isInk 42 = .ok (.goto 4, 3) := by decide +kernel
theorem d_Sheet_isInk_45 : decode b_Sheet_isInk 45 = .ok (.iconst 0, 1) := by decide +kernel
theorem d_Sheet_isInk_46 : decode b_Sheet_isInk 46 = .ok (.ireturn, 1) := by decide +kernel
abbrev b_Sheet_setSourceOpaque : ByteArray := prog_12_method_10_code
abbrev y_Sheet_setSourceOpaque : MethodName := ⟨"SheetPrinter$Sheet", "setSourceOpaque", "(I)V"⟩
abbrev w_Sheet_setSourceOpaque : List Cond := .code y_Sheet_setSourceOpaque b_Sheet_setSourceOpaque 2 none :: gT
theorem gd_Sheet_setSourceOpaque : GoodIn gT w_Sheet_setSourceOpaque := gW wd_7_173
theorem d_Sheet_setSourceOpaque_0 : decode b_Sheet_setSourceOpaque 0 = .ok (.aload_n 0, 1) := by decide +kernel
theorem d_Sheet_setSourceOpaque_1 : decode b_Sheet_setSourceOpaque 1 = .ok (.iload_n 1, 1) := by decide +kernel
theorem d_Sheet_setSourceOpaque_2 : decode b_Sheet_setSourceOpaque 2 = .ok (.iconst 1, 1) := by decide +kernel
theorem d_Sheet_setSourceOpaque_3 : decode b_Sheet_setSourceOpaque 3 = .ok (.if_icmp .eq 14, 3) := by decide +kernel
theorem d_Sheet_setSourceOpaque_6 : decode b_Sheet_setSourceOpaque 6 = .ok (.iload_n 1, 1) := by decide +kernel
theorem d_Sheet_setSourceOpaque_7 : decode b_Sheet_setSourceOpaque 7 = .ok (.ifCond .eq 14, 3) := by decide +kernel
theorem d_Sheet_setSourceOpaque_10 : decode b_Sheet_setSourceOpaque 10 = .ok (.aload_n 0, 1) := by decide +kernel
theorem d_Sheet_setSourceOpaque_11 : decode b_Sheet_setSourceOpaque 11 = .ok (.getfield 64, 3) := by decide +kernel
theorem d_Sheet_setSourceOpaque_14 : decode b_Sheet_setSourceOpaque 14 = .ok (.ifCond .eq 7, 3) := by decide +kernel
theorem d_Sheet_setSourceOpaque_17 : decode b_Sheet_setSourceOpaque 17 = .ok (.iconst 1, 1) := by decide +kernel
theorem d_Sheet_setSourceOpaque_18 : decode b_Sheet_setSourceOpaque 18 = .ok (.goto 4, 3) := by decide +kernel
theorem d_Sheet_setSourceOpaque_21 : decode b_Sheet_setSourceOpaque 21 = .ok (.iconst 0, 1) := by decide +kernel
theorem d_Sheet_setSourceOpaque_22 : decode b_Sheet_setSourceOpaque 22 = .ok (.putfield 64, 3) := by decide +kernel
theorem d_Sheet_setSourceOpaque_25 : decode b_Sheet_setSourceOpaque 25 = .ok (.return_, 1) := by decide +kernel
abbrev b_Sheet_setInkOpaque : ByteArray := prog_12_method_11_code
abbrev y_Sheet_setInkOpaque : MethodName := ⟨"SheetPrinter$Sheet", "setInkOpaque", "(I)V"⟩
abbrev w_Sheet_setInkOpaque : List Cond := .code y_Sheet_setInkOpaque b_Sheet_setInkOpaque 2 none :: gT
theorem gd_Sheet_setInkOpaque : GoodIn gT w_Sheet_setInkOpaque := gW wd_7_177
theorem d_Sheet_setInkOpaque_0 : decode b_Sheet_setInkOpaque 0 = .ok (.aload_n 0, 1) := by decide +kernel
theorem d_Sheet_setInkOpaque_1 : decode b_Sheet_setInkOpaque 1 = .ok (.iload_n 1, 1) := by decide +kernel
theorem d_Sheet_setInkOpaque_2 : decode b_Sheet_setInkOpaque 2 = .ok (.iconst 1, 1) := by decide +kernel
theorem d_Sheet_setInkOpaque_3 : decode b_Sheet_setInkOpaque 3 = .ok (.if_icmp .eq 14, 3) := by decide +kernel
theorem d_Sheet_setInkOpaque_6 : decode b_Sheet_setInkOpaque 6 = .ok (.iload_n 1, 1) := by decide +kernel
theorem d_Sheet_setInkOpaque_7 : decode b_Sheet_setInkOpaque 7 = .ok (.ifCond .eq 14, 3) := by decide +kernel
theorem d_Sheet_setInkOpaque_10 : decode b_Sheet_setInkOpaque 10 = .ok (.aload_n 0, 1) := by decide +kernel
theorem d_Sheet_setInkOpaque_11 : decode b_Sheet_setInkOpaque 11 = .ok (.getfield 60, 3) := by decide +kernel
theorem d_Sheet_setInkOpaque_14 : decode b_Sheet_setInkOpaque 14 = .ok (.ifCond .eq 7, 3) := by decide +kernel
theorem d_Sheet_setInkOpaque_17 : decode b_Sheet_setInkOpaque 17 = .ok (.iconst 1, 1) := by decide +kernel
theorem d_Sheet_setInkOpaque_18 : decode b_Sheet_setInkOpaque 18 = .ok (.goto 4, 3) := by decide +kernel
theorem d_Sheet_setInkOpaque_21 : decode b_Sheet_setInkOpaque 21 = .ok (.iconst 0, 1) := by decide +kernel
theorem d_Sheet_setInkOpaque_22 : decode b_Sheet_setInkOpaque 22 = .ok (.putfield 60, 3) := by decide +kernel
theorem d_Sheet_setInkOpaque_25 : decode b_Sheet_setInkOpaque 25 = .ok (.return_, 1) := by decide +kernel
abbrev b_Sheet_hasRoom : ByteArray := prog_12_method_17_code
abbrev y_Sheet_hasRoom : MethodName := ⟨"SheetPrinter$Sheet", "hasRoom", "(I)Z"⟩
abbrev w_Sheet_hasRoom : List Cond := .code y_Sheet_hasRoom b_Sheet_hasRoom 2 (some .boolean) :: gT
theorem gd_Sheet_hasRoom : GoodIn gT w_Sheet_hasRoom := gW wd_7_144
theorem d_Sheet_hasRoom_0 : decode b_Sheet_hasRoom 0 = .ok (.aload_n 0, 1) := by decide +kernel
theorem d_Sheet_hasRoom_1 : decode b_Sheet_hasRoom 1 = .ok (.getfield 76, 3) := by decide +kernel
theorem d_Sheet_hasRoom_4 : decode b_Sheet_hasRoom 4 = .ok (.sipush 4096, 3) := by decide +kernel
theorem d_Sheet_hasRoom_7 : decode b_Sheet_hasRoom 7 = .ok (.if_icmp .ge 14, 3) := by decide +kernel
theorem d_Sheet_hasRoom_10 : decode b_Sheet_hasRoom 10 = .ok (.aload_n 0, 1) := by decide +kernel
theorem d_Sheet_hasRoom_11 : decode b_Sheet_hasRoom 11 = .ok (.getfield 79, 3) := by decide +kernel
theorem d_Sheet_hasRoom_14 : decode b_Sheet_hasRoom 14 = .ok (.iload_n 1, 1) := by decide +kernel
theorem d_Sheet_hasRoom_15 : decode b_Sheet_hasRoom 15 = .ok (.iadd, 1) := by decide +kernel
theorem d_Sheet_hasRoom_16 : decode b_Sheet_hasRoom 16 = .ok (.ldc 15, 2) := by decide +kernel
theorem d_Sheet_hasRoom_18 : decode b_Sheet_hasRoom 18 = .ok (.if_icmp .le 10, 3) := by decide +kernel
theorem d_Sheet_hasRoom_21 : decode b_Sheet_hasRoom 21 = .ok (.aload_n 0, 1) := by decide +kernel
theorem d_Sheet_hasRoom_22 : decode b_Sheet_hasRoom 22 = .ok (.iconst 1, 1) := by decide +kernel
theorem d_Sheet_hasRoom_23 : decode b_Sheet_hasRoom 23 = .ok (.putfield 82, 3) := by decide +kernel
theorem d_Sheet_hasRoom_26 : decode b_Sheet_hasRoom 26 = .ok (.iconst 0, 1) := by decide +kernel
theorem d_Sheet_hasRoom_27 : decode b_Sheet_hasRoom 27 = .ok (.ireturn, 1) := by decide +kernel
theorem d_Sheet_hasRoom_28 : decode b_Sheet_hasRoom 28 = .ok (.iconst 1, 1) := by decide +kernel
theorem d_Sheet_hasRoom_29 : decode b_Sheet_hasRoom 29 = .ok (.ireturn, 1) := by decide +kernel
abbrev b_Sheet_laid : ByteArray := prog_12_method_23_code
abbrev y_Sheet_laid : MethodName := ⟨"SheetPrinter$Sheet", "laid", "(JJJJI)J"⟩
abbrev w_Sheet_laid : List Cond := .code y_Sheet_laid b_Sheet_laid 11 (some .long) :: gT
theorem gd_Sheet_laid : GoodIn gT w_Sheet_laid := gW wd_5_24
theorem d_Sheet_laid_0 : decode b_Sheet_laid 0 = .ok (.lconst 0, 1) := by decide +kernel
theorem d_Sheet_laid_1 : decode b_Sheet_laid 1 = .ok (.lstore 9, 2) := by decide +kernel
theorem d_Sheet_laid_3 : decode b_Sheet_laid 3 = .ok (.iload 8, 2) := by decide +kernel
theorem d_Sheet_laid_5 : decode b_Sheet_laid 5 = .ok (.ldc 145, 2) := by decide +kernel
theorem d_Sheet_laid_7 : decode b_Sheet_laid 7 = .ok (.iand, 1) := by decide +kernel
theorem d_Sheet_laid_8 : decode b_Sheet_laid 8 = .ok (.ifCond .eq 13, 3) := by decide +kernel
theorem d_Sheet_laid_11 : decode b_Sheet_laid 11 = .ok (.lload_n 2, 1) := by decide +kernel
theorem d_Sheet_laid_12 : decode b_Sheet_laid 12 = .ok (.lload 4, 2) := by decide +kernel
theorem d_Sheet_laid_14 : decode b_Sheet_laid 14 = .ok (.ldc2_w 179, 3) := by decide +kernel
theorem d_Sheet_laid_17 : decode b_Sheet_laid 17 = .ok (.lxor, 1) := by decide +kernel
theorem d_Sheet_laid_18 : decode b_Sheet_laid 18 = .ok (.land, 1) := by decide +kernel
theorem d_Sheet_laid_19 : decode b_Sheet_laid 19 = .ok (.lstore 9, 2) := by decide +kernel
theorem d_Sheet_laid_21 : decode b_Sheet_laid 21 = .ok (.iload 8, 2) := by decide +kernel
theorem d_Sheet_laid_23 : decode b_Sheet_laid 23 = .ok (.sipush 16384, 3) := by decide +kernel
theorem d_Sheet_laid_26 : decode b_Sheet_laid 26 = .ok (.iand, 1) := by decide +kernel
theorem d_Sheet_laid_27 : decode b_Sheet_laid 27 = .ok (.ifCond .eq 17, 3) := by decide +kernel
theorem d_Sheet_laid_30 : decode b_Sheet_laid 30 = .ok (.lload 9, 2) := by decide +kernel
theorem d_Sheet_laid_32 : decode b_Sheet_laid 32 = .ok (.lload 4, 2) := by decide +kernel
theorem d_Sheet_laid_34 : decode b_Sheet_laid 34 = .ok (.lload 6, 2) := by decide +kernel
theorem d_Sheet_laid_36 : decode b_Sheet_laid 36 = .ok (.ldc2_w 179, 3) := by decide +kernel
theorem d_Sheet_laid_39 : decode b_Sheet_laid 39 = .ok (.lxor, 1) := by decide +kernel
theorem d_Sheet_laid_40 : decode b_Sheet_laid 40 = .ok (.land, 1) := by decide +kernel
theorem d_Sheet_laid_41 : decode b_Sheet_laid 41 = .ok (.lor, 1) := by decide +kernel
theorem d_Sheet_laid_42 : decode b_Sheet_laid 42 = .ok (.lstore 9, 2) := by decide +kernel
theorem d_Sheet_laid_44 : decode b_Sheet_laid 44 = .ok (.lload_n 0, 1) := by decide +kernel
theorem d_Sheet_laid_45 : decode b_Sheet_laid 45 = .ok (.lload 9, 2) := by decide +kernel
theorem d_Sheet_laid_47 : decode b_Sheet_laid 47 = .ok (.ldc2_w 179, 3) := by decide +kernel
theorem d_Sheet_laid_50 : decode b_Sheet_laid 50 = .ok (.lxor, 1) := by decide +kernel
theorem d_Sheet_laid_51 : decode b_Sheet_laid 51 = .ok (.land, 1) := by decide +kernel
theorem d_Sheet_laid_52 : decode b_Sheet_laid 52 = .ok (.lload 4, 2) := by decide +kernel
theorem d_Sheet_laid_54 : decode b_Sheet_laid 54 = .ok (.lload 6, 2) := by decide +kernel
theorem d_Sheet_laid_56 : decode b_Sheet_laid 56 = .ok (.land, 1) := by decide +kernel
theorem d_Sheet_laid_57 : decode b_Sheet_laid 57 = .ok (.lor, 1) := by decide +kernel
theorem d_Sheet_laid_58 : decode b_Sheet_laid 58 = .ok (.lreturn, 1) := by decide +kernel
abbrev b_mDesk_beginField : ByteArray := prog_15_method_21_code
abbrev y_mDesk_beginField : MethodName := ⟨"SheetPrinterModel$Desk", "beginField", "()V"⟩
abbrev w_mDesk_beginField : List Cond := .code y_mDesk_beginField b_mDesk_beginField 1 none :: gT
theorem gd_mDesk_beginField : GoodIn gT w_mDesk_beginField := gW wd_13_166
theorem d_mDesk_beginField_0 : decode b_mDesk_beginField 0 = .ok (.aload_n 0, 1) := by decide +kernel
theorem d_mDesk_beginField_1 : decode b_mDesk_beginField 1 = .ok (.iconst 0, 1) := by decide +kernel
theorem d_mDesk_beginField_2 : decode b_mDesk_beginField 2 = .ok (.putfield 143, 3) := by decide +kernel
theorem d_mDesk_beginField_5 : decode b_mDesk_beginField 5 = .ok (.aload_n 0, 1) := by decide +kernel
theorem d_mDesk_beginField_6 : decode b_mDesk_beginField 6 = .ok (.iconst 0, 1) := by decide +kernel
theorem d_mDesk_beginField_7 : decode b_mDesk_beginField 7 = .ok (.putfield 146, 3) := by decide +kernel
theorem d_mDesk_beginField_10 : decode b_mDesk_beginField 10 = .ok (.aload_n 0, 1) := by decide +kernel
theorem d_mDesk_beginField_11 : decode b_mDesk_beginField 11 = .ok (.iconst 0, 1) := by decide +kernel
theorem d_mDesk_beginField_12 : decode b_mDesk_beginField 12 = .ok (.putfield 149, 3) := by decide +kernel
theorem d_mDesk_beginField_15 : decode b_mDesk_beginField 15 = .ok (.aload_n 0, 1) := by decide +kernel
theorem d_mDesk_beginField_16 : decode b_mDesk_beginField 16 = .ok (.iconst 0, 1) := by decide +kernel
theorem d_mDesk_beginField_17 : decode b_mDesk_beginField 17 = .ok (.putfield 152, 3) := by decide +kernel
theorem d_mDesk_beginField_20 : decode b_mDesk_beginField 20 = .ok (.aload_n 0, 1) := by decide +kernel
theorem d_mDesk_beginField_21 : decode b_mDesk_beginField 21 = .ok (.iconst 0, 1) := by decide +kernel
theorem d_mDesk_beginField_22 : decode b_mDesk_beginField 22 = .ok (.putfield 155, 3) := by decide +kernel
theorem d_mDesk_beginField_25 : decode b_mDesk_beginField 25 = .ok (.aload_n 0, 1) := by decide +kernel
theorem d_mDesk_beginField_26 : decode b_mDesk_beginField 26 = .ok (.iconst 0, 1) := by decide +kernel
theorem d_mDesk_beginField_27 : decode b_mDesk_beginField 27 = .ok (.putfield 158, 3) := by decide +kernel
theorem d_mDesk_beginField_30 : decode b_mDesk_beginField 30 = .ok (.return_, 1) := by decide +kernel
abbrev b_mDesk_isSequence : ByteArray := prog_15_method_28_code
abbrev y_mDesk_isSequence : MethodName := ⟨"SheetPrinterModel$Desk", "isSequence", "()Z"⟩
abbrev w_mDesk_isSequence : List Cond := .code y_mDesk_isSequence b_mDesk_isSequence 1 (some .boolean) :: gT
theorem gd_mDesk_isSequence : GoodIn gT w_mDesk_isSequence := gW wd_13_126
theorem d_mDesk_isSequence_0 : decode b_mDesk_isSequence 0 = .ok (.aload_n 0, 1) := by decide +kernel
theorem d_mDesk_isSequence_1 : decode b_mDesk_isSequence 1 = .ok (.getfield 88, 3) := by decide +kernel
theorem d_mDesk_isSequence_4 : decode b_mDesk_isSequence 4 = .ok (.iconst 1, 1) := by decide +kernel
theorem d_mDesk_isSequence_5 : decode b_mDesk_isSequence 5 = .ok (.if_icmp .le 7, 3) := by decide +kernel
theorem d_mDesk_isSequence_8 : decode b_mDesk_isSequence 8 = .ok (.iconst 1, 1) := by decide +kernel
theorem d_mDesk_isSequence_9 : decode b_mDesk_isSequence 9 = .ok (.goto 4, 3) := by decide +kernel
theorem d_mDesk_isSequence_12 : decode b_mDesk_isSequence 12 = .ok (.iconst 0, 1) := by decide +kernel
theorem d_mDesk_isSequence_13 : decode b_mDesk_isSequence 13 = .ok (.ireturn, 1) := by decide +kernel
abbrev b_mDesk_stop : ByteArray := prog_15_method_29_code
abbrev y_mDesk_stop : MethodName := ⟨"SheetPrinterModel$Desk", "stop", "()V"⟩
abbrev w_mDesk_stop : List Cond := .code y_mDesk_stop b_mDesk_stop 1 none :: gT
theorem gd_mDesk_stop : GoodIn gT w_mDesk_stop := gW wd_13_52
theorem d_mDesk_stop_0 : decode b_mDesk_stop 0 = .ok (.aload_n 0, 1) := by decide +kernel
theorem d_mDesk_stop_1 : decode b_mDesk_stop 1 = .ok (.iconst 0, 1) := by decide +kernel
theorem d_mDesk_stop_2 : decode b_mDesk_stop 2 = .ok (.putfield 88, 3) := by decide +kernel
theorem d_mDesk_stop_5 : decode b_mDesk_stop 5 = .ok (.return_, 1) := by decide +kernel
abbrev b_mDesk_is : ByteArray := prog_15_method_32_code
abbrev y_mDesk_is : MethodName := ⟨"SheetPrinterModel$Desk", "is", "(IIII)Z"⟩
abbrev w_mDesk_is : List Cond := .code y_mDesk_is b_mDesk_is 5 (some .boolean) :: gT
theorem gd_mDesk_is : GoodIn gT w_mDesk_is := gW wd_13_195
theorem d_mDesk_is_0 : decode b_mDesk_is 0 = .ok (.aload_n 0, 1) := by decide +kernel
theorem d_mDesk_is_1 : decode b_mDesk_is 1 = .ok (.getfield 164, 3) := by decide +kernel
theorem d_mDesk_is_4 : decode b_mDesk_is 4 = .ok (.iload_n 1, 1) := by decide +kernel
theorem d_mDesk_is_5 : decode b_mDesk_is 5 = .ok (.if_icmp .ne 21, 3) := by decide +kernel
theorem d_mDesk_is_8 : decode b_mDesk_is 8 = .ok (.aload_n 0, 1) := by decide +kernel
theorem d_mDesk_is_9 : decode b_mDesk_is 9 = .ok (.getfield 167, 3) := by decide +kernel
theorem d_mDesk_is_12 : decode b_mDesk_is 12 = .ok (.iload_n 2, 1) := by decide +kernel
theorem d_mDesk_is_13 : decode b_mDesk_is 13 = .ok (.if_icmp .ne 13, 3) := by decide +kernel
theorem d_mDesk_is_16 : decode b_mDesk_is 16 = .ok (.iload_n 3, 1) := by decide +kernel
theorem d_mDesk_is_17 : decode b_mDesk_is 17 = .ok (.iload 4, 2) := by decide +kernel
theorem d_mDesk_is_19 : decode b_mDesk_is 19 = .ok (.if_icmp .ne 7, 3) := by decide +kernel
theorem d_mDesk_is_22 : decode b_mDesk_is 22 = .ok (.iconst 1, 1) := by decide +kernel
theorem d_mDesk_is_23 : decode b_mDesk_is 23 = .ok (.goto 4, 3) := by decide +kernel
theorem d_mDesk_is_26 : decode b_mDesk_is 26 = .ok (.iconst 0, 1) := by decide +kernel
theorem d_mDesk_is_27 : decode b_mDesk_is 27 = .ok (.ireturn, 1) := by decide +kernel
abbrev b_mDesk_divides : ByteArray := prog_15_method_36_code
abbrev y_mDesk_divides : MethodName := ⟨"SheetPrinterModel$Desk", "divides", "(I)Z"⟩
abbrev w_mDesk_divides : List Cond := .code y_mDesk_divides b_mDesk_divides 1 (some .boolean) :: gT
theorem gd_mDesk_divides : GoodIn gT w_mDesk_divides := gW wd_13_191
theorem d_mDesk_divides_0 : decode b_mDesk_divides 0 = .ok (.iload_n 0, 1) := by decide +kernel
theorem d_mDesk_divides_1 : decode b_mDesk_divides 1 = .ok (.iconst 1, 1) := by decide +kernel
theorem d_mDesk_divides_2 : decode b_mDesk_divides 2 = .ok (.if_icmp .eq 54, 3) := by decide +kernel
theorem d_mDesk_divides_5 : decode b_mDesk_divides 5 = .ok (.iload_n 0, 1) := by decide +kernel
theorem d_mDesk_divides_6 : decode b_mDesk_divides 6 = .ok (.iconst 2, 1) := by decide +kernel
theorem d_mDesk_divides_7 : decode b_mDesk_divides 7 = .ok (.if_icmp .eq 49, 3) := by decide +kernel
theorem d_mDesk_divides_10 : decode b_mDesk_divides 10 = .ok (.iload_n 0, 1) := by decide +kernel
theorem d_mDesk_divides_11 : decode b_mDesk_divides 11 = .ok (.iconst 3, 1) := by decide +kernel
theorem d_mDesk_divides_12 : decode b_mDesk_divides 12 = .ok (.if_icmp .eq 44, 3) := by decide +kernel
theorem d_mDesk_divides_15 : decode b_mDesk_divides 15 = .ok (.iload_n 0, 1) := by decide +kernel
theorem d_mDesk_divides_16 : decode b_mDesk_divides 16 = .ok (.iconst 4, 1) := by decide +kernel
theorem d_mDesk_divides_17 : decode b_mDesk_divides 17 = .ok (.if_icmp .eq 39, 3) := by decide +kernel
theorem d_mDesk_divides_20 : decode b_mDesk_divides 20 = .ok (.iload_n 0, 1) := by decide +kernel
theorem d_mDesk_divides_21 : decode b_mDesk_divides 21 = .ok (.bipush 6, 2) := by decide +kernel
theorem d_mDesk_divides_23 : decode b_mDesk_divides 23 = .ok (.if_icmp .eq 33, 3) := by decide +kernel
theorem d_mDesk_divides_26 : decode b_mDesk_divides 26 = .ok (.iload_n 0, 1) := by decide +kernel
theorem d_mDesk_divides_27 : decode b_mDesk_divides 27 = .ok (.bipush 8, 2) := by decide +kernel
theorem d_mDesk_divides_29 : decode b_mDesk_divides 29 = .ok (.if_icmp .eq 27, 3) := by decide +kernel
theorem d_mDesk_divides_32 : decode b_mDesk_divides 32 = .ok (.iload_n 0, 1) := by decide +kernel
theorem d_mDesk_divides_33 : decode b_mDesk_divides 33 = .ok (.bipush 12, 2) := by decide +kernel
theorem d_mDesk_divides_35 : decode b_mDesk_divides 35 = .ok (.if_icmp .eq 21, 3) := by decide +kernel
theorem d_mDesk_divides_38 : decode b_mDesk_divides 38 = .ok (.iload_n 0, 1) := by decide +kernel
theorem d_mDesk_divides_39 : decode b_mDesk_divides 39 = .ok (.bipush 16, 2) := by decide +kernel
theorem d_mDesk_divides_41 : decode b_mDesk_divides 41 = .ok (.if_icmp .eq 15, 3) := by decide +kernel
theorem d_mDesk_divides_44 : decode b_mDesk_divides 44 = .ok (.iload_n 0, 1) := by decide +kernel
theorem d_mDesk_divides_45 : decode b_mDesk_divides 45 = .ok (.bipush 24, 2) := by decide +kernel
theorem d_mDesk_divides_47 : decode b_mDesk_divides 47 = .ok (.if_icmp .eq 9, 3) := by decide +kernel
theorem d_mDesk_divides_50 : decode b_mDesk_divides 50 = .ok (.iload_n 0, 1) := by decide +kernel
theorem d_mDesk_divides_51 : decode b_mDesk_divides 51 = .ok (.bipush 48, 2) := by decide +kernel
theorem d_mDesk_divides_53 : decode b_mDesk_divides 53 = .ok (.if_icmp .ne 7, 3) := by decide +kernel
theorem d_mDesk_divides_56 : decode b_mDesk_divides 56 = .ok (.iconst 1, 1) := by decide +kernel
theorem d_mDesk_divides_57 : decode b_mDesk_divides 57 = .ok (.goto 4, 3) := by decide +kernel
theorem d_mDesk_divides_60 : decode b_mDesk_divides 60 = .ok (.iconst 0, 1) := by decide +kernel
theorem d_mDesk_divides_61 : decode b_mDesk_divides 61 = .ok (.ireturn, 1) := by decide +kernel
abbrev b_mDesk_due : ByteArray := prog_15_method_40_code
abbrev y_mDesk_due : MethodName := ⟨"SheetPrinterModel$Desk", "due", "()V"⟩
abbrev w_mDesk_due : List Cond := .code y_mDesk_due b_mDesk_due 1 none :: gT
theorem gd_mDesk_due : GoodIn gT w_mDesk_due := gW wd_14_55
theorem d_mDesk_due_0 : decode b_mDesk_due 0 = .ok (.aload_n 0, 1) := by decide +kernel
theorem d_mDesk_due_1 : decode b_mDesk_due 1 = .ok (.iconst 0, 1) := by decide +kernel
theorem d_mDesk_due_2 : decode b_mDesk_due 2 = .ok (.putfield 39, 3) := by decide +kernel
theorem d_mDesk_due_5 : decode b_mDesk_due 5 = .ok (.aload_n 0, 1) := by decide +kernel
theorem d_mDesk_due_6 : decode b_mDesk_due 6 = .ok (.iconst 1, 1) := by decide +kernel
theorem d_mDesk_due_7 : decode b_mDesk_due 7 = .ok (.putfield 97, 3) := by decide +kernel
theorem d_mDesk_due_10 : decode b_mDesk_due 10 = .ok (.return_, 1) := by decide +kernel
abbrev b_mMacros_closing : ByteArray := prog_17_method_8_code
abbrev y_mMacros_closing : MethodName := ⟨"SheetPrinterModel$Macros", "closing", "(I)I"⟩
abbrev w_mMacros_closing : List Cond := .code y_mMacros_closing b_mMacros_closing 1 (some .int) :: gT
theorem gd_mMacros_closing : GoodIn gT w_mMacros_closing := gW wd_13_40
theorem d_mMacros_closing_0 : decode b_mMacros_closing 0 = .ok (.iload_n 0, 1) := by decide +kernel
theorem d_mMacros_closing_1 : decode b_mMacros_closing 1 = .ok (.ifCond .ne 8, 3) := by decide +kernel
theorem d_mMacros_closing_4 : decode b_mMacros_closing 4 = .ok (.bipush 27, 2) := by decide +kernel
theorem d_mMacros_closing_6 : decode b_mMacros_closing 6 = .ok (.goto 35, 3) := by decide +kernel
theorem d_mMacros_closing_9 : decode b_mMacros_closing 9 = .ok (.iload_n 0, 1) := by decide +kernel
theorem d_mMacros_closing_10 : decode b_mMacros_closing 10 = .ok (.iconst 1, 1) := by decide +kernel
theorem d_mMacros_closing_11 : decode b_mMacros_closing 11 = .ok (.if_icmp .ne 8, 3) := by decide +kernel
theorem d_mMacros_closing_14 : decode b_mMacros_closing 14 = .ok (.bipush 38, 2) := by decide +kernel
theorem d_mMacros_closing_16 : decode b_mMacros_closing 16 = .ok (.goto 25, 3) := by decide +kernel
theorem d_mMacros_closing_19 : decode b_mMacros_closing 19 = .ok (.iload_n 0, 1) := by decide +kernel
theorem d_mMacros_closing_20 : decode b_mMacros_closing 20 = .ok (.iconst 2, 1) := by decide +kernel
theorem d_mMacros_closing_21 : decode b_mMacros_closing 21 = .ok (.if_icmp .ne 8, 3) := by decide +kernel
theorem d_mMacros_closing_24 : decode b_mMacros_closing 24 = .ok (.bipush 102, 2) := by decide +kernel
theorem d_mMacros_closing_26 : decode b_mMacros_closing 26 = .ok (.goto 15, 3) := by decide +kernel
theorem d_mMacros_closing_29 : decode b_mMacros_closing 29 = .ok (.iload_n 0, 1) := by decide +kernel
theorem d_mMacros_closing_30 : decode b_mMacros_closing 30 = .ok (.iconst 3, 1) := by decide +kernel
theorem d_mMacros_closing_31 : decode b_mMacros_closing 31 = .ok (.if_icmp .ne 8, 3) := by decide +kernel
theorem d_mMacros_closing_34 : decode b_mMacros_closing 34 = .ok (.bipush 49, 2) := by decide +kernel
theorem d_mMacros_closing_36 : decode b_mMacros_closing 36 = .ok (.goto 5, 3) := by decide +kernel
theorem d_mMacros_closing_39 : decode b_mMacros_closing 39 = .ok (.bipush 88, 2) := by decide +kernel
theorem d_mMacros_closing_41 : decode b_mMacros_closing 41 = .ok (.ireturn, 1) := by decide +kernel
abbrev b_mPictures_sizeOf : ByteArray := prog_18_method_24_code
abbrev y_mPictures_sizeOf : MethodName := ⟨"SheetPrinterModel$Pictures", "sizeOf", "(I)I"⟩
abbrev w_mPictures_sizeOf : List Cond := .code y_mPictures_sizeOf b_mPictures_sizeOf 1 (some .int) :: gT
theorem gd_mPictures_sizeOf : GoodIn gT w_mPictures_sizeOf := gW wd_12_116
theorem d_mPictures_sizeOf_0 : decode b_mPictures_sizeOf 0 = .ok (.iload_n 0, 1) := by decide +kernel
theorem d_mPictures_sizeOf_1 : decode b_mPictures_sizeOf 1 = .ok (.iconst 3, 1) := by decide +kernel
theorem d_mPictures_sizeOf_2 : decode b_mPictures_sizeOf 2 = .ok (.if_icmp .ne 7, 3) := by decide +kernel
theorem d_mPictures_sizeOf_5 : decode b_mPictures_sizeOf 5 = .ok (.iconst 2, 1) := by decide +kernel
theorem d_mPictures_sizeOf_6 : decode b_mPictures_sizeOf 6 = .ok (.goto 14, 3) := by decide +kernel
theorem d_mPictures_sizeOf_9 : decode b_mPictures_sizeOf 9 = .ok (.iload_n 0, 1) := by decide +kernel
theorem d_mPictures_sizeOf_10 : decode b_mPictures_sizeOf 10 = .ok (.iconst 4, 1) := by decide +kernel
theorem d_mPictures_sizeOf_11 : decode b_mPictures_sizeOf 11 = .ok (.if_icmp .ne 7, 3) := by decide +kernel
theorem d_mPictures_sizeOf_14 : decode b_mPictures_sizeOf 14 = .ok (.iconst 4, 1) := by decide +kernel
theorem d_mPictures_sizeOf_15 : decode b_mPictures_sizeOf 15 = .ok (.goto 5, 3) := by decide +kernel
theorem d_mPictures_sizeOf_18 : decode b_mPictures_sizeOf 18 = .ok (.bipush 8, 2) := by decide +kernel
theorem d_mPictures_sizeOf_20 : decode b_mPictures_sizeOf 20 = .ok (.ireturn, 1) := by decide +kernel
abbrev b_mSheet_across : ByteArray := prog_19_method_3_code
abbrev y_mSheet_across : MethodName := ⟨"SheetPrinterModel$Sheet", "across", "()I"⟩
abbrev w_mSheet_across : List Cond := .code y_mSheet_across b_mSheet_across 1 (some .int) :: gT
theorem gd_mSheet_across : GoodIn gT w_mSheet_across := gW wd_14_63
theorem d_mSheet_across_0 : decode b_mSheet_across 0 = .ok (.aload_n 0, 1) := by decide +kernel
theorem d_mSheet_across_1 : decode b_mSheet_across 1 = .ok (.getfield 30, 3) := by decide +kernel
theorem d_mSheet_across_4 : decode b_mSheet_across 4 = .ok (.iconst 2, 1) := by decide +kernel
theorem d_mSheet_across_5 : decode b_mSheet_across 5 = .ok (.irem, 1) := by decide +kernel
theorem d_mSheet_across_6 : decode b_mSheet_across 6 = .ok (.ifCond .ne 10, 3) := by decide +kernel
theorem d_mSheet_across_9 : decode b_mSheet_across 9 = .ok (.aload_n 0, 1) := by decide +kernel
theorem d_mSheet_across_10 : decode b_mSheet_across 10 = .ok (.getfield 33, 3) := by decide +kernel
theorem d_mSheet_across_13 : decode b_mSheet_across 13 = .ok (.goto 7, 3) := by decide +kernel
theorem d_mSheet_across_16 : decode b_mSheet_across 16 = .ok (.aload_n 0, 1) := by decide +kernel
theorem d_mSheet_across_17 : decode b_mSheet_across 17 = .ok (.getfield 17, 3) := by decide +kernel
theorem d_mSheet_across_20 : decode b_mSheet_across 20 = .ok (.ireturn, 1) := by decide +kernel
abbrev b_mSheet_down : ByteArray := prog_19_method_4_code
abbrev y_mSheet_down : MethodName := ⟨"SheetPrinterModel$Sheet", "down", "()I"⟩
abbrev w_mSheet_down : List Cond := .code y_mSheet_down b_mSheet_down 1 (some .int) :: gT
theorem gd_mSheet_down : GoodIn gT w_mSheet_down := gW wd_14_59
theorem d_mSheet_down_0 : decode b_mSheet_down 0 = .ok (.aload_n 0, 1) := by decide +kernel
theorem d_mSheet_down_1 : decode b_mSheet_down 1 = .ok (.getfield 30, 3) := by decide +kernel
theorem d_mSheet_down_4 : decode b_mSheet_down 4 = .ok (.iconst 2, 1) := by decide +kernel
theorem d_mSheet_down_5 : decode b_mSheet_down 5 = .ok (.irem, 1) := by decide +kernel
theorem d_mSheet_down_6 : decode b_mSheet_down 6 = .ok (.ifCond .ne 10, 3) := by decide +kernel
theorem d_mSheet_down_9 : decode b_mSheet_down 9 = .ok (.aload_n 0, 1) := by decide +kernel
theorem d_mSheet_down_10 : decode b_mSheet_down 10 = .ok (.getfield 17, 3) := by decide +kernel
theorem d_mSheet_down_13 : decode b_mSheet_down 13 = .ok (.goto 7, 3) := by decide +kernel
theorem d_mSheet_down_16 : decode b_mSheet_down 16 = .ok (.aload_n 0, 1) := by decide +kernel
theorem d_mSheet_down_17 : decode b_mSheet_down 17 = .ok (.getfield 33, 3) := by decide +kernel
theorem d_mSheet_down_20 : decode b_mSheet_down 20 = .ok (.ireturn, 1) := by decide +kernel
abbrev b_mSheet_take : ByteArray := prog_19_method_5_code
abbrev y_mSheet_take : MethodName := ⟨"SheetPrinterModel$Sheet", "take", "(I)Z"⟩
abbrev w_mSheet_take : List Cond := .code y_mSheet_take b_mSheet_take 2 (some .boolean) :: gT
theorem gd_mSheet_take : GoodIn gT w_mSheet_take := gW wd_13_235
theorem d_mSheet_take_0 : decode b_mSheet_take 0 = .ok (.aload_n 0, 1) := by decide +kernel
theorem d_mSheet_take_1 : decode b_mSheet_take 1 = .ok (.getfield 20, 3) := by decide +kernel
theorem d_mSheet_take_4 : decode b_mSheet_take 4 = .ok (.sipush 4096, 3) := by decide +kernel
theorem d_mSheet_take_7 : decode b_mSheet_take 7 = .ok (.if_icmp .eq 14, 3) := by decide +kernel
theorem d_mSheet_take_10 : decode b_mSheet_take 10 = .ok (.aload_n 0, 1) := by decide +kernel
theorem d_mSheet_take_11 : decode b_mSheet_take 11 = .ok (.getfield 23, 3) := by decide +kernel
theorem d_mSheet_take_14 : decode b_mSheet_take 14 = .ok (.iload_n 1, 1) := by decide +kernel
theorem d_mSheet_take_15 : decode b_mSheet_take 15 = .ok (.iadd, 1) := by decide +kernel
theorem d_mSheet_take_16 : decode b_mSheet_take 16 = .ok (.ldc 36, 2) := by decide +kernel
theorem d_mSheet_take_18 : decode b_mSheet_take 18 = .ok (.if_icmp .le 10, 3) := by decide +kernel
theorem d_mSheet_take_21 : decode b_mSheet_take 21 = .ok (.aload_n 0, 1) := by decide +kernel
theorem d_mSheet_take_22 : decode b_mSheet_take 22 = .ok (.iconst 1, 1) := by decide +kernel
theorem d_mSheet_take_23 : decode b_mSheet_take 23 = .ok (.putfield 26, 3) := by decide +kernel
theorem d_mSheet_take_26 : decode b_mSheet_take 26 = .ok (.iconst 0, 1) := by decide +kernel
theorem d_mSheet_take_27 : decode b_mSheet_take 27 = .ok (.ireturn, 1) := by decide +kernel
theorem d_mSheet_take_28 : decode b_mSheet_take 28 = .ok (.aload_n 0, 1) := by decide +kernel
theorem d_mSheet_take_29 : decode b_mSheet_take 29 = .ok (.dup, 1) := by decide +kernel
theorem d_mSheet_take_30 : decode b_mSheet_take 30 = .ok (.getfield 20, 3) := by decide +kernel
theorem d_mSheet_take_33 : decode b_mSheet_take 33 = .ok (.iconst 1, 1) := by decide +kernel
theorem d_mSheet_take_34 : decode b_mSheet_take 34 = .ok (.iadd, 1) := by decide +kernel
theorem d_mSheet_take_35 : decode b_mSheet_take 35 = .ok (.putfield 20, 3) := by decide +kernel
theorem d_mSheet_take_38 : decode b_mSheet_take 38 = .ok (.aload_n 0, 1) := by decide +kernel
theorem d_mSheet_take_39 : decode b_mSheet_take 39 = .ok (.dup, 1) := by decide +kernel
theorem d_mSheet_take_40 : decode b_mSheet_take 40 = .ok (.getfield 23, 3) := by decide +kernel
theorem d_mSheet_take_43 : decode b_mSheet_take 43 = .ok (.iload_n 1, 1) := by decide +kernel
theorem d_mSheet_take_44 : decode b_mSheet_take 44 = .ok (.iadd, 1) := by decide +kernel
theorem d_mSheet_take_45 : decode b_mSheet_take 45 = .ok (.putfield 23, 3) := by decide +kernel
theorem d_mSheet_take_48 : decode b_mSheet_take 48 = .ok (.iconst 1, 1) := by decide +kernel
theorem d_mSheet_take_49 : decode b_mSheet_take 49 = .ok (.ireturn, 1) := by decide +kernel
abbrev b_mShelf_hand : ByteArray := prog_20_method_5_code
abbrev y_mShelf_hand : MethodName := ⟨"SheetPrinterModel$Shelf", "hand", "(ZI)Z"⟩
abbrev w_mShelf_hand : List Cond := .code y_mShelf_hand b_mShelf_hand 3 (some .boolean) :: gT
theorem gd_mShelf_hand : GoodIn gT w_mShelf_hand := gW wd_14_38
theorem d_mShelf_hand_0 : decode b_mShelf_hand 0 = .ok (.aload_n 0, 1) := by decide +kernel
theorem d_mShelf_hand_1 : decode b_mShelf_hand 1 = .ok (.iconst 0, 1) := by decide +kernel
theorem d_mShelf_hand_2 : decode b_mShelf_hand 2 = .ok (.putfield 45, 3) := by decide +kernel
theorem d_mShelf_hand_5 : decode b_mShelf_hand 5 = .ok (.iload_n 2, 1) := by decide +kernel
theorem d_mShelf_hand_6 : decode b_mShelf_hand 6 = .ok (.ifCond .lt 20, 3) := by decide +kernel
theorem d_mShelf_hand_9 : decode b_mShelf_hand 9 = .ok (.iload_n 2, 1) := by decide +kernel
theorem d_mShelf_hand_10 : decode b_mShelf_hand 10 = .ok (.iload_n 1, 1) := by decide +kernel
theorem d_mShelf_hand_11 : decode b_mShelf_hand 11 = .ok (.ifCond .eq 9, 3) := by decide +kernel
theorem d_mShelf_hand_14 : decode b_mShelf_hand 14 = .ok (.sipush 255, 3) := by decide +kernel
theorem d_mShelf_hand_17 : decode b_mShelf_hand 17 = .ok (.goto 6, 3) := by decide +kernel
theorem d_mShelf_hand_20 : decode b_mShelf_hand 20 = .ok (.sipush 32767, 3) := by decide +kernel
theorem d_mShelf_hand_23 : decode b_mShelf_hand 23 = .ok (.if_icmp .le 5, 3) := by decide +kernel
theorem d_mShelf_hand_26 : decode b_mShelf_hand 26 = .ok (.iconst 0, 1) := by decide +kernel
theorem d_mShelf_hand_27 : decode b_mShelf_hand 27 = .ok (.ireturn, 1) := by decide +kernel
theorem d_mShelf_hand_28 : decode b_mShelf_hand 28 = .ok (.aload_n 0, 1) := by decide +kernel
theorem d_mShelf_hand_29 : decode b_mShelf_hand 29 = .ok (.iload_n 1, 1) := by decide +kernel
theorem d_mShelf_hand_30 : decode b_mShelf_hand 30 = .ok (.ifCond .eq 7, 3) := by decide +kernel
theorem d_mShelf_hand_33 : decode b_mShelf_hand 33 = .ok (.iload_n 2, 1) := by decide +kernel
theorem d_mShelf_hand_34 : decode b_mShelf_hand 34 = .ok (.goto 7, 3) := by decide +kernel
theorem d_mShelf_hand_37 : decode b_mShelf_hand 37 = .ok (.aload_n 0, 1) := by decide +kernel
theorem d_mShelf_hand_38 : decode b_mShelf_hand 38 = .ok (.getfield 52, 3) := by decide +kernel
theorem d_mShelf_hand_41 : decode b_mShelf_hand 41 = .ok (.putfield 52, 3) := by decide +kernel
theorem d_mShelf_hand_44 : decode b_mShelf_hand 44 = .ok (.aload_n 0, 1) := by decide +kernel
theorem d_mShelf_hand_45 : decode b_mShelf_hand 45 = .ok (.iload_n 1, 1) := by decide +kernel
theorem d_mShelf_hand_46 : decode b_mShelf_hand 46 = .ok (.ifCond .eq 10, 3) := by decide +kernel
theorem d_mShelf_hand_49 : decode b_mShelf_hand 49 = .ok (.aload_n 0, 1) := by decide +kernel
theorem d_mShelf_hand_50 : decode b_mShelf_hand 50 = .ok (.getfield 49, 3) := by decide +kernel
theorem d_mShelf_hand_53 : decode b_mShelf_hand 53 = .ok (.goto 4, 3) := by decide +kernel
theorem d_mShelf_hand_56 : decode b_mShelf_hand 56 = .ok (.iload_n 2, 1) := by decide +kernel
theorem d_mShelf_hand_57 : decode b_mShelf_hand 57 = .ok (.putfield 49, 3) := by decide +kernel
theorem d_mShelf_hand_60 : decode b_mShelf_hand 60 = .ok (.aload_n 0, 1) := by decide +kernel
theorem d_mShelf_hand_61 : decode b_mShelf_hand 61 = .ok (.iconst 0, 1) := by decide +kernel
theorem d_mShelf_hand_62 : decode b_mShelf_hand 62 = .ok (.putfield 55, 3) := by decide +kernel
theorem d_mShelf_hand_65 : decode b_mShelf_hand 65 = .ok (.iconst 1, 1) := by decide +kernel
theorem d_mShelf_hand_66 : decode b_mShelf_hand 66 = .ok (.ireturn, 1) := by decide +kernel
abbrev at_g_Ref_dotY (dC : Nat → ClassId) (dI : Nat → Nat → Nat) (h0 : Nat) (o_thrown : Int32) (o_dpi : Int32) (o_desk : Nat) (o_shelf : Nat) (o_macros : Nat) (o_sheet : Nat) (o_lines : Nat) (o_view : Nat) (o_job : Nat) (o_shown : Nat) (o_part : Nat) (o_tape : Nat) (o_onTape : Int32) (o_fault : Int32) (o_jobs : Int32) (o_comeTo : Int32) (o_overruns : Int32) (o_pages : Nat) (o_shownPages : Nat) (o_viewPage : Int32) (o_viewLine : Int32) (o_ruleWide : Int32) (o_ruleHigh : Int32) (o_pattern : Int32) (o_resolution : Int32) (o_nextWidth : Int32) (o_nextHeight : Int32) (o_method : Int32) (o_open : Int32) (o_rasterX : Int32) (o_rasterY : Int32) (o_rasterWidth : Int32) (o_rasterHeight : Int32) (o_scale : Int32) (o_row : Int32) (o_length : Int32) (o_seed : Nat) (o_fresh : Nat) (o_macroId : Int32) (o_had : Int32) (o_xMany : Int32) (o_xWhat : Nat) (o_xId : Nat) (o_toDo : Nat) (o_toDoId : Nat) (o_bytes1 : Nat) (o_bytes2 : Nat) (v0 : Int32) (A : Nat → Prop) (u : Unit) (t : State) : Prop := match u with
  | _ => va_P (dC, dI) vcl [(h0, .inr (1, [.int o_thrown, .int o_dpi, .ref o_desk, .ref o_shelf, .ref o_macros, .ref o_sheet, .ref o_lines, .ref o_view, .ref o_job, .ref o_shown, .ref o_part, .ref o_tape, .int o_onTape, .int o_fault, .int o_jobs, .int o_comeTo, .int o_overruns, .ref o_pages, .ref o_shownPages, .int o_viewPage, .int o_viewLine, .int o_ruleWide, .int o_ruleHigh, .int o_pattern, .int o_resolution, .int o_nextWidth, .int o_nextHeight, .int o_method, .int o_open, .int o_rasterX, .int o_rasterY, .int o_rasterWidth, .int o_rasterHeight, .int o_scale, .int o_row, .int o_length, .ref o_seed, .ref o_fresh, .int o_macroId, .int o_had, .int o_xMany, .ref o_xWhat, .ref o_xId, .ref o_toDo, .ref o_toDoId, .ref o_bytes1, .ref o_bytes2]))] t.heap ∧ va_K (dC, dI) vcl [] t ∧ va_D A [(h0, .inr (1, [.int o_thrown, .int o_dpi, .ref o_desk, .ref o_shelf, .ref o_macros, .ref o_sheet, .ref o_lines, .ref o_view, .ref o_job, .ref o_shown, .ref o_part, .ref o_tape, .int o_onTape, .int o_fault, .int o_jobs, .int o_comeTo, .int o_overruns, .ref o_pages, .ref o_shownPages, .int o_viewPage, .int o_viewLine, .int o_ruleWide, .int o_ruleHigh, .int o_pattern, .int o_resolution, .int o_nextWidth, .int o_nextHeight, .int o_method, .int o_open, .int o_rasterX, .int o_rasterY, .int o_rasterWidth, .int o_rasterHeight, .int o_scale, .int o_row, .int o_length, .ref o_seed, .ref o_fresh, .int o_macroId, .int o_had, .int o_xMany, .ref o_xWhat, .ref o_xId, .ref o_toDo, .ref o_toDoId, .ref o_bytes1, .ref o_bytes2]))]
abbrev po_g_Ref_dotY (h0 : Nat) (o_thrown : Int32) (o_dpi : Int32) (o_desk : Nat) (o_shelf : Nat) (o_macros : Nat) (o_sheet : Nat) (o_lines : Nat) (o_view : Nat) (o_job : Nat) (o_shown : Nat) (o_part : Nat) (o_tape : Nat) (o_onTape : Int32) (o_fault : Int32) (o_jobs : Int32) (o_comeTo : Int32) (o_overruns : Int32) (o_pages : Nat) (o_shownPages : Nat) (o_viewPage : Int32) (o_viewLine : Int32) (o_ruleWide : Int32) (o_ruleHigh : Int32) (o_pattern : Int32) (o_resolution : Int32) (o_nextWidth : Int32) (o_nextHeight : Int32) (o_method : Int32) (o_open : Int32) (o_rasterX : Int32) (o_rasterY : Int32) (o_rasterWidth : Int32) (o_rasterHeight : Int32) (o_scale : Int32) (o_row : Int32) (o_length : Int32) (o_seed : Nat) (o_fresh : Nat) (o_macroId : Int32) (o_had : Int32) (o_xMany : Int32) (o_xWhat : Nat) (o_xId : Nat) (o_toDo : Nat) (o_toDoId : Nat) (o_bytes1 : Nat) (o_bytes2 : Nat) (v0 : Int32) (r : Int32) (u : Unit) : Prop := match u with
  | _ => r = (v0 * (o_dpi / 75)) / 96
abbrev q_g_Ref_dotY (dC : Nat → ClassId) (dI : Nat → Nat → Nat) (h0 : Nat) (o_thrown : Int32) (o_dpi : Int32) (o_desk : Nat) (o_shelf : Nat) (o_macros : Nat) (o_sheet : Nat) (o_lines : Nat) (o_view : Nat) (o_job : Nat) (o_shown : Nat) (o_part : Nat) (o_tape : Nat) (o_onTape : Int32) (o_fault : Int32) (o_jobs : Int32) (o_comeTo : Int32) (o_overruns : Int32) (o_pages : Nat) (o_shownPages : Nat) (o_viewPage : Int32) (o_viewLine : Int32) (o_ruleWide : Int32) (o_ruleHigh : Int32) (o_pattern : Int32) (o_resolution : Int32) (o_nextWidth : Int32) (o_nextHeight : Int32) (o_method : Int32) (o_open : Int32) (o_rasterX : Int32) (o_rasterY : Int32) (o_rasterWidth : Int32) (o_rasterHeight : Int32) (o_scale : Int32) (o_row : Int32) (o_length : Int32) (o_seed : Nat) (o_fresh : Nat) (o_macroId : Int32) (o_had : Int32) (o_xMany : Int32) (o_xWhat : Nat) (o_xId : Nat) (o_toDo : Nat) (o_toDoId : Nat) (o_bytes1 : Nat) (o_bytes2 : Nat) (v0 : Int32) (A : Nat → Prop) : Array Value → State → Outcome → State → Prop := va_Qi (po_g_Ref_dotY h0 o_thrown o_dpi o_desk o_shelf o_macros o_sheet o_lines o_view o_job o_shown o_part o_tape o_onTape o_fault o_jobs o_comeTo o_overruns o_pages o_shownPages o_viewPage o_viewLine o_ruleWide o_ruleHigh o_pattern o_resolution o_nextWidth o_nextHeight o_method o_open o_rasterX o_rasterY o_rasterWidth o_rasterHeight o_scale o_row o_length o_seed o_fresh o_macroId o_had o_xMany o_xWhat o_xId o_toDo o_toDoId o_bytes1 o_bytes2 v0) (at_g_Ref_dotY dC dI h0 o_thrown o_dpi o_desk o_shelf o_macros o_sheet o_lines o_view o_job o_shown o_part o_tape o_onTape o_fault o_jobs o_comeTo o_overruns o_pages o_shownPages o_viewPage o_viewLine o_ruleWide o_ruleHigh o_pattern o_resolution o_nextWidth o_nextHeight o_method o_open o_rasterX o_rasterY o_rasterWidth o_rasterHeight o_scale o_row o_length o_seed o_fresh o_macroId o_had o_xMany o_xWhat o_xId o_toDo o_toDoId o_bytes1 o_bytes2 v0 A) A
abbrev rm_g_Ref_dotY : Room := { frames := 0, cells := 0, slots := 0, locals := 0 }
set_option maxHeartbeats 4000000 in
set_option maxRecDepth 100000 in
theorem g_Ref_dotY (l : Launch) (dC : Nat → ClassId) (dI : Nat → Nat → Nat) (tt : Nat → Nat) (h0 : Nat) (o_thrown : Int32) (o_dpi : Int32) (o_desk : Nat) (o_shelf : Nat) (o_macros : Nat) (o_sheet : Nat) (o_lines : Nat) (o_view : Nat) (o_job : Nat) (o_shown : Nat) (o_part : Nat) (o_tape : Nat) (o_onTape : Int32) (o_fault : Int32) (o_jobs : Int32) (o_comeTo : Int32) (o_overruns : Int32) (o_pages : Nat) (o_shownPages : Nat) (o_viewPage : Int32) (o_viewLine : Int32) (o_ruleWide : Int32) (o_ruleHigh : Int32) (o_pattern : Int32) (o_resolution : Int32) (o_nextWidth : Int32) (o_nextHeight : Int32) (o_method : Int32) (o_open : Int32) (o_rasterX : Int32) (o_rasterY : Int32) (o_rasterWidth : Int32) (o_rasterHeight : Int32) (o_scale : Int32) (o_row : Int32) (o_length : Int32) (o_seed : Nat) (o_fresh : Nat) (o_macroId : Int32) (o_had : Int32) (o_xMany : Int32) (o_xWhat : Nat) (o_xId : Nat) (o_toDo : Nat) (o_toDoId : Nat) (o_bytes1 : Nat) (o_bytes2 : Nat) (v0 : Int32) (sz : Nat)  : Met l y_Ref_dotY w_Ref_dotY rm_g_Ref_dotY (va_Pc [.ref h0, .int v0] (fun U => U.heap.size = sz ∧ va_P (dC, dI) vcl [(h0, .inr (1, [.int o_thrown, .int o_dpi, .ref o_desk, .ref o_shelf, .ref o_macros, .ref o_sheet, .ref o_lines, .ref o_view, .ref o_job, .ref o_shown, .ref o_part, .ref o_tape, .int o_onTape, .int o_fault, .int o_jobs, .int o_comeTo, .int o_overruns, .ref o_pages, .ref o_shownPages, .int o_viewPage, .int o_viewLine, .int o_ruleWide, .int o_ruleHigh, .int o_pattern, .int o_resolution, .int o_nextWidth, .int o_nextHeight, .int o_method, .int o_open, .int o_rasterX, .int o_rasterY, .int o_rasterWidth, .int o_rasterHeight, .int o_scale, .int o_row, .int o_length, .ref o_seed, .ref o_fresh, .int o_macroId, .int o_had, .int o_xMany, .ref o_xWhat, .ref o_xId, .ref o_toDo, .ref o_toDoId, .ref o_bytes1, .ref o_bytes2]))] U.heap ∧ va_K (dC, dI) vcl [] U ∧ va_D (fun _ => True) [(h0, .inr (1, [.int o_thrown, .int o_dpi, .ref o_desk, .ref o_shelf, .ref o_macros, .ref o_sheet, .ref o_lines, .ref o_view, .ref o_job, .ref o_shown, .ref o_part, .ref o_tape, .int o_onTape, .int o_fault, .int o_jobs, .int o_comeTo, .int o_overruns, .ref o_pages, .ref o_shownPages, .int o_viewPage, .int o_viewLine, .int o_ruleWide, .int o_ruleHigh, .int o_pattern, .int o_resolution, .int o_nextWidth, .int o_nextHeight, .int o_method, .int o_open, .int o_rasterX, .int o_rasterY, .int o_rasterWidth, .int o_rasterHeight, .int o_scale, .int o_row, .int o_length, .ref o_seed, .ref o_fresh, .int o_macroId, .int o_had, .int o_xMany, .ref o_xWhat, .ref o_xId, .ref o_toDo, .ref o_toDoId, .ref o_bytes1, .ref o_bytes2]))] ∧ SF tt (va_A [(h0, .inr (1, [.int o_thrown, .int o_dpi, .ref o_desk, .ref o_shelf, .ref o_macros, .ref o_sheet, .ref o_lines, .ref o_view, .ref o_job, .ref o_shown, .ref o_part, .ref o_tape, .int o_onTape, .int o_fault, .int o_jobs, .int o_comeTo, .int o_overruns, .ref o_pages, .ref o_shownPages, .int o_viewPage, .int o_viewLine, .int o_ruleWide, .int o_ruleHigh, .int o_pattern, .int o_resolution, .int o_nextWidth, .int o_nextHeight, .int o_method, .int o_open, .int o_rasterX, .int o_rasterY, .int o_rasterWidth, .int o_rasterHeight, .int o_scale, .int o_row, .int o_length, .ref o_seed, .ref o_fresh, .int o_macroId, .int o_had, .int o_xMany, .ref o_xWhat, .ref o_xId, .ref o_toDo, .ref o_toDoId, .ref o_bytes1, .ref o_bytes2]))] sz) U U.heap)) (q_g_Ref_dotY dC dI h0 o_thrown o_dpi o_desk o_shelf o_macros o_sheet o_lines o_view o_job o_shown o_part o_tape o_onTape o_fault o_jobs o_comeTo o_overruns o_pages o_shownPages o_viewPage o_viewLine o_ruleWide o_ruleHigh o_pattern o_resolution o_nextWidth o_nextHeight o_method o_open o_rasterX o_rasterY o_rasterWidth o_rasterHeight o_scale o_row o_length o_seed o_fresh o_macroId o_had o_xMany o_xWhat o_xId o_toDo o_toDoId o_bytes1 o_bytes2 v0 (va_A [(h0, .inr (1, [.int o_thrown, .int o_dpi, .ref o_desk, .ref o_shelf, .ref o_macros, .ref o_sheet, .ref o_lines, .ref o_view, .ref o_job, .ref o_shown, .ref o_part, .ref o_tape, .int o_onTape, .int o_fault, .int o_jobs, .int o_comeTo, .int o_overruns, .ref o_pages, .ref o_shownPages, .int o_viewPage, .int o_viewLine, .int o_ruleWide, .int o_ruleHigh, .int o_pattern, .int o_resolution, .int o_nextWidth, .int o_nextHeight, .int o_method, .int o_open, .int o_rasterX, .int o_rasterY, .int o_rasterWidth, .int o_rasterHeight, .int o_scale, .int o_row, .int o_length, .ref o_seed, .ref o_fresh, .int o_macroId, .int o_had, .int o_xMany, .ref o_xWhat, .ref o_xId, .ref o_toDo, .ref o_toDoId, .ref o_bytes1, .ref o_bytes2]))] sz)) 0 0 (va_A [(h0, .inr (1, [.int o_thrown, .int o_dpi, .ref o_desk, .ref o_shelf, .ref o_macros, .ref o_sheet, .ref o_lines, .ref o_view, .ref o_job, .ref o_shown, .ref o_part, .ref o_tape, .int o_onTape, .int o_fault, .int o_jobs, .int o_comeTo, .int o_overruns, .ref o_pages, .ref o_shownPages, .int o_viewPage, .int o_viewLine, .int o_ruleWide, .int o_ruleHigh, .int o_pattern, .int o_resolution, .int o_nextWidth, .int o_nextHeight, .int o_method, .int o_open, .int o_rasterX, .int o_rasterY, .int o_rasterWidth, .int o_rasterHeight, .int o_scale, .int o_row, .int o_length, .ref o_seed, .ref o_fresh, .int o_macroId, .int o_had, .int o_xMany, .ref o_xWhat, .ref o_xId, .ref o_toDo, .ref o_toDoId, .ref o_bytes1, .ref o_bytes2]))] sz) := by
  refine Met.ofW (cc := b_Ref_dotY) (maxL := 2) (ret := (some .int)) (by decide) rfl ?_
  intro p e s m args below meth c s₁ B hml hv
  obtain ⟨rfl, hsz, hP, hK, hD0, hF⟩ := hv
  have hx := B.exec
  have hb := B.bytes
  have hr := B.returns
  have hwd : ∀ w ∈ gT, w.before _ s = true := fun w h => atoms_spec (ws := w_Ref_dotY) B.pre w (List.mem_cons_of_mem _ h)
  have hown : s.vm.findClass R_Ref = some m.cls := findClass_of_methodNamed B.named
  have hlocks := B.notSynchronized
  subst hsz
  have hD := hD0.self (sz := s.heap.size)
  generalize hAe : va_A [(h0, .inr (1, [.int o_thrown, .int o_dpi, .ref o_desk, .ref o_shelf, .ref o_macros, .ref o_sheet, .ref o_lines, .ref o_view, .ref o_job, .ref o_shown, .ref o_part, .ref o_tape, .int o_onTape, .int o_fault, .int o_jobs, .int o_comeTo, .int o_overruns, .ref o_pages, .ref o_shownPages, .int o_viewPage, .int o_viewLine, .int o_ruleWide, .int o_ruleHigh, .int o_pattern, .int o_resolution, .int o_nextWidth, .int o_nextHeight, .int o_method, .int o_open, .int o_rasterX, .int o_rasterY, .int o_rasterWidth, .int o_rasterHeight, .int o_scale, .int o_row, .int o_length, .ref o_seed, .ref o_fresh, .int o_macroId, .int o_had, .int o_xMany, .ref o_xWhat, .ref o_xId, .ref o_toDo, .ref o_toDoId, .ref o_bytes1, .ref o_bytes2]))] s.heap.size = A at hD hF ⊢
  have hA : ∀ q : Nat, s.heap.size ≤ q → A q := fun q h => by rw [← hAe]; exact Or.inr h
  have hS : va_S A s.heap s.heap [] := va_S.rf
  have hP : va_P (dC, dI) vcl [(h0, .inr (1, [.int o_thrown, .int o_dpi, .ref o_desk, .ref o_shelf, .ref o_macros, .ref o_sheet, .ref o_lines, .ref o_view, .ref o_job, .ref o_shown, .ref o_part, .ref o_tape, .int o_onTape, .int o_fault, .int o_jobs, .int o_comeTo, .int o_overruns, .ref o_pages, .ref o_shownPages, .int o_viewPage, .int o_viewLine, .int o_ruleWide, .int o_ruleHigh, .int o_pattern, .int o_resolution, .int o_nextWidth, .int o_nextHeight, .int o_method, .int o_open, .int o_rasterX, .int o_rasterY, .int o_rasterWidth, .int o_rasterHeight, .int o_scale, .int o_row, .int o_length, .ref o_seed, .ref o_fresh, .int o_macroId, .int o_had, .int o_xMany, .ref o_xWhat, .ref o_xId, .ref o_toDo, .ref o_toDoId, .ref o_bytes1, .ref o_bytes2]))] s.heap := hP
  have hl := lv_entry ([.ref h0, .int v0]) (n := 2) (Nat.le_of_ble_eq_true rfl)
  rw [lg_entry_eq]
  generalize (lg_sl ([.ref h0, .int v0]) ++ List.replicate (2 - (lg_sl ([.ref h0, .int v0])).length) Slot.unset).toArray = ls at hl ⊢
  have hl : lv_has ls 2 [(0, .ref h0), (1, .int v0)] := hl
  refine lv_iload_n hx hb d_Ref_dotY_0 rfl (lv_at hl 1 rfl) ?_
  refine lv_aload_n hx hb d_Ref_dotY_1 rfl (lv_at hl 0 rfl) ?_
  refine va_get (D := (dC, dI)) (ci := 1) (v := .int o_dpi) (C := R_Ref) (T := F_Ref) (N := 47) hx hb hwd i_Ref hown hK hP 0 rfl rfl 1 (by decide) (hwd _ wd_11_139) (fun _ h9 => h9) rfl d_Ref_dotY_2 ?_
  refine lv_bipush (v := 75) hx hb d_Ref_dotY_5 (by decide) ?_
  refine lv_idiv hx hb d_Ref_dotY_7 (by decide) ?_
  refine lv_imul hx hb d_Ref_dotY_8 ?_
  refine lv_bipush (v := 96) hx hb d_Ref_dotY_9 (by decide) ?_
  refine lv_idiv hx hb d_Ref_dotY_11 (by decide) ?_
  have hP9 := hP.sub (ws' := [(h0, .inr (1, [.int o_thrown, .int o_dpi, .ref o_desk, .ref o_shelf, .ref o_macros, .ref o_sheet, .ref o_lines, .ref o_view, .ref o_job, .ref o_shown, .ref o_part, .ref o_tape, .int o_onTape, .int o_fault, .int o_jobs, .int o_comeTo, .int o_overruns, .ref o_pages, .ref o_shownPages, .int o_viewPage, .int o_viewLine, .int o_ruleWide, .int o_ruleHigh, .int o_pattern, .int o_resolution, .int o_nextWidth, .int o_nextHeight, .int o_method, .int o_open, .int o_rasterX, .int o_rasterY, .int o_rasterWidth, .int o_rasterHeight, .int o_scale, .int o_row, .int o_length, .ref o_seed, .ref o_fresh, .int o_macroId, .int o_had, .int o_xMany, .ref o_xWhat, .ref o_xId, .ref o_toDo, .ref o_toDoId, .ref o_bytes1, .ref o_bytes2]))]) [0] rfl
  have hD9 := hD.sub (ws' := [(h0, .inr (1, [.int o_thrown, .int o_dpi, .ref o_desk, .ref o_shelf, .ref o_macros, .ref o_sheet, .ref o_lines, .ref o_view, .ref o_job, .ref o_shown, .ref o_part, .ref o_tape, .int o_onTape, .int o_fault, .int o_jobs, .int o_comeTo, .int o_overruns, .ref o_pages, .ref o_shownPages, .int o_viewPage, .int o_viewLine, .int o_ruleWide, .int o_ruleHigh, .int o_pattern, .int o_resolution, .int o_nextWidth, .int o_nextHeight, .int o_method, .int o_open, .int o_rasterX, .int o_rasterY, .int o_rasterWidth, .int o_rasterHeight, .int o_scale, .int o_row, .int o_length, .ref o_seed, .ref o_fresh, .int o_macroId, .int o_had, .int o_xMany, .ref o_xWhat, .ref o_xId, .ref o_toDo, .ref o_toDoId, .ref o_bytes1, .ref o_bytes2]))]) [0] (by decide) rfl
  have hK9 := hK.sub (tys' := []) [] rfl
  exact W.iret (v := (v0 * (o_dpi / 75)) / 96) hx hb hr (fun t ht hW => ⟨⟨((v0 * (o_dpi / 75)) / 96), (), rfl, (show ((v0 * (o_dpi / 75)) / 96 : Int32) = (v0 * (o_dpi / 75)) / 96 from (rfl)), by rw [ht]; exact hP9, va_K.moved hW.alike hK9, hD9⟩, hS.F ht⟩) hS.2.2 d_Ref_dotY_12

abbrev at_g_Ref_isPattern (dC : Nat → ClassId) (dI : Nat → Nat → Nat) (v0 : Int32) (v1 : Int32) (A : Nat → Prop) (u : Unit) (t : State) : Prop := match u with
  | _ => va_P (dC, dI) vcl [] t.heap ∧ va_K (dC, dI) vcl [] t ∧ va_D A []
abbrev po_g_Ref_isPattern (v0 : Int32) (v1 : Int32) (r : Int32) (u : Unit) : Prop := match u with
  | _ => r = if v1 ≤ (0 : Int32) then 0 else (if v0 = (2 : Int32) then (if (100 : Int32) < v1 then 0 else 1) else (if (6 : Int32) < v1 then 0 else 1))
abbrev q_g_Ref_isPattern (dC : Nat → ClassId) (dI : Nat → Nat → Nat) (v0 : Int32) (v1 : Int32) (A : Nat → Prop) : Array Value → State → Outcome → State → Prop := va_Qi (po_g_Ref_isPattern v0 v1) (at_g_Ref_isPattern dC dI v0 v1 A) A
abbrev rm_g_Ref_isPattern : Room := { frames := 0, cells := 0, slots := 0, locals := 0 }
set_option maxHeartbeats 4000000 in
set_option maxRecDepth 100000 in
theorem g_Ref_isPattern (l : Launch) (dC : Nat → ClassId) (dI : Nat → Nat → Nat) (tt : Nat → Nat) (v0 : Int32) (v1 : Int32) (sz : Nat)  : Met l y_Ref_isPattern w_Ref_isPattern rm_g_Ref_isPattern (va_Pc [.int v0, .int v1] (fun U => U.heap.size = sz ∧ va_P (dC, dI) vcl [] U.heap ∧ va_K (dC, dI) vcl [] U ∧ va_D (fun _ => True) [] ∧ SF tt (va_A [] sz) U U.heap)) (q_g_Ref_isPattern dC dI v0 v1 (va_A [] sz)) 0 0 (va_A [] sz) := by
  refine Met.ofW (cc := b_Ref_isPattern) (maxL := 2) (ret := (some .boolean)) (by decide) rfl ?_
  intro p e s m args below meth c s₁ B hml hv
  obtain ⟨rfl, hsz, hP, hK, hD0, hF⟩ := hv
  have hx := B.exec
  have hb := B.bytes
  have hr := B.returns
  have hwd : ∀ w ∈ gT, w.before _ s = true := fun w h => atoms_spec (ws := w_Ref_isPattern) B.pre w (List.mem_cons_of_mem _ h)
  have hown : s.vm.findClass R_Ref = some m.cls := findClass_of_methodNamed B.named
  have hlocks := B.notSynchronized
  subst hsz
  have hD := hD0.self (sz := s.heap.size)
  generalize hAe : va_A [] s.heap.size = A at hD hF ⊢
  have hA : ∀ q : Nat, s.heap.size ≤ q → A q := fun q h => by rw [← hAe]; exact Or.inr h
  have hS : va_S A s.heap s.heap [] := va_S.rf
  have hP : va_P (dC, dI) vcl [] s.heap := hP
  have hl := lv_entry ([.int v0, .int v1]) (n := 2) (Nat.le_of_ble_eq_true rfl)
  rw [lg_entry_eq]
  generalize (lg_sl ([.int v0, .int v1]) ++ List.replicate (2 - (lg_sl ([.int v0, .int v1])).length) Slot.unset).toArray = ls at hl ⊢
  have hl : lv_has ls 2 [(0, .int v0), (1, .int v1)] := hl
  refine lv_iload_n hx hb d_Ref_isPattern_0 rfl (lv_at hl 1 rfl) ?_
  refine lv_if_le (tgt := 24) hx hb d_Ref_isPattern_1 (by decide) (fun c1 => ?_) (fun c1 => ?_)
  · refine lv_iconst (v := 0) hx hb d_Ref_isPattern_24 (by decide) ?_
    have hP9 := hP.sub (ws' := []) [] rfl
    have hD9 := hD.sub (ws' := []) [] (by decide) rfl
    have hK9 := hK.sub (tys' := []) [] rfl
    exact W.zret (v := 0) hx hb hr (by decide) (fun t ht hW => ⟨⟨0, (), rfl, (show (0 : Int32) = if v1 ≤ (0 : Int32) then 0 else (if v0 = (2 : Int32) then (if (100 : Int32) < v1 then 0 else 1) else (if (6 : Int32) < v1 then 0 else 1)) from (by rw [if_pos c1])), by rw [ht]; exact hP9, va_K.moved hW.alike hK9, hD9⟩, hS.F ht⟩) hS.2.2 d_Ref_isPattern_25
  · refine lv_iload_n hx hb d_Ref_isPattern_4 rfl (lv_at hl 1 rfl) ?_
    refine lv_iload_n hx hb d_Ref_isPattern_5 rfl (lv_at hl 0 rfl) ?_
    refine lv_iconst (v := 2) hx hb d_Ref_isPattern_6 (by decide) ?_
    refine lv_icmp_ne (tgt := 15) hx hb d_Ref_isPattern_7 (by decide) (fun c7 => ?_) (fun c7 => ?_)
    · refine lv_bipush (v := 6) hx hb d_Ref_isPattern_15 (by decide) ?_
      refine lv_icmp_gt (tgt := 24) hx hb d_Ref_isPattern_17 (by decide) (fun c17 => ?_) (fun c17 => ?_)
      · refine lv_iconst (v := 0) hx hb d_Ref_isPattern_24 (by decide) ?_
        have hP9 := hP.sub (ws' := []) [] rfl
        have hD9 := hD.sub (ws' := []) [] (by decide) rfl
        have hK9 := hK.sub (tys' := []) [] rfl
        exact W.zret (v := 0) hx hb hr (by decide) (fun t ht hW => ⟨⟨0, (), rfl, (show (0 : Int32) = if v1 ≤ (0 : Int32) then 0 else (if v0 = (2 : Int32) then (if (100 : Int32) < v1 then 0 else 1) else (if (6 : Int32) < v1 then 0 else 1)) from (by rw [if_neg c1, if_neg c7, if_pos c17])), by rw [ht]; exact hP9, va_K.moved hW.alike hK9, hD9⟩, hS.F ht⟩) hS.2.2 d_Ref_isPattern_25
      · refine lv_iconst (v := 1) hx hb d_Ref_isPattern_20 (by decide) ?_
        refine lv_goto (tgt := 25) hx hb d_Ref_isPattern_21 (by decide) ?_
        have hP9 := hP.sub (ws' := []) [] rfl
        have hD9 := hD.sub (ws' := []) [] (by decide) rfl
        have hK9 := hK.sub (tys' := []) [] rfl
        exact W.zret (v := 1) hx hb hr (by decide) (fun t ht hW => ⟨⟨1, (), rfl, (show (1 : Int32) = if v1 ≤ (0 : Int32) then 0 else (if v0 = (2 : Int32) then (if (100 : Int32) < v1 then 0 else 1) else (if (6 : Int32) < v1 then 0 else 1)) from (by rw [if_neg c1, if_neg c7, if_neg c17])), by rw [ht]; exact hP9, va_K.moved hW.alike hK9, hD9⟩, hS.F ht⟩) hS.2.2 d_Ref_isPattern_25
    · refine lv_bipush (v := 100) hx hb d_Ref_isPattern_10 (by decide) ?_
      refine lv_goto (tgt := 17) hx hb d_Ref_isPattern_12 (by decide) ?_
      refine lv_icmp_gt (tgt := 24) hx hb d_Ref_isPattern_17 (by decide) (fun c17 => ?_) (fun c17 => ?_)
      · refine lv_iconst (v := 0) hx hb d_Ref_isPattern_24 (by decide) ?_
        have hP9 := hP.sub (ws' := []) [] rfl
        have hD9 := hD.sub (ws' := []) [] (by decide) rfl
        have hK9 := hK.sub (tys' := []) [] rfl
        exact W.zret (v := 0) hx hb hr (by decide) (fun t ht hW => ⟨⟨0, (), rfl, (show (0 : Int32) = if v1 ≤ (0 : Int32) then 0 else (if v0 = (2 : Int32) then (if (100 : Int32) < v1 then 0 else 1) else (if (6 : Int32) < v1 then 0 else 1)) from (by rw [if_neg c1, if_pos c7, if_pos c17])), by rw [ht]; exact hP9, va_K.moved hW.alike hK9, hD9⟩, hS.F ht⟩) hS.2.2 d_Ref_isPattern_25
      · refine lv_iconst (v := 1) hx hb d_Ref_isPattern_20 (by decide) ?_
        refine lv_goto (tgt := 25) hx hb d_Ref_isPattern_21 (by decide) ?_
        have hP9 := hP.sub (ws' := []) [] rfl
        have hD9 := hD.sub (ws' := []) [] (by decide) rfl
        have hK9 := hK.sub (tys' := []) [] rfl
        exact W.zret (v := 1) hx hb hr (by decide) (fun t ht hW => ⟨⟨1, (), rfl, (show (1 : Int32) = if v1 ≤ (0 : Int32) then 0 else (if v0 = (2 : Int32) then (if (100 : Int32) < v1 then 0 else 1) else (if (6 : Int32) < v1 then 0 else 1)) from (by rw [if_neg c1, if_pos c7, if_neg c17])), by rw [ht]; exact hP9, va_K.moved hW.alike hK9, hD9⟩, hS.F ht⟩) hS.2.2 d_Ref_isPattern_25

abbrev at_g_Coder_takeWhite (dC : Nat → ClassId) (dI : Nat → Nat → Nat) (h0 : Nat) (o_file : Nat) (o_width : Int32) (o_start : Int32) (o_at : Int32) (o_held : Int32) (o_heldBits : Int32) (o_full : Int32) (o_above : Nat) (o_aboveCount : Int32) (o_line : Nat) (o_lineCount : Int32) (A : Nat → Prop) (u : Unit) (t : State) : Prop := match u with
  | _ => va_P (dC, dI) vcl [(h0, .inr (2, [.ref o_file, .int o_width, .int o_start, .int o_at, .int o_held, .int o_heldBits, .int o_full, .ref o_above, .int o_aboveCount, .ref o_line, .int 0]))] t.heap ∧ va_K (dC, dI) vcl [] t ∧ va_D A [(h0, .inr (2, [.ref o_file, .int o_width, .int o_start, .int o_at, .int o_held, .int o_heldBits, .int o_full, .ref o_above, .int o_aboveCount, .ref o_line, .int 0]))]
abbrev po_g_Coder_takeWhite (h0 : Nat) (o_file : Nat) (o_width : Int32) (o_start : Int32) (o_at : Int32) (o_held : Int32) (o_heldBits : Int32) (o_full : Int32) (o_above : Nat) (o_aboveCount : Int32) (o_line : Nat) (o_lineCount : Int32) (u : Unit) : Prop := match u with
  | _ => True
abbrev q_g_Coder_takeWhite (dC : Nat → ClassId) (dI : Nat → Nat → Nat) (h0 : Nat) (o_file : Nat) (o_width : Int32) (o_start : Int32) (o_at : Int32) (o_held : Int32) (o_heldBits : Int32) (o_full : Int32) (o_above : Nat) (o_aboveCount : Int32) (o_line : Nat) (o_lineCount : Int32) (A : Nat → Prop) : Array Value → State → Outcome → State → Prop := va_Qv (po_g_Coder_takeWhite h0 o_file o_width o_start o_at o_held o_heldBits o_full o_above o_aboveCount o_line o_lineCount) (at_g_Coder_takeWhite dC dI h0 o_file o_width o_start o_at o_held o_heldBits o_full o_above o_aboveCount o_line o_lineCount A) A
abbrev rm_g_Coder_takeWhite : Room := { frames := 0, cells := 0, slots := 0, locals := 0 }
set_option maxHeartbeats 4000000 in
set_option maxRecDepth 100000 in
theorem g_Coder_takeWhite (l : Launch) (dC : Nat → ClassId) (dI : Nat → Nat → Nat) (tt : Nat → Nat) (h0 : Nat) (o_file : Nat) (o_width : Int32) (o_start : Int32) (o_at : Int32) (o_held : Int32) (o_heldBits : Int32) (o_full : Int32) (o_above : Nat) (o_aboveCount : Int32) (o_line : Nat) (o_lineCount : Int32) (sz : Nat)  : Met l y_Coder_takeWhite w_Coder_takeWhite rm_g_Coder_takeWhite (va_Pc [.ref h0] (fun U => U.heap.size = sz ∧ va_P (dC, dI) vcl [(h0, .inr (2, [.ref o_file, .int o_width, .int o_start, .int o_at, .int o_held, .int o_heldBits, .int o_full, .ref o_above, .int o_aboveCount, .ref o_line, .int o_lineCount]))] U.heap ∧ va_K (dC, dI) vcl [] U ∧ va_D (fun _ => True) [(h0, .inr (2, [.ref o_file, .int o_width, .int o_start, .int o_at, .int o_held, .int o_heldBits, .int o_full, .ref o_above, .int o_aboveCount, .ref o_line, .int o_lineCount]))] ∧ SF tt (va_A [(h0, .inr (2, [.ref o_file, .int o_width, .int o_start, .int o_at, .int o_held, .int o_heldBits, .int o_full, .ref o_above, .int o_aboveCount, .ref o_line, .int o_lineCount]))] sz) U U.heap)) (q_g_Coder_takeWhite dC dI h0 o_file o_width o_start o_at o_held o_heldBits o_full o_above o_aboveCount o_line o_lineCount (va_A [(h0, .inr (2, [.ref o_file, .int o_width, .int o_start, .int o_at, .int o_held, .int o_heldBits, .int o_full, .ref o_above, .int o_aboveCount, .ref o_line, .int o_lineCount]))] sz)) 0 0 (va_A [(h0, .inr (2, [.ref o_file, .int o_width, .int o_start, .int o_at, .int o_held, .int o_heldBits, .int o_full, .ref o_above, .int o_aboveCount, .ref o_line, .int o_lineCount]))] sz) := by
  refine Met.ofW (cc := b_Coder_takeWhite) (maxL := 1) (ret := none) (by decide) rfl ?_
  intro p e s m args below meth c s₁ B hml hv
  obtain ⟨rfl, hsz, hP, hK, hD0, hF⟩ := hv
  have hx := B.exec
  have hb := B.bytes
  have hr := B.returns
  have hwd : ∀ w ∈ gT, w.before _ s = true := fun w h => atoms_spec (ws := w_Coder_takeWhite) B.pre w (List.mem_cons_of_mem _ h)
  have hown : s.vm.findClass R_Coder = some m.cls := findClass_of_methodNamed B.named
  have hlocks := B.notSynchronized
  subst hsz
  have hD := hD0.self (sz := s.heap.size)
  generalize hAe : va_A [(h0, .inr (2, [.ref o_file, .int o_width, .int o_start, .int o_at, .int o_held, .int o_heldBits, .int o_full, .ref o_above, .int o_aboveCount, .ref o_line, .int o_lineCount]))] s.heap.size = A at hD hF ⊢
  have hA : ∀ q : Nat, s.heap.size ≤ q → A q := fun q h => by rw [← hAe]; exact Or.inr h
  have hS : va_S A s.heap s.heap [] := va_S.rf
  have hP : va_P (dC, dI) vcl [(h0, .inr (2, [.ref o_file, .int o_width, .int o_start, .int o_at, .int o_held, .int o_heldBits, .int o_full, .ref o_above, .int o_aboveCount, .ref o_line, .int o_lineCount]))] s.heap := hP
  have hl := lv_entry ([.ref h0]) (n := 1) (Nat.le_of_ble_eq_true rfl)
  rw [lg_entry_eq]
  generalize (lg_sl ([.ref h0]) ++ List.replicate (1 - (lg_sl ([.ref h0])).length) Slot.unset).toArray = ls at hl ⊢
  have hl : lv_has ls 1 [(0, .ref h0)] := hl
  refine lv_aload_n hx hb d_Coder_takeWhite_0 rfl (lv_at hl 0 rfl) ?_
  refine lv_iconst (v := 0) hx hb d_Coder_takeWhite_1 (by decide) ?_
  refine va_put (D := (dC, dI)) (ci := 2) (v := .int 0) (ty := .int) (C := R_Coder) (T := F_Coder) (N := 11) hx hb hwd i_Coder t_Coder to_Coder no_Coder hown hK hP hD hS 0 rfl rfl 10 (by decide) (hwd _ wd_4_12) (fun _ h9 => h9) rfl (by decide +kernel) rfl rfl (Nat.le_of_ble_eq_true rfl) d_Coder_takeWhite_2 ?_
  clear hP hD hS
  intro H locs hP hD hS
  replace hP : va_P (dC, dI) vcl [(h0, .inr (2, [.ref o_file, .int o_width, .int o_start, .int o_at, .int o_held, .int o_heldBits, .int o_full, .ref o_above, .int o_aboveCount, .ref o_line, .int 0]))] H := hP
  replace hD : va_D A [(h0, .inr (2, [.ref o_file, .int o_width, .int o_start, .int o_at, .int o_held, .int o_heldBits, .int o_full, .ref o_above, .int o_aboveCount, .ref o_line, .int 0]))] := hD
  have hP9 := hP.sub (ws' := [(h0, .inr (2, [.ref o_file, .int o_width, .int o_start, .int o_at, .int o_held, .int o_heldBits, .int o_full, .ref o_above, .int o_aboveCount, .ref o_line, .int 0]))]) [0] rfl
  have hD9 := hD.sub (ws' := [(h0, .inr (2, [.ref o_file, .int o_width, .int o_start, .int o_at, .int o_held, .int o_heldBits, .int o_full, .ref o_above, .int o_aboveCount, .ref o_line, .int 0]))]) [0] (by decide) rfl
  have hK9 := hK.sub (tys' := []) [] rfl
  exact W.vret hx hb hr (fun t ht hW => ⟨⟨(), rfl, (trivial), by rw [ht]; exact hP9, va_K.moved hW.alike hK9, hD9⟩, hS.F ht⟩) hS.2.2 d_Coder_takeWhite_5

abbrev at_g_Coder_turnOver (dC : Nat → ClassId) (dI : Nat → Nat → Nat) (h0 : Nat) (o_file : Nat) (o_width : Int32) (o_start : Int32) (o_at : Int32) (o_held : Int32) (o_heldBits : Int32) (o_full : Int32) (o_above : Nat) (o_aboveCount : Int32) (o_line : Nat) (o_lineCount : Int32) (A : Nat → Prop) (u : Unit) (t : State) : Prop := match u with
  | _ => va_P (dC, dI) vcl [(h0, .inr (2, [.ref o_file, .int o_width, .int o_start, .int o_at, .int o_held, .int o_heldBits, .int o_full, .ref o_line, .int o_lineCount, .ref o_above, .int o_lineCount]))] t.heap ∧ va_K (dC, dI) vcl [] t ∧ va_D A [(h0, .inr (2, [.ref o_file, .int o_width, .int o_start, .int o_at, .int o_held, .int o_heldBits, .int o_full, .ref o_line, .int o_lineCount, .ref o_above, .int o_lineCount]))]
abbrev po_g_Coder_turnOver (h0 : Nat) (o_file : Nat) (o_width : Int32) (o_start : Int32) (o_at : Int32) (o_held : Int32) (o_heldBits : Int32) (o_full : Int32) (o_above : Nat) (o_aboveCount : Int32) (o_line : Nat) (o_lineCount : Int32) (u : Unit) : Prop := match u with
  | _ => True
abbrev q_g_Coder_turnOver (dC : Nat → ClassId) (dI : Nat → Nat → Nat) (h0 : Nat) (o_file : Nat) (o_width : Int32) (o_start : Int32) (o_at : Int32) (o_held : Int32) (o_heldBits : Int32) (o_full : Int32) (o_above : Nat) (o_aboveCount : Int32) (o_line : Nat) (o_lineCount : Int32) (A : Nat → Prop) : Array Value → State → Outcome → State → Prop := va_Qv (po_g_Coder_turnOver h0 o_file o_width o_start o_at o_held o_heldBits o_full o_above o_aboveCount o_line o_lineCount) (at_g_Coder_turnOver dC dI h0 o_file o_width o_start o_at o_held o_heldBits o_full o_above o_aboveCount o_line o_lineCount A) A
abbrev rm_g_Coder_turnOver : Room := { frames := 0, cells := 0, slots := 0, locals := 0 }
set_option maxHeartbeats 4000000 in
set_option maxRecDepth 100000 in
theorem g_Coder_turnOver (l : Launch) (dC : Nat → ClassId) (dI : Nat → Nat → Nat) (tt : Nat → Nat) (h0 : Nat) (o_file : Nat) (o_width : Int32) (o_start : Int32) (o_at : Int32) (o_held : Int32) (o_heldBits : Int32) (o_full : Int32) (o_above : Nat) (o_aboveCount : Int32) (o_line : Nat) (o_lineCount : Int32) (sz : Nat)  : Met l y_Coder_turnOver w_Coder_turnOver rm_g_Coder_turnOver (va_Pc [.ref h0] (fun U => U.heap.size = sz ∧ va_P (dC, dI) vcl [(h0, .inr (2, [.ref o_file, .int o_width, .int o_start, .int o_at, .int o_held, .int o_heldBits, .int o_full, .ref o_above, .int o_aboveCount, .ref o_line, .int o_lineCount]))] U.heap ∧ va_K (dC, dI) vcl [] U ∧ va_D (fun _ => True) [(h0, .inr (2, [.ref o_file, .int o_width, .int o_start, .int o_at, .int o_held, .int o_heldBits, .int o_full, .ref o_above, .int o_aboveCount, .ref o_line, .int o_lineCount]))] ∧ SF tt (va_A [(h0, .inr (2, [.ref o_file, .int o_width, .int o_start, .int o_at, .int o_held, .int o_heldBits, .int o_full, .ref o_above, .int o_aboveCount, .ref o_line, .int o_lineCount]))] sz) U U.heap)) (q_g_Coder_turnOver dC dI h0 o_file o_width o_start o_at o_held o_heldBits o_full o_above o_aboveCount o_line o_lineCount (va_A [(h0, .inr (2, [.ref o_file, .int o_width, .int o_start, .int o_at, .int o_held, .int o_heldBits, .int o_full, .ref o_above, .int o_aboveCount, .ref o_line, .int o_lineCount]))] sz)) 0 0 (va_A [(h0, .inr (2, [.ref o_file, .int o_width, .int o_start, .int o_at, .int o_held, .int o_heldBits, .int o_full, .ref o_above, .int o_aboveCount, .ref o_line, .int o_lineCount]))] sz) := by
  refine Met.ofW (cc := b_Coder_turnOver) (maxL := 2) (ret := none) (by decide) rfl ?_
  intro p e s m args below meth c s₁ B hml hv
  obtain ⟨rfl, hsz, hP, hK, hD0, hF⟩ := hv
  have hx := B.exec
  have hb := B.bytes
  have hr := B.returns
  have hwd : ∀ w ∈ gT, w.before _ s = true := fun w h => atoms_spec (ws := w_Coder_turnOver) B.pre w (List.mem_cons_of_mem _ h)
  have hown : s.vm.findClass R_Coder = some m.cls := findClass_of_methodNamed B.named
  have hlocks := B.notSynchronized
  subst hsz
  have hD := hD0.self (sz := s.heap.size)
  generalize hAe : va_A [(h0, .inr (2, [.ref o_file, .int o_width, .int o_start, .int o_at, .int o_held, .int o_heldBits, .int o_full, .ref o_above, .int o_aboveCount, .ref o_line, .int o_lineCount]))] s.heap.size = A at hD hF ⊢
  have hA : ∀ q : Nat, s.heap.size ≤ q → A q := fun q h => by rw [← hAe]; exact Or.inr h
  have hS : va_S A s.heap s.heap [] := va_S.rf
  have hP : va_P (dC, dI) vcl [(h0, .inr (2, [.ref o_file, .int o_width, .int o_start, .int o_at, .int o_held, .int o_heldBits, .int o_full, .ref o_above, .int o_aboveCount, .ref o_line, .int o_lineCount]))] s.heap := hP
  have hl := lv_entry ([.ref h0]) (n := 2) (Nat.le_of_ble_eq_true rfl)
  rw [lg_entry_eq]
  generalize (lg_sl ([.ref h0]) ++ List.replicate (2 - (lg_sl ([.ref h0])).length) Slot.unset).toArray = ls at hl ⊢
  have hl : lv_has ls 2 [(0, .ref h0)] := hl
  refine lv_aload_n hx hb d_Coder_turnOver_0 rfl (lv_at hl 0 rfl) ?_
  refine va_get (D := (dC, dI)) (ci := 2) (v := .ref o_line) (C := R_Coder) (T := F_Coder) (N := 11) hx hb hwd i_Coder hown hK hP 0 rfl rfl 9 (by decide) (hwd _ wd_4_11) (fun _ h9 => h9) rfl d_Coder_turnOver_1 ?_
  refine lv_astore_n (lv' := [(1, .ref o_line), (0, .ref h0)]) hx hb d_Coder_turnOver_4 rfl hl (by decide) rfl ?_
  clear hl
  intro ls hl
  refine lv_aload_n hx hb d_Coder_turnOver_5 rfl (lv_at hl 1 rfl) ?_
  refine lv_aload_n hx hb d_Coder_turnOver_6 rfl (lv_at hl 1 rfl) ?_
  refine va_get (D := (dC, dI)) (ci := 2) (v := .ref o_above) (C := R_Coder) (T := F_Coder) (N := 11) hx hb hwd i_Coder hown hK hP 0 rfl rfl 7 (by decide) (hwd _ wd_4_9) (fun _ h9 => h9) rfl d_Coder_turnOver_7 ?_
  refine va_put (D := (dC, dI)) (ci := 2) (v := .ref o_above) (ty := (.array .int)) (C := R_Coder) (T := F_Coder) (N := 11) hx hb hwd i_Coder t_Coder to_Coder no_Coder hown hK hP hD hS 0 rfl rfl 9 (by decide) (hwd _ wd_4_11) (fun _ h9 => h9) rfl (by decide +kernel) rfl rfl (Nat.le_of_ble_eq_true rfl) d_Coder_turnOver_10 ?_
  clear hP hD hS
  intro H locs hP hD hS
  replace hP : va_P (dC, dI) vcl [(h0, .inr (2, [.ref o_file, .int o_width, .int o_start, .int o_at, .int o_held, .int o_heldBits, .int o_full, .ref o_above, .int o_aboveCount, .ref o_above, .int o_lineCount]))] H := hP
  replace hD : va_D A [(h0, .inr (2, [.ref o_file, .int o_width, .int o_start, .int o_at, .int o_held, .int o_heldBits, .int o_full, .ref o_above, .int o_aboveCount, .ref o_above, .int o_lineCount]))] := hD
  refine lv_aload_n hx hb d_Coder_turnOver_13 rfl (lv_at hl 1 rfl) ?_
  refine lv_aload_n hx hb d_Coder_turnOver_14 rfl (lv_at hl 0 rfl) ?_
  refine va_put (D := (dC, dI)) (ci := 2) (v := .ref o_line) (ty := (.array .int)) (C := R_Coder) (T := F_Coder) (N := 11) hx hb hwd i_Coder t_Coder to_Coder no_Coder hown hK hP hD hS 0 rfl rfl 7 (by decide) (hwd _ wd_4_9) (fun _ h9 => h9) rfl (by decide +kernel) rfl rfl (Nat.le_of_ble_eq_true rfl) d_Coder_turnOver_15 ?_
  clear hP hD hS
  intro H locs hP hD hS
  replace hP : va_P (dC, dI) vcl [(h0, .inr (2, [.ref o_file, .int o_width, .int o_start, .int o_at, .int o_held, .int o_heldBits, .int o_full, .ref o_line, .int o_aboveCount, .ref o_above, .int o_lineCount]))] H := hP
  replace hD : va_D A [(h0, .inr (2, [.ref o_file, .int o_width, .int o_start, .int o_at, .int o_held, .int o_heldBits, .int o_full, .ref o_line, .int o_aboveCount, .ref o_above, .int o_lineCount]))] := hD
  refine lv_aload_n hx hb d_Coder_turnOver_18 rfl (lv_at hl 1 rfl) ?_
  refine lv_aload_n hx hb d_Coder_turnOver_19 rfl (lv_at hl 1 rfl) ?_
  refine va_get (D := (dC, dI)) (ci := 2) (v := .int o_lineCount) (C := R_Coder) (T := F_Coder) (N := 11) hx hb hwd i_Coder hown hK hP 0 rfl rfl 10 (by decide) (hwd _ wd_4_12) (fun _ h9 => h9) rfl d_Coder_turnOver_20 ?_
  refine va_put (D := (dC, dI)) (ci := 2) (v := .int o_lineCount) (ty := .int) (C := R_Coder) (T := F_Coder) (N := 11) hx hb hwd i_Coder t_Coder to_Coder no_Coder hown hK hP hD hS 0 rfl rfl 8 (by decide) (hwd _ wd_4_10) (fun _ h9 => h9) rfl (by decide +kernel) rfl rfl (Nat.le_of_ble_eq_true rfl) d_Coder_turnOver_23 ?_
  clear hP hD hS
  intro H locs hP hD hS
  replace hP : va_P (dC, dI) vcl [(h0, .inr (2, [.ref o_file, .int o_width, .int o_start, .int o_at, .int o_held, .int o_heldBits, .int o_full, .ref o_line, .int o_lineCount, .ref o_above, .int o_lineCount]))] H := hP
  replace hD : va_D A [(h0, .inr (2, [.ref o_file, .int o_width, .int o_start, .int o_at, .int o_held, .int o_heldBits, .int o_full, .ref o_line, .int o_lineCount, .ref o_above, .int o_lineCount]))] := hD
  have hP9 := hP.sub (ws' := [(h0, .inr (2, [.ref o_file, .int o_width, .int o_start, .int o_at, .int o_held, .int o_heldBits, .int o_full, .ref o_line, .int o_lineCount, .ref o_above, .int o_lineCount]))]) [0] rfl
  have hD9 := hD.sub (ws' := [(h0, .inr (2, [.ref o_file, .int o_width, .int o_start, .int o_at, .int o_held, .int o_heldBits, .int o_full, .ref o_line, .int o_lineCount, .ref o_above, .int o_lineCount]))]) [0] (by decide) rfl
  have hK9 := hK.sub (tys' := []) [] rfl
  exact W.vret hx hb hr (fun t ht hW => ⟨⟨(), rfl, (trivial), by rw [ht]; exact hP9, va_K.moved hW.alike hK9, hD9⟩, hS.F ht⟩) hS.2.2 d_Coder_turnOver_26

abbrev at_g_FontShelf_setId (dC : Nat → ClassId) (dI : Nat → Nat → Nat) (h0 : Nat) (o_ids : Nat) (o_attributes : Nat) (o_permanent : Nat) (o_fonts : Int32) (o_glyphs : Nat) (o_glyphCount : Int32) (o_dots : Nat) (o_used : Int32) (o_wishes : Nat) (o_pins : Nat) (o_id : Int32) (o_code : Int32) (o_chosen : Nat) (o_chosenKnown : Int32) (o_left : Nat) (o_coming : Nat) (v0 : Int32) (A : Nat → Prop) (u : Unit) (t : State) : Prop := match u with
  | _ => va_P (dC, dI) vcl [(h0, .inr (3, [.ref o_ids, .ref o_attributes, .ref o_permanent, .int o_fonts, .ref o_glyphs, .int o_glyphCount, .ref o_dots, .int o_used, .ref o_wishes, .ref o_pins, .int v0, .int o_code, .ref o_chosen, .int o_chosenKnown, .ref o_left, .ref o_coming]))] t.heap ∧ va_K (dC, dI) vcl [] t ∧ va_D A [(h0, .inr (3, [.ref o_ids, .ref o_attributes, .ref o_permanent, .int o_fonts, .ref o_glyphs, .int o_glyphCount, .ref o_dots, .int o_used, .ref o_wishes, .ref o_pins, .int v0, .int o_code, .ref o_chosen, .int o_chosenKnown, .ref o_left, .ref o_coming]))]
abbrev po_g_FontShelf_setId (h0 : Nat) (o_ids : Nat) (o_attributes : Nat) (o_permanent : Nat) (o_fonts : Int32) (o_glyphs : Nat) (o_glyphCount : Int32) (o_dots : Nat) (o_used : Int32) (o_wishes : Nat) (o_pins : Nat) (o_id : Int32) (o_code : Int32) (o_chosen : Nat) (o_chosenKnown : Int32) (o_left : Nat) (o_coming : Nat) (v0 : Int32) (u : Unit) : Prop := match u with
  | _ => True
abbrev q_g_FontShelf_setId (dC : Nat → ClassId) (dI : Nat → Nat → Nat) (h0 : Nat) (o_ids : Nat) (o_attributes : Nat) (o_permanent : Nat) (o_fonts : Int32) (o_glyphs : Nat) (o_glyphCount : Int32) (o_dots : Nat) (o_used : Int32) (o_wishes : Nat) (o_pins : Nat) (o_id : Int32) (o_code : Int32) (o_chosen : Nat) (o_chosenKnown : Int32) (o_left : Nat) (o_coming : Nat) (v0 : Int32) (A : Nat → Prop) : Array Value → State → Outcome → State → Prop := va_Qv (po_g_FontShelf_setId h0 o_ids o_attributes o_permanent o_fonts o_glyphs o_glyphCount o_dots o_used o_wishes o_pins o_id o_code o_chosen o_chosenKnown o_left o_coming v0) (at_g_FontShelf_setId dC dI h0 o_ids o_attributes o_permanent o_fonts o_glyphs o_glyphCount o_dots o_used o_wishes o_pins o_id o_code o_chosen o_chosenKnown o_left o_coming v0 A) A
abbrev rm_g_FontShelf_setId : Room := { frames := 0, cells := 0, slots := 0, locals := 0 }
set_option maxHeartbeats 4000000 in
set_option maxRecDepth 100000 in
theorem g_FontShelf_setId (l : Launch) (dC : Nat → ClassId) (dI : Nat → Nat → Nat) (tt : Nat → Nat) (h0 : Nat) (o_ids : Nat) (o_attributes : Nat) (o_permanent : Nat) (o_fonts : Int32) (o_glyphs : Nat) (o_glyphCount : Int32) (o_dots : Nat) (o_used : Int32) (o_wishes : Nat) (o_pins : Nat) (o_id : Int32) (o_code : Int32) (o_chosen : Nat) (o_chosenKnown : Int32) (o_left : Nat) (o_coming : Nat) (v0 : Int32) (sz : Nat)  : Met l y_FontShelf_setId w_FontShelf_setId rm_g_FontShelf_setId (va_Pc [.ref h0, .int v0] (fun U => U.heap.size = sz ∧ va_P (dC, dI) vcl [(h0, .inr (3, [.ref o_ids, .ref o_attributes, .ref o_permanent, .int o_fonts, .ref o_glyphs, .int o_glyphCount, .ref o_dots, .int o_used, .ref o_wishes, .ref o_pins, .int o_id, .int o_code, .ref o_chosen, .int o_chosenKnown, .ref o_left, .ref o_coming]))] U.heap ∧ va_K (dC, dI) vcl [] U ∧ va_D (fun _ => True) [(h0, .inr (3, [.ref o_ids, .ref o_attributes, .ref o_permanent, .int o_fonts, .ref o_glyphs, .int o_glyphCount, .ref o_dots, .int o_used, .ref o_wishes, .ref o_pins, .int o_id, .int o_code, .ref o_chosen, .int o_chosenKnown, .ref o_left, .ref o_coming]))] ∧ SF tt (va_A [(h0, .inr (3, [.ref o_ids, .ref o_attributes, .ref o_permanent, .int o_fonts, .ref o_glyphs, .int o_glyphCount, .ref o_dots, .int o_used, .ref o_wishes, .ref o_pins, .int o_id, .int o_code, .ref o_chosen, .int o_chosenKnown, .ref o_left, .ref o_coming]))] sz) U U.heap)) (q_g_FontShelf_setId dC dI h0 o_ids o_attributes o_permanent o_fonts o_glyphs o_glyphCount o_dots o_used o_wishes o_pins o_id o_code o_chosen o_chosenKnown o_left o_coming v0 (va_A [(h0, .inr (3, [.ref o_ids, .ref o_attributes, .ref o_permanent, .int o_fonts, .ref o_glyphs, .int o_glyphCount, .ref o_dots, .int o_used, .ref o_wishes, .ref o_pins, .int o_id, .int o_code, .ref o_chosen, .int o_chosenKnown, .ref o_left, .ref o_coming]))] sz)) 0 0 (va_A [(h0, .inr (3, [.ref o_ids, .ref o_attributes, .ref o_permanent, .int o_fonts, .ref o_glyphs, .int o_glyphCount, .ref o_dots, .int o_used, .ref o_wishes, .ref o_pins, .int o_id, .int o_code, .ref o_chosen, .int o_chosenKnown, .ref o_left, .ref o_coming]))] sz) := by
  refine Met.ofW (cc := b_FontShelf_setId) (maxL := 2) (ret := none) (by decide) rfl ?_
  intro p e s m args below meth c s₁ B hml hv
  obtain ⟨rfl, hsz, hP, hK, hD0, hF⟩ := hv
  have hx := B.exec
  have hb := B.bytes
  have hr := B.returns
  have hwd : ∀ w ∈ gT, w.before _ s = true := fun w h => atoms_spec (ws := w_FontShelf_setId) B.pre w (List.mem_cons_of_mem _ h)
  have hown : s.vm.findClass R_FontShelf = some m.cls := findClass_of_methodNamed B.named
  have hlocks := B.notSynchronized
  subst hsz
  have hD := hD0.self (sz := s.heap.size)
  generalize hAe : va_A [(h0, .inr (3, [.ref o_ids, .ref o_attributes, .ref o_permanent, .int o_fonts, .ref o_glyphs, .int o_glyphCount, .ref o_dots, .int o_used, .ref o_wishes, .ref o_pins, .int o_id, .int o_code, .ref o_chosen, .int o_chosenKnown, .ref o_left, .ref o_coming]))] s.heap.size = A at hD hF ⊢
  have hA : ∀ q : Nat, s.heap.size ≤ q → A q := fun q h => by rw [← hAe]; exact Or.inr h
  have hS : va_S A s.heap s.heap [] := va_S.rf
  have hP : va_P (dC, dI) vcl [(h0, .inr (3, [.ref o_ids, .ref o_attributes, .ref o_permanent, .int o_fonts, .ref o_glyphs, .int o_glyphCount, .ref o_dots, .int o_used, .ref o_wishes, .ref o_pins, .int o_id, .int o_code, .ref o_chosen, .int o_chosenKnown, .ref o_left, .ref o_coming]))] s.heap := hP
  have hl := lv_entry ([.ref h0, .int v0]) (n := 2) (Nat.le_of_ble_eq_true rfl)
  rw [lg_entry_eq]
  generalize (lg_sl ([.ref h0, .int v0]) ++ List.replicate (2 - (lg_sl ([.ref h0, .int v0])).length) Slot.unset).toArray = ls at hl ⊢
  have hl : lv_has ls 2 [(0, .ref h0), (1, .int v0)] := hl
  refine lv_aload_n hx hb d_FontShelf_setId_0 rfl (lv_at hl 0 rfl) ?_
  refine lv_iload_n hx hb d_FontShelf_setId_1 rfl (lv_at hl 1 rfl) ?_
  refine va_put (D := (dC, dI)) (ci := 3) (v := .int v0) (ty := .int) (C := R_FontShelf) (T := F_FontShelf) (N := 16) hx hb hwd i_FontShelf t_FontShelf to_FontShelf no_FontShelf hown hK hP hD hS 0 rfl rfl 10 (by decide) (hwd _ wd_2_111) (fun _ h9 => h9) rfl (by decide +kernel) rfl rfl (Nat.le_of_ble_eq_true rfl) d_FontShelf_setId_2 ?_
  clear hP hD hS
  intro H locs hP hD hS
  replace hP : va_P (dC, dI) vcl [(h0, .inr (3, [.ref o_ids, .ref o_attributes, .ref o_permanent, .int o_fonts, .ref o_glyphs, .int o_glyphCount, .ref o_dots, .int o_used, .ref o_wishes, .ref o_pins, .int v0, .int o_code, .ref o_chosen, .int o_chosenKnown, .ref o_left, .ref o_coming]))] H := hP
  replace hD : va_D A [(h0, .inr (3, [.ref o_ids, .ref o_attributes, .ref o_permanent, .int o_fonts, .ref o_glyphs, .int o_glyphCount, .ref o_dots, .int o_used, .ref o_wishes, .ref o_pins, .int v0, .int o_code, .ref o_chosen, .int o_chosenKnown, .ref o_left, .ref o_coming]))] := hD
  have hP9 := hP.sub (ws' := [(h0, .inr (3, [.ref o_ids, .ref o_attributes, .ref o_permanent, .int o_fonts, .ref o_glyphs, .int o_glyphCount, .ref o_dots, .int o_used, .ref o_wishes, .ref o_pins, .int v0, .int o_code, .ref o_chosen, .int o_chosenKnown, .ref o_left, .ref o_coming]))]) [0] rfl
  have hD9 := hD.sub (ws' := [(h0, .inr (3, [.ref o_ids, .ref o_attributes, .ref o_permanent, .int o_fonts, .ref o_glyphs, .int o_glyphCount, .ref o_dots, .int o_used, .ref o_wishes, .ref o_pins, .int v0, .int o_code, .ref o_chosen, .int o_chosenKnown, .ref o_left, .ref o_coming]))]) [0] (by decide) rfl
  have hK9 := hK.sub (tys' := []) [] rfl
  exact W.vret hx hb hr (fun t ht hW => ⟨⟨(), rfl, (trivial), by rw [ht]; exact hP9, va_K.moved hW.alike hK9, hD9⟩, hS.F ht⟩) hS.2.2 d_FontShelf_setId_5

abbrev at_g_FontShelf_setCode (dC : Nat → ClassId) (dI : Nat → Nat → Nat) (h0 : Nat) (o_ids : Nat) (o_attributes : Nat) (o_permanent : Nat) (o_fonts : Int32) (o_glyphs : Nat) (o_glyphCount : Int32) (o_dots : Nat) (o_used : Int32) (o_wishes : Nat) (o_pins : Nat) (o_id : Int32) (o_code : Int32) (o_chosen : Nat) (o_chosenKnown : Int32) (o_left : Nat) (o_coming : Nat) (v0 : Int32) (A : Nat → Prop) (u : Int32) (t : State) : Prop := match u with
  | z0 => va_P (dC, dI) vcl [(h0, .inr (3, [.ref o_ids, .ref o_attributes, .ref o_permanent, .int o_fonts, .ref o_glyphs, .int o_glyphCount, .ref o_dots, .int o_used, .ref o_wishes, .ref o_pins, .int o_id, .int z0, .ref o_chosen, .int o_chosenKnown, .ref o_left, .ref o_coming]))] t.heap ∧ va_K (dC, dI) vcl [] t ∧ va_D A [(h0, .inr (3, [.ref o_ids, .ref o_attributes, .ref o_permanent, .int o_fonts, .ref o_glyphs, .int o_glyphCount, .ref o_dots, .int o_used, .ref o_wishes, .ref o_pins, .int o_id, .int z0, .ref o_chosen, .int o_chosenKnown, .ref o_left, .ref o_coming]))]
abbrev po_g_FontShelf_setCode (h0 : Nat) (o_ids : Nat) (o_attributes : Nat) (o_permanent : Nat) (o_fonts : Int32) (o_glyphs : Nat) (o_glyphCount : Int32) (o_dots : Nat) (o_used : Int32) (o_wishes : Nat) (o_pins : Nat) (o_id : Int32) (o_code : Int32) (o_chosen : Nat) (o_chosenKnown : Int32) (o_left : Nat) (o_coming : Nat) (v0 : Int32) (u : Int32) : Prop := match u with
  | z0 => z0 = if (255 : Int32) < v0 then o_code else v0
abbrev q_g_FontShelf_setCode (dC : Nat → ClassId) (dI : Nat → Nat → Nat) (h0 : Nat) (o_ids : Nat) (o_attributes : Nat) (o_permanent : Nat) (o_fonts : Int32) (o_glyphs : Nat) (o_glyphCount : Int32) (o_dots : Nat) (o_used : Int32) (o_wishes : Nat) (o_pins : Nat) (o_id : Int32) (o_code : Int32) (o_chosen : Nat) (o_chosenKnown : Int32) (o_left : Nat) (o_coming : Nat) (v0 : Int32) (A : Nat → Prop) : Array Value → State → Outcome → State → Prop := va_Qv (po_g_FontShelf_setCode h0 o_ids o_attributes o_permanent o_fonts o_glyphs o_glyphCount o_dots o_used o_wishes o_pins o_id o_code o_chosen o_chosenKnown o_left o_coming v0) (at_g_FontShelf_setCode dC dI h0 o_ids o_attributes o_permanent o_fonts o_glyphs o_glyphCount o_dots o_used o_wishes o_pins o_id o_code o_chosen o_chosenKnown o_left o_coming v0 A) A
abbrev rm_g_FontShelf_setCode : Room := { frames := 0, cells := 0, slots := 0, locals := 0 }
set_option maxHeartbeats 4000000 in
set_option maxRecDepth 100000 in
theorem g_FontShelf_setCode (l : Launch) (dC : Nat → ClassId) (dI : Nat → Nat → Nat) (tt : Nat → Nat) (h0 : Nat) (o_ids : Nat) (o_attributes : Nat) (o_permanent : Nat) (o_fonts : Int32) (o_glyphs : Nat) (o_glyphCount : Int32) (o_dots : Nat) (o_used : Int32) (o_wishes : Nat) (o_pins : Nat) (o_id : Int32) (o_code : Int32) (o_chosen : Nat) (o_chosenKnown : Int32) (o_left : Nat) (o_coming : Nat) (v0 : Int32) (sz : Nat)  : Met l y_FontShelf_setCode w_FontShelf_setCode rm_g_FontShelf_setCode (va_Pc [.ref h0, .int v0] (fun U => U.heap.size = sz ∧ va_P (dC, dI) vcl [(h0, .inr (3, [.ref o_ids, .ref o_attributes, .ref o_permanent, .int o_fonts, .ref o_glyphs, .int o_glyphCount, .ref o_dots, .int o_used, .ref o_wishes, .ref o_pins, .int o_id, .int o_code, .ref o_chosen, .int o_chosenKnown, .ref o_left, .ref o_coming]))] U.heap ∧ va_K (dC, dI) vcl [] U ∧ va_D (fun _ => True) [(h0, .inr (3, [.ref o_ids, .ref o_attributes, .ref o_permanent, .int o_fonts, .ref o_glyphs, .int o_glyphCount, .ref o_dots, .int o_used, .ref o_wishes, .ref o_pins, .int o_id, .int o_code, .ref o_chosen, .int o_chosenKnown, .ref o_left, .ref o_coming]))] ∧ SF tt (va_A [(h0, .inr (3, [.ref o_ids, .ref o_attributes, .ref o_permanent, .int o_fonts, .ref o_glyphs, .int o_glyphCount, .ref o_dots, .int o_used, .ref o_wishes, .ref o_pins, .int o_id, .int o_code, .ref o_chosen, .int o_chosenKnown, .ref o_left, .ref o_coming]))] sz) U U.heap)) (q_g_FontShelf_setCode dC dI h0 o_ids o_attributes o_permanent o_fonts o_glyphs o_glyphCount o_dots o_used o_wishes o_pins o_id o_code o_chosen o_chosenKnown o_left o_coming v0 (va_A [(h0, .inr (3, [.ref o_ids, .ref o_attributes, .ref o_permanent, .int o_fonts, .ref o_glyphs, .int o_glyphCount, .ref o_dots, .int o_used, .ref o_wishes, .ref o_pins, .int o_id, .int o_code, .ref o_chosen, .int o_chosenKnown, .ref o_left, .ref o_coming]))] sz)) 0 0 (va_A [(h0, .inr (3, [.ref o_ids, .ref o_attributes, .ref o_permanent, .int o_fonts, .ref o_glyphs, .int o_glyphCount, .ref o_dots, .int o_used, .ref o_wishes, .ref o_pins, .int o_id, .int o_code, .ref o_chosen, .int o_chosenKnown, .ref o_left, .ref o_coming]))] sz) := by
  refine Met.ofW (cc := b_FontShelf_setCode) (maxL := 2) (ret := none) (by decide) rfl ?_
  intro p e s m args below meth c s₁ B hml hv
  obtain ⟨rfl, hsz, hP, hK, hD0, hF⟩ := hv
  have hx := B.exec
  have hb := B.bytes
  have hr := B.returns
  have hwd : ∀ w ∈ gT, w.before _ s = true := fun w h => atoms_spec (ws := w_FontShelf_setCode) B.pre w (List.mem_cons_of_mem _ h)
  have hown : s.vm.findClass R_FontShelf = some m.cls := findClass_of_methodNamed B.named
  have hlocks := B.notSynchronized
  subst hsz
  have hD := hD0.self (sz := s.heap.size)
  generalize hAe : va_A [(h0, .inr (3, [.ref o_ids, .ref o_attributes, .ref o_permanent, .int o_fonts, .ref o_glyphs, .int o_glyphCount, .ref o_dots, .int o_used, .ref o_wishes, .ref o_pins, .int o_id, .int o_code, .ref o_chosen, .int o_chosenKnown, .ref o_left, .ref o_coming]))] s.heap.size = A at hD hF ⊢
  have hA : ∀ q : Nat, s.heap.size ≤ q → A q := fun q h => by rw [← hAe]; exact Or.inr h
  have hS : va_S A s.heap s.heap [] := va_S.rf
  have hP : va_P (dC, dI) vcl [(h0, .inr (3, [.ref o_ids, .ref o_attributes, .ref o_permanent, .int o_fonts, .ref o_glyphs, .int o_glyphCount, .ref o_dots, .int o_used, .ref o_wishes, .ref o_pins, .int o_id, .int o_code, .ref o_chosen, .int o_chosenKnown, .ref o_left, .ref o_coming]))] s.heap := hP
  have hl := lv_entry ([.ref h0, .int v0]) (n := 2) (Nat.le_of_ble_eq_true rfl)
  rw [lg_entry_eq]
  generalize (lg_sl ([.ref h0, .int v0]) ++ List.replicate (2 - (lg_sl ([.ref h0, .int v0])).length) Slot.unset).toArray = ls at hl ⊢
  have hl : lv_has ls 2 [(0, .ref h0), (1, .int v0)] := hl
  refine lv_iload_n hx hb d_FontShelf_setCode_0 rfl (lv_at hl 1 rfl) ?_
  refine lv_sipush (v := 255) hx hb d_FontShelf_setCode_1 (by decide) ?_
  refine lv_icmp_gt (tgt := 12) hx hb d_FontShelf_setCode_4 (by decide) (fun c4 => ?_) (fun c4 => ?_)
  · have hP9 := hP.sub (ws' := [(h0, .inr (3, [.ref o_ids, .ref o_attributes, .ref o_permanent, .int o_fonts, .ref o_glyphs, .int o_glyphCount, .ref o_dots, .int o_used, .ref o_wishes, .ref o_pins, .int o_id, .int o_code, .ref o_chosen, .int o_chosenKnown, .ref o_left, .ref o_coming]))]) [0] rfl
    have hD9 := hD.sub (ws' := [(h0, .inr (3, [.ref o_ids, .ref o_attributes, .ref o_permanent, .int o_fonts, .ref o_glyphs, .int o_glyphCount, .ref o_dots, .int o_used, .ref o_wishes, .ref o_pins, .int o_id, .int o_code, .ref o_chosen, .int o_chosenKnown, .ref o_left, .ref o_coming]))]) [0] (by decide) rfl
    have hK9 := hK.sub (tys' := []) [] rfl
    exact W.vret hx hb hr (fun t ht hW => ⟨⟨(o_code), rfl, (show (o_code : Int32) = if (255 : Int32) < v0 then o_code else v0 from (by rw [if_pos c4])), by rw [ht]; exact hP9, va_K.moved hW.alike hK9, hD9⟩, hS.F ht⟩) hS.2.2 d_FontShelf_setCode_12
  · refine lv_aload_n hx hb d_FontShelf_setCode_7 rfl (lv_at hl 0 rfl) ?_
    refine lv_iload_n hx hb d_FontShelf_setCode_8 rfl (lv_at hl 1 rfl) ?_
    refine va_put (D := (dC, dI)) (ci := 3) (v := .int v0) (ty := .int) (C := R_FontShelf) (T := F_FontShelf) (N := 16) hx hb hwd i_FontShelf t_FontShelf to_FontShelf no_FontShelf hown hK hP hD hS 0 rfl rfl 11 (by decide) (hwd _ wd_2_112) (fun _ h9 => h9) rfl (by decide +kernel) rfl rfl (Nat.le_of_ble_eq_true rfl) d_FontShelf_setCode_9 ?_
    clear hP hD hS
    intro H locs hP hD hS
    replace hP : va_P (dC, dI) vcl [(h0, .inr (3, [.ref o_ids, .ref o_attributes, .ref o_permanent, .int o_fonts, .ref o_glyphs, .int o_glyphCount, .ref o_dots, .int o_used, .ref o_wishes, .ref o_pins, .int o_id, .int v0, .ref o_chosen, .int o_chosenKnown, .ref o_left, .ref o_coming]))] H := hP
    replace hD : va_D A [(h0, .inr (3, [.ref o_ids, .ref o_attributes, .ref o_permanent, .int o_fonts, .ref o_glyphs, .int o_glyphCount, .ref o_dots, .int o_used, .ref o_wishes, .ref o_pins, .int o_id, .int v0, .ref o_chosen, .int o_chosenKnown, .ref o_left, .ref o_coming]))] := hD
    have hP9 := hP.sub (ws' := [(h0, .inr (3, [.ref o_ids, .ref o_attributes, .ref o_permanent, .int o_fonts, .ref o_glyphs, .int o_glyphCount, .ref o_dots, .int o_used, .ref o_wishes, .ref o_pins, .int o_id, .int v0, .ref o_chosen, .int o_chosenKnown, .ref o_left, .ref o_coming]))]) [0] rfl
    have hD9 := hD.sub (ws' := [(h0, .inr (3, [.ref o_ids, .ref o_attributes, .ref o_permanent, .int o_fonts, .ref o_glyphs, .int o_glyphCount, .ref o_dots, .int o_used, .ref o_wishes, .ref o_pins, .int o_id, .int v0, .ref o_chosen, .int o_chosenKnown, .ref o_left, .ref o_coming]))]) [0] (by decide) rfl
    have hK9 := hK.sub (tys' := []) [] rfl
    exact W.vret hx hb hr (fun t ht hW => ⟨⟨(v0), rfl, (show (v0 : Int32) = if (255 : Int32) < v0 then o_code else v0 from (by rw [if_neg c4])), by rw [ht]; exact hP9, va_K.moved hW.alike hK9, hD9⟩, hS.F ht⟩) hS.2.2 d_FontShelf_setCode_12

abbrev at_g_Interpreter_waitToDo (dC : Nat → ClassId) (dI : Nat → Nat → Nat) (h0 : Nat) (o_tape : Nat) (o_page : Nat) (o_sheet : Nat) (o_fonts : Nat) (o_macros : Nat) (o_raster : Nat) (o_parser : Nat) (o_copies : Nat) (o_level : Int32) (o_at : Nat) (o_ends : Nat) (o_called : Nat) (o_acts : Nat) (o_actIds : Nat) (o_actCount : Nat) (o_actNext : Nat) (o_ejecting : Int32) (o_then : Int32) (o_thenNumber : Int32) (o_thenStep : Int32) (v0 : Int32) (v1 : Int32) (A : Nat → Prop) (u : Unit) (t : State) : Prop := match u with
  | _ => va_P (dC, dI) vcl [(h0, .inr (4, [.ref o_tape, .ref o_page, .ref o_sheet, .ref o_fonts, .ref o_macros, .ref o_raster, .ref o_parser, .ref o_copies, .int o_level, .ref o_at, .ref o_ends, .ref o_called, .ref o_acts, .ref o_actIds, .ref o_actCount, .ref o_actNext, .int o_ejecting, .int v0, .int v1, .int o_thenStep]))] t.heap ∧ va_K (dC, dI) vcl [] t ∧ va_D A [(h0, .inr (4, [.ref o_tape, .ref o_page, .ref o_sheet, .ref o_fonts, .ref o_macros, .ref o_raster, .ref o_parser, .ref o_copies, .int o_level, .ref o_at, .ref o_ends, .ref o_called, .ref o_acts, .ref o_actIds, .ref o_actCount, .ref o_actNext, .int o_ejecting, .int v0, .int v1, .int o_thenStep]))]
abbrev po_g_Interpreter_waitToDo (h0 : Nat) (o_tape : Nat) (o_page : Nat) (o_sheet : Nat) (o_fonts : Nat) (o_macros : Nat) (o_raster : Nat) (o_parser : Nat) (o_copies : Nat) (o_level : Int32) (o_at : Nat) (o_ends : Nat) (o_called : Nat) (o_acts : Nat) (o_actIds : Nat) (o_actCount : Nat) (o_actNext : Nat) (o_ejecting : Int32) (o_then : Int32) (o_thenNumber : Int32) (o_thenStep : Int32) (v0 : Int32) (v1 : Int32) (u : Unit) : Prop := match u with
  | _ => True
abbrev q_g_Interpreter_waitToDo (dC : Nat → ClassId) (dI : Nat → Nat → Nat) (h0 : Nat) (o_tape : Nat) (o_page : Nat) (o_sheet : Nat) (o_fonts : Nat) (o_macros : Nat) (o_raster : Nat) (o_parser : Nat) (o_copies : Nat) (o_level : Int32) (o_at : Nat) (o_ends : Nat) (o_called : Nat) (o_acts : Nat) (o_actIds : Nat) (o_actCount : Nat) (o_actNext : Nat) (o_ejecting : Int32) (o_then : Int32) (o_thenNumber : Int32) (o_thenStep : Int32) (v0 : Int32) (v1 : Int32) (A : Nat → Prop) : Array Value → State → Outcome → State → Prop := va_Qv (po_g_Interpreter_waitToDo h0 o_tape o_page o_sheet o_fonts o_macros o_raster o_parser o_copies o_level o_at o_ends o_called o_acts o_actIds o_actCount o_actNext o_ejecting o_then o_thenNumber o_thenStep v0 v1) (at_g_Interpreter_waitToDo dC dI h0 o_tape o_page o_sheet o_fonts o_macros o_raster o_parser o_copies o_level o_at o_ends o_called o_acts o_actIds o_actCount o_actNext o_ejecting o_then o_thenNumber o_thenStep v0 v1 A) A
abbrev rm_g_Interpreter_waitToDo : Room := { frames := 0, cells := 0, slots := 0, locals := 0 }
set_option maxHeartbeats 4000000 in
set_option maxRecDepth 100000 in
theorem g_Interpreter_waitToDo (l : Launch) (dC : Nat → ClassId) (dI : Nat → Nat → Nat) (tt : Nat → Nat) (h0 : Nat) (o_tape : Nat) (o_page : Nat) (o_sheet : Nat) (o_fonts : Nat) (o_macros : Nat) (o_raster : Nat) (o_parser : Nat) (o_copies : Nat) (o_level : Int32) (o_at : Nat) (o_ends : Nat) (o_called : Nat) (o_acts : Nat) (o_actIds : Nat) (o_actCount : Nat) (o_actNext : Nat) (o_ejecting : Int32) (o_then : Int32) (o_thenNumber : Int32) (o_thenStep : Int32) (v0 : Int32) (v1 : Int32) (sz : Nat)  : Met l y_Interpreter_waitToDo w_Interpreter_waitToDo rm_g_Interpreter_waitToDo (va_Pc [.ref h0, .int v0, .int v1] (fun U => U.heap.size = sz ∧ va_P (dC, dI) vcl [(h0, .inr (4, [.ref o_tape, .ref o_page, .ref o_sheet, .ref o_fonts, .ref o_macros, .ref o_raster, .ref o_parser, .ref o_copies, .int o_level, .ref o_at, .ref o_ends, .ref o_called, .ref o_acts, .ref o_actIds, .ref o_actCount, .ref o_actNext, .int o_ejecting, .int o_then, .int o_thenNumber, .int o_thenStep]))] U.heap ∧ va_K (dC, dI) vcl [] U ∧ va_D (fun _ => True) [(h0, .inr (4, [.ref o_tape, .ref o_page, .ref o_sheet, .ref o_fonts, .ref o_macros, .ref o_raster, .ref o_parser, .ref o_copies, .int o_level, .ref o_at, .ref o_ends, .ref o_called, .ref o_acts, .ref o_actIds, .ref o_actCount, .ref o_actNext, .int o_ejecting, .int o_then, .int o_thenNumber, .int o_thenStep]))] ∧ SF tt (va_A [(h0, .inr (4, [.ref o_tape, .ref o_page, .ref o_sheet, .ref o_fonts, .ref o_macros, .ref o_raster, .ref o_parser, .ref o_copies, .int o_level, .ref o_at, .ref o_ends, .ref o_called, .ref o_acts, .ref o_actIds, .ref o_actCount, .ref o_actNext, .int o_ejecting, .int o_then, .int o_thenNumber, .int o_thenStep]))] sz) U U.heap)) (q_g_Interpreter_waitToDo dC dI h0 o_tape o_page o_sheet o_fonts o_macros o_raster o_parser o_copies o_level o_at o_ends o_called o_acts o_actIds o_actCount o_actNext o_ejecting o_then o_thenNumber o_thenStep v0 v1 (va_A [(h0, .inr (4, [.ref o_tape, .ref o_page, .ref o_sheet, .ref o_fonts, .ref o_macros, .ref o_raster, .ref o_parser, .ref o_copies, .int o_level, .ref o_at, .ref o_ends, .ref o_called, .ref o_acts, .ref o_actIds, .ref o_actCount, .ref o_actNext, .int o_ejecting, .int o_then, .int o_thenNumber, .int o_thenStep]))] sz)) 0 0 (va_A [(h0, .inr (4, [.ref o_tape, .ref o_page, .ref o_sheet, .ref o_fonts, .ref o_macros, .ref o_raster, .ref o_parser, .ref o_copies, .int o_level, .ref o_at, .ref o_ends, .ref o_called, .ref o_acts, .ref o_actIds, .ref o_actCount, .ref o_actNext, .int o_ejecting, .int o_then, .int o_thenNumber, .int o_thenStep]))] sz) := by
  refine Met.ofW (cc := b_Interpreter_waitToDo) (maxL := 3) (ret := none) (by decide) rfl ?_
  intro p e s m args below meth c s₁ B hml hv
  obtain ⟨rfl, hsz, hP, hK, hD0, hF⟩ := hv
  have hx := B.exec
  have hb := B.bytes
  have hr := B.returns
  have hwd : ∀ w ∈ gT, w.before _ s = true := fun w h => atoms_spec (ws := w_Interpreter_waitToDo) B.pre w (List.mem_cons_of_mem _ h)
  have hown : s.vm.findClass R_Interpreter = some m.cls := findClass_of_methodNamed B.named
  have hlocks := B.notSynchronized
  subst hsz
  have hD := hD0.self (sz := s.heap.size)
  generalize hAe : va_A [(h0, .inr (4, [.ref o_tape, .ref o_page, .ref o_sheet, .ref o_fonts, .ref o_macros, .ref o_raster, .ref o_parser, .ref o_copies, .int o_level, .ref o_at, .ref o_ends, .ref o_called, .ref o_acts, .ref o_actIds, .ref o_actCount, .ref o_actNext, .int o_ejecting, .int o_then, .int o_thenNumber, .int o_thenStep]))] s.heap.size = A at hD hF ⊢
  have hA : ∀ q : Nat, s.heap.size ≤ q → A q := fun q h => by rw [← hAe]; exact Or.inr h
  have hS : va_S A s.heap s.heap [] := va_S.rf
  have hP : va_P (dC, dI) vcl [(h0, .inr (4, [.ref o_tape, .ref o_page, .ref o_sheet, .ref o_fonts, .ref o_macros, .ref o_raster, .ref o_parser, .ref o_copies, .int o_level, .ref o_at, .ref o_ends, .ref o_called, .ref o_acts, .ref o_actIds, .ref o_actCount, .ref o_actNext, .int o_ejecting, .int o_then, .int o_thenNumber, .int o_thenStep]))] s.heap := hP
  have hl := lv_entry ([.ref h0, .int v0, .int v1]) (n := 3) (Nat.le_of_ble_eq_true rfl)
  rw [lg_entry_eq]
  generalize (lg_sl ([.ref h0, .int v0, .int v1]) ++ List.replicate (3 - (lg_sl ([.ref h0, .int v0, .int v1])).length) Slot.unset).toArray = ls at hl ⊢
  have hl : lv_has ls 3 [(0, .ref h0), (1, .int v0), (2, .int v1)] := hl
  refine lv_aload_n hx hb d_Interpreter_waitToDo_0 rfl (lv_at hl 0 rfl) ?_
  refine lv_iload_n hx hb d_Interpreter_waitToDo_1 rfl (lv_at hl 1 rfl) ?_
  refine va_put (D := (dC, dI)) (ci := 4) (v := .int v0) (ty := .int) (C := R_Interpreter) (T := F_Interpreter) (N := 20) hx hb hwd i_Interpreter t_Interpreter to_Interpreter no_Interpreter hown hK hP hD hS 0 rfl rfl 17 (by decide) (hwd _ wd_3_129) (fun _ h9 => h9) rfl (by decide +kernel) rfl rfl (Nat.le_of_ble_eq_true rfl) d_Interpreter_waitToDo_2 ?_
  clear hP hD hS
  intro H locs hP hD hS
  replace hP : va_P (dC, dI) vcl [(h0, .inr (4, [.ref o_tape, .ref o_page, .ref o_sheet, .ref o_fonts, .ref o_macros, .ref o_raster, .ref o_parser, .ref o_copies, .int o_level, .ref o_at, .ref o_ends, .ref o_called, .ref o_acts, .ref o_actIds, .ref o_actCount, .ref o_actNext, .int o_ejecting, .int v0, .int o_thenNumber, .int o_thenStep]))] H := hP
  replace hD : va_D A [(h0, .inr (4, [.ref o_tape, .ref o_page, .ref o_sheet, .ref o_fonts, .ref o_macros, .ref o_raster, .ref o_parser, .ref o_copies, .int o_level, .ref o_at, .ref o_ends, .ref o_called, .ref o_acts, .ref o_actIds, .ref o_actCount, .ref o_actNext, .int o_ejecting, .int v0, .int o_thenNumber, .int o_thenStep]))] := hD
  refine lv_aload_n hx hb d_Interpreter_waitToDo_5 rfl (lv_at hl 0 rfl) ?_
  refine lv_iload_n hx hb d_Interpreter_waitToDo_6 rfl (lv_at hl 2 rfl) ?_
  refine va_put (D := (dC, dI)) (ci := 4) (v := .int v1) (ty := .int) (C := R_Interpreter) (T := F_Interpreter) (N := 20) hx hb hwd i_Interpreter t_Interpreter to_Interpreter no_Interpreter hown hK hP hD hS 0 rfl rfl 18 (by decide) (hwd _ wd_3_130) (fun _ h9 => h9) rfl (by decide +kernel) rfl rfl (Nat.le_of_ble_eq_true rfl) d_Interpreter_waitToDo_7 ?_
  clear hP hD hS
  intro H locs hP hD hS
  replace hP : va_P (dC, dI) vcl [(h0, .inr (4, [.ref o_tape, .ref o_page, .ref o_sheet, .ref o_fonts, .ref o_macros, .ref o_raster, .ref o_parser, .ref o_copies, .int o_level, .ref o_at, .ref o_ends, .ref o_called, .ref o_acts, .ref o_actIds, .ref o_actCount, .ref o_actNext, .int o_ejecting, .int v0, .int v1, .int o_thenStep]))] H := hP
  replace hD : va_D A [(h0, .inr (4, [.ref o_tape, .ref o_page, .ref o_sheet, .ref o_fonts, .ref o_macros, .ref o_raster, .ref o_parser, .ref o_copies, .int o_level, .ref o_at, .ref o_ends, .ref o_called, .ref o_acts, .ref o_actIds, .ref o_actCount, .ref o_actNext, .int o_ejecting, .int v0, .int v1, .int o_thenStep]))] := hD
  have hP9 := hP.sub (ws' := [(h0, .inr (4, [.ref o_tape, .ref o_page, .ref o_sheet, .ref o_fonts, .ref o_macros, .ref o_raster, .ref o_parser, .ref o_copies, .int o_level, .ref o_at, .ref o_ends, .ref o_called, .ref o_acts, .ref o_actIds, .ref o_actCount, .ref o_actNext, .int o_ejecting, .int v0, .int v1, .int o_thenStep]))]) [0] rfl
  have hD9 := hD.sub (ws' := [(h0, .inr (4, [.ref o_tape, .ref o_page, .ref o_sheet, .ref o_fonts, .ref o_macros, .ref o_raster, .ref o_parser, .ref o_copies, .int o_level, .ref o_at, .ref o_ends, .ref o_called, .ref o_acts, .ref o_actIds, .ref o_actCount, .ref o_actNext, .int o_ejecting, .int v0, .int v1, .int o_thenStep]))]) [0] (by decide) rfl
  have hK9 := hK.sub (tys' := []) [] rfl
  exact W.vret hx hb hr (fun t ht hW => ⟨⟨(), rfl, (trivial), by rw [ht]; exact hP9, va_K.moved hW.alike hK9, hD9⟩, hS.F ht⟩) hS.2.2 d_Interpreter_waitToDo_10

abbrev at_g_LineReader_turnOver (dC : Nat → ClassId) (dI : Nat → Nat → Nat) (h0 : Nat) (o_tree : Nat) (o_nodes : Int32) (o_bytes : Nat) (o_at : Int32) (o_end : Int32) (o_turned : Int32) (o_above : Nat) (o_aboveCount : Int32) (o_line : Nat) (o_lineCount : Int32) (o_width : Int32) (o_a : Int32) (o_colour : Int32) (o_over : Int32) (o_run : Int32) (A : Nat → Prop) (u : Unit) (t : State) : Prop := match u with
  | _ => va_P (dC, dI) vcl [(h0, .inr (5, [.ref o_tree, .int o_nodes, .ref o_bytes, .int o_at, .int o_end, .int o_turned, .ref o_line, .int o_lineCount, .ref o_above, .int 0, .int o_width, .int (-1), .int 0, .int 0, .int o_run]))] t.heap ∧ va_K (dC, dI) vcl [] t ∧ va_D A [(h0, .inr (5, [.ref o_tree, .int o_nodes, .ref o_bytes, .int o_at, .int o_end, .int o_turned, .ref o_line, .int o_lineCount, .ref o_above, .int 0, .int o_width, .int (-1), .int 0, .int 0, .int o_run]))]
abbrev po_g_LineReader_turnOver (h0 : Nat) (o_tree : Nat) (o_nodes : Int32) (o_bytes : Nat) (o_at : Int32) (o_end : Int32) (o_turned : Int32) (o_above : Nat) (o_aboveCount : Int32) (o_line : Nat) (o_lineCount : Int32) (o_width : Int32) (o_a : Int32) (o_colour : Int32) (o_over : Int32) (o_run : Int32) (u : Unit) : Prop := match u with
  | _ => True
abbrev q_g_LineReader_turnOver (dC : Nat → ClassId) (dI : Nat → Nat → Nat) (h0 : Nat) (o_tree : Nat) (o_nodes : Int32) (o_bytes : Nat) (o_at : Int32) (o_end : Int32) (o_turned : Int32) (o_above : Nat) (o_aboveCount : Int32) (o_line : Nat) (o_lineCount : Int32) (o_width : Int32) (o_a : Int32) (o_colour : Int32) (o_over : Int32) (o_run : Int32) (A : Nat → Prop) : Array Value → State → Outcome → State → Prop := va_Qv (po_g_LineReader_turnOver h0 o_tree o_nodes o_bytes o_at o_end o_turned o_above o_aboveCount o_line o_lineCount o_width o_a o_colour o_over o_run) (at_g_LineReader_turnOver dC dI h0 o_tree o_nodes o_bytes o_at o_end o_turned o_above o_aboveCount o_line o_lineCount o_width o_a o_colour o_over o_run A) A
abbrev rm_g_LineReader_turnOver : Room := { frames := 0, cells := 0, slots := 0, locals := 0 }
set_option maxHeartbeats 4000000 in
set_option maxRecDepth 100000 in
theorem g_LineReader_turnOver (l : Launch) (dC : Nat → ClassId) (dI : Nat → Nat → Nat) (tt : Nat → Nat) (h0 : Nat) (o_tree : Nat) (o_nodes : Int32) (o_bytes : Nat) (o_at : Int32) (o_end : Int32) (o_turned : Int32) (o_above : Nat) (o_aboveCount : Int32) (o_line : Nat) (o_lineCount : Int32) (o_width : Int32) (o_a : Int32) (o_colour : Int32) (o_over : Int32) (o_run : Int32) (sz : Nat)  : Met l y_LineReader_turnOver w_LineReader_turnOver rm_g_LineReader_turnOver (va_Pc [.ref h0] (fun U => U.heap.size = sz ∧ va_P (dC, dI) vcl [(h0, .inr (5, [.ref o_tree, .int o_nodes, .ref o_bytes, .int o_at, .int o_end, .int o_turned, .ref o_above, .int o_aboveCount, .ref o_line, .int o_lineCount, .int o_width, .int o_a, .int o_colour, .int o_over, .int o_run]))] U.heap ∧ va_K (dC, dI) vcl [] U ∧ va_D (fun _ => True) [(h0, .inr (5, [.ref o_tree, .int o_nodes, .ref o_bytes, .int o_at, .int o_end, .int o_turned, .ref o_above, .int o_aboveCount, .ref o_line, .int o_lineCount, .int o_width, .int o_a, .int o_colour, .int o_over, .int o_run]))] ∧ SF tt (va_A [(h0, .inr (5, [.ref o_tree, .int o_nodes, .ref o_bytes, .int o_at, .int o_end, .int o_turned, .ref o_above, .int o_aboveCount, .ref o_line, .int o_lineCount, .int o_width, .int o_a, .int o_colour, .int o_over, .int o_run]))] sz) U U.heap)) (q_g_LineReader_turnOver dC dI h0 o_tree o_nodes o_bytes o_at o_end o_turned o_above o_aboveCount o_line o_lineCount o_width o_a o_colour o_over o_run (va_A [(h0, .inr (5, [.ref o_tree, .int o_nodes, .ref o_bytes, .int o_at, .int o_end, .int o_turned, .ref o_above, .int o_aboveCount, .ref o_line, .int o_lineCount, .int o_width, .int o_a, .int o_colour, .int o_over, .int o_run]))] sz)) 0 0 (va_A [(h0, .inr (5, [.ref o_tree, .int o_nodes, .ref o_bytes, .int o_at, .int o_end, .int o_turned, .ref o_above, .int o_aboveCount, .ref o_line, .int o_lineCount, .int o_width, .int o_a, .int o_colour, .int o_over, .int o_run]))] sz) := by
  refine Met.ofW (cc := b_LineReader_turnOver) (maxL := 2) (ret := none) (by decide) rfl ?_
  intro p e s m args below meth c s₁ B hml hv
  obtain ⟨rfl, hsz, hP, hK, hD0, hF⟩ := hv
  have hx := B.exec
  have hb := B.bytes
  have hr := B.returns
  have hwd : ∀ w ∈ gT, w.before _ s = true := fun w h => atoms_spec (ws := w_LineReader_turnOver) B.pre w (List.mem_cons_of_mem _ h)
  have hown : s.vm.findClass R_LineReader = some m.cls := findClass_of_methodNamed B.named
  have hlocks := B.notSynchronized
  subst hsz
  have hD := hD0.self (sz := s.heap.size)
  generalize hAe : va_A [(h0, .inr (5, [.ref o_tree, .int o_nodes, .ref o_bytes, .int o_at, .int o_end, .int o_turned, .ref o_above, .int o_aboveCount, .ref o_line, .int o_lineCount, .int o_width, .int o_a, .int o_colour, .int o_over, .int o_run]))] s.heap.size = A at hD hF ⊢
  have hA : ∀ q : Nat, s.heap.size ≤ q → A q := fun q h => by rw [← hAe]; exact Or.inr h
  have hS : va_S A s.heap s.heap [] := va_S.rf
  have hP : va_P (dC, dI) vcl [(h0, .inr (5, [.ref o_tree, .int o_nodes, .ref o_bytes, .int o_at, .int o_end, .int o_turned, .ref o_above, .int o_aboveCount, .ref o_line, .int o_lineCount, .int o_width, .int o_a, .int o_colour, .int o_over, .int o_run]))] s.heap := hP
  have hl := lv_entry ([.ref h0]) (n := 2) (Nat.le_of_ble_eq_true rfl)
  rw [lg_entry_eq]
  generalize (lg_sl ([.ref h0]) ++ List.replicate (2 - (lg_sl ([.ref h0])).length) Slot.unset).toArray = ls at hl ⊢
  have hl : lv_has ls 2 [(0, .ref h0)] := hl
  refine lv_aload_n hx hb d_LineReader_turnOver_0 rfl (lv_at hl 0 rfl) ?_
  refine va_get (D := (dC, dI)) (ci := 5) (v := .ref o_line) (C := R_LineReader) (T := F_LineReader) (N := 15) hx hb hwd i_LineReader hown hK hP 0 rfl rfl 8 (by decide) (hwd _ wd_4_78) (fun _ h9 => h9) rfl d_LineReader_turnOver_1 ?_
  refine lv_astore_n (lv' := [(1, .ref o_line), (0, .ref h0)]) hx hb d_LineReader_turnOver_4 rfl hl (by decide) rfl ?_
  clear hl
  intro ls hl
  refine lv_aload_n hx hb d_LineReader_turnOver_5 rfl (lv_at hl 1 rfl) ?_
  refine lv_aload_n hx hb d_LineReader_turnOver_6 rfl (lv_at hl 1 rfl) ?_
  refine va_get (D := (dC, dI)) (ci := 5) (v := .ref o_above) (C := R_LineReader) (T := F_LineReader) (N := 15) hx hb hwd i_LineReader hown hK hP 0 rfl rfl 6 (by decide) (hwd _ wd_4_76) (fun _ h9 => h9) rfl d_LineReader_turnOver_7 ?_
  refine va_put (D := (dC, dI)) (ci := 5) (v := .ref o_above) (ty := (.array .int)) (C := R_LineReader) (T := F_LineReader) (N := 15) hx hb hwd i_LineReader t_LineReader to_LineReader no_LineReader hown hK hP hD hS 0 rfl rfl 8 (by decide) (hwd _ wd_4_78) (fun _ h9 => h9) rfl (by decide +kernel) rfl rfl (Nat.le_of_ble_eq_true rfl) d_LineReader_turnOver_10 ?_
  clear hP hD hS
  intro H locs hP hD hS
  replace hP : va_P (dC, dI) vcl [(h0, .inr (5, [.ref o_tree, .int o_nodes, .ref o_bytes, .int o_at, .int o_end, .int o_turned, .ref o_above, .int o_aboveCount, .ref o_above, .int o_lineCount, .int o_width, .int o_a, .int o_colour, .int o_over, .int o_run]))] H := hP
  replace hD : va_D A [(h0, .inr (5, [.ref o_tree, .int o_nodes, .ref o_bytes, .int o_at, .int o_end, .int o_turned, .ref o_above, .int o_aboveCount, .ref o_above, .int o_lineCount, .int o_width, .int o_a, .int o_colour, .int o_over, .int o_run]))] := hD
  refine lv_aload_n hx hb d_LineReader_turnOver_13 rfl (lv_at hl 1 rfl) ?_
  refine lv_aload_n hx hb d_LineReader_turnOver_14 rfl (lv_at hl 0 rfl) ?_
  refine va_put (D := (dC, dI)) (ci := 5) (v := .ref o_line) (ty := (.array .int)) (C := R_LineReader) (T := F_LineReader) (N := 15) hx hb hwd i_LineReader t_LineReader to_LineReader no_LineReader hown hK hP hD hS 0 rfl rfl 6 (by decide) (hwd _ wd_4_76) (fun _ h9 => h9) rfl (by decide +kernel) rfl rfl (Nat.le_of_ble_eq_true rfl) d_LineReader_turnOver_15 ?_
  clear hP hD hS
  intro H locs hP hD hS
  replace hP : va_P (dC, dI) vcl [(h0, .inr (5, [.ref o_tree, .int o_nodes, .ref o_bytes, .int o_at, .int o_end, .int o_turned, .ref o_line, .int o_aboveCount, .ref o_above, .int o_lineCount, .int o_width, .int o_a, .int o_colour, .int o_over, .int o_run]))] H := hP
  replace hD : va_D A [(h0, .inr (5, [.ref o_tree, .int o_nodes, .ref o_bytes, .int o_at, .int o_end, .int o_turned, .ref o_line, .int o_aboveCount, .ref o_above, .int o_lineCount, .int o_width, .int o_a, .int o_colour, .int o_over, .int o_run]))] := hD
  refine lv_aload_n hx hb d_LineReader_turnOver_18 rfl (lv_at hl 1 rfl) ?_
  refine lv_aload_n hx hb d_LineReader_turnOver_19 rfl (lv_at hl 1 rfl) ?_
  refine va_get (D := (dC, dI)) (ci := 5) (v := .int o_lineCount) (C := R_LineReader) (T := F_LineReader) (N := 15) hx hb hwd i_LineReader hown hK hP 0 rfl rfl 9 (by decide) (hwd _ wd_4_80) (fun _ h9 => h9) rfl d_LineReader_turnOver_20 ?_
  refine va_put (D := (dC, dI)) (ci := 5) (v := .int o_lineCount) (ty := .int) (C := R_LineReader) (T := F_LineReader) (N := 15) hx hb hwd i_LineReader t_LineReader to_LineReader no_LineReader hown hK hP hD hS 0 rfl rfl 7 (by decide) (hwd _ wd_4_77) (fun _ h9 => h9) rfl (by decide +kernel) rfl rfl (Nat.le_of_ble_eq_true rfl) d_LineReader_turnOver_23 ?_
  clear hP hD hS
  intro H locs hP hD hS
  replace hP : va_P (dC, dI) vcl [(h0, .inr (5, [.ref o_tree, .int o_nodes, .ref o_bytes, .int o_at, .int o_end, .int o_turned, .ref o_line, .int o_lineCount, .ref o_above, .int o_lineCount, .int o_width, .int o_a, .int o_colour, .int o_over, .int o_run]))] H := hP
  replace hD : va_D A [(h0, .inr (5, [.ref o_tree, .int o_nodes, .ref o_bytes, .int o_at, .int o_end, .int o_turned, .ref o_line, .int o_lineCount, .ref o_above, .int o_lineCount, .int o_width, .int o_a, .int o_colour, .int o_over, .int o_run]))] := hD
  refine lv_aload_n hx hb d_LineReader_turnOver_26 rfl (lv_at hl 1 rfl) ?_
  refine lv_iconst (v := 0) hx hb d_LineReader_turnOver_27 (by decide) ?_
  refine va_put (D := (dC, dI)) (ci := 5) (v := .int 0) (ty := .int) (C := R_LineReader) (T := F_LineReader) (N := 15) hx hb hwd i_LineReader t_LineReader to_LineReader no_LineReader hown hK hP hD hS 0 rfl rfl 9 (by decide) (hwd _ wd_4_80) (fun _ h9 => h9) rfl (by decide +kernel) rfl rfl (Nat.le_of_ble_eq_true rfl) d_LineReader_turnOver_28 ?_
  clear hP hD hS
  intro H locs hP hD hS
  replace hP : va_P (dC, dI) vcl [(h0, .inr (5, [.ref o_tree, .int o_nodes, .ref o_bytes, .int o_at, .int o_end, .int o_turned, .ref o_line, .int o_lineCount, .ref o_above, .int 0, .int o_width, .int o_a, .int o_colour, .int o_over, .int o_run]))] H := hP
  replace hD : va_D A [(h0, .inr (5, [.ref o_tree, .int o_nodes, .ref o_bytes, .int o_at, .int o_end, .int o_turned, .ref o_line, .int o_lineCount, .ref o_above, .int 0, .int o_width, .int o_a, .int o_colour, .int o_over, .int o_run]))] := hD
  refine lv_aload_n hx hb d_LineReader_turnOver_31 rfl (lv_at hl 1 rfl) ?_
  refine lv_iconst (v := (-1)) hx hb d_LineReader_turnOver_32 (by decide) ?_
  refine va_put (D := (dC, dI)) (ci := 5) (v := .int (-1)) (ty := .int) (C := R_LineReader) (T := F_LineReader) (N := 15) hx hb hwd i_LineReader t_LineReader to_LineReader no_LineReader hown hK hP hD hS 0 rfl rfl 11 (by decide) (hwd _ wd_4_83) (fun _ h9 => h9) rfl (by decide +kernel) rfl rfl (Nat.le_of_ble_eq_true rfl) d_LineReader_turnOver_33 ?_
  clear hP hD hS
  intro H locs hP hD hS
  replace hP : va_P (dC, dI) vcl [(h0, .inr (5, [.ref o_tree, .int o_nodes, .ref o_bytes, .int o_at, .int o_end, .int o_turned, .ref o_line, .int o_lineCount, .ref o_above, .int 0, .int o_width, .int (-1), .int o_colour, .int o_over, .int o_run]))] H := hP
  replace hD : va_D A [(h0, .inr (5, [.ref o_tree, .int o_nodes, .ref o_bytes, .int o_at, .int o_end, .int o_turned, .ref o_line, .int o_lineCount, .ref o_above, .int 0, .int o_width, .int (-1), .int o_colour, .int o_over, .int o_run]))] := hD
  refine lv_aload_n hx hb d_LineReader_turnOver_36 rfl (lv_at hl 1 rfl) ?_
  refine lv_iconst (v := 0) hx hb d_LineReader_turnOver_37 (by decide) ?_
  refine va_put (D := (dC, dI)) (ci := 5) (v := .int 0) (ty := .int) (C := R_LineReader) (T := F_LineReader) (N := 15) hx hb hwd i_LineReader t_LineReader to_LineReader no_LineReader hown hK hP hD hS 0 rfl rfl 12 (by decide) (hwd _ wd_4_84) (fun _ h9 => h9) rfl (by decide +kernel) rfl rfl (Nat.le_of_ble_eq_true rfl) d_LineReader_turnOver_38 ?_
  clear hP hD hS
  intro H locs hP hD hS
  replace hP : va_P (dC, dI) vcl [(h0, .inr (5, [.ref o_tree, .int o_nodes, .ref o_bytes, .int o_at, .int o_end, .int o_turned, .ref o_line, .int o_lineCount, .ref o_above, .int 0, .int o_width, .int (-1), .int 0, .int o_over, .int o_run]))] H := hP
  replace hD : va_D A [(h0, .inr (5, [.ref o_tree, .int o_nodes, .ref o_bytes, .int o_at, .int o_end, .int o_turned, .ref o_line, .int o_lineCount, .ref o_above, .int 0, .int o_width, .int (-1), .int 0, .int o_over, .int o_run]))] := hD
  refine lv_aload_n hx hb d_LineReader_turnOver_41 rfl (lv_at hl 1 rfl) ?_
  refine lv_iconst (v := 0) hx hb d_LineReader_turnOver_42 (by decide) ?_
  refine va_put (D := (dC, dI)) (ci := 5) (v := .int 0) (ty := .int) (C := R_LineReader) (T := F_LineReader) (N := 15) hx hb hwd i_LineReader t_LineReader to_LineReader no_LineReader hown hK hP hD hS 0 rfl rfl 13 (by decide) (hwd _ wd_4_85) (fun _ h9 => h9) rfl (by decide +kernel) rfl rfl (Nat.le_of_ble_eq_true rfl) d_LineReader_turnOver_43 ?_
  clear hP hD hS
  intro H locs hP hD hS
  replace hP : va_P (dC, dI) vcl [(h0, .inr (5, [.ref o_tree, .int o_nodes, .ref o_bytes, .int o_at, .int o_end, .int o_turned, .ref o_line, .int o_lineCount, .ref o_above, .int 0, .int o_width, .int (-1), .int 0, .int 0, .int o_run]))] H := hP
  replace hD : va_D A [(h0, .inr (5, [.ref o_tree, .int o_nodes, .ref o_bytes, .int o_at, .int o_end, .int o_turned, .ref o_line, .int o_lineCount, .ref o_above, .int 0, .int o_width, .int (-1), .int 0, .int 0, .int o_run]))] := hD
  have hP9 := hP.sub (ws' := [(h0, .inr (5, [.ref o_tree, .int o_nodes, .ref o_bytes, .int o_at, .int o_end, .int o_turned, .ref o_line, .int o_lineCount, .ref o_above, .int 0, .int o_width, .int (-1), .int 0, .int 0, .int o_run]))]) [0] rfl
  have hD9 := hD.sub (ws' := [(h0, .inr (5, [.ref o_tree, .int o_nodes, .ref o_bytes, .int o_at, .int o_end, .int o_turned, .ref o_line, .int o_lineCount, .ref o_above, .int 0, .int o_width, .int (-1), .int 0, .int 0, .int o_run]))]) [0] (by decide) rfl
  have hK9 := hK.sub (tys' := []) [] rfl
  exact W.vret hx hb hr (fun t ht hW => ⟨⟨(), rfl, (trivial), by rw [ht]; exact hP9, va_K.moved hW.alike hK9, hD9⟩, hS.F ht⟩) hS.2.2 d_LineReader_turnOver_46

abbrev at_g_Macros_setId (dC : Nat → ClassId) (dI : Nat → Nat → Nat) (h0 : Nat) (o_ids : Nat) (o_places : Nat) (o_lengths : Nat) (o_permanent : Nat) (o_count : Int32) (o_bytes : Nat) (o_used : Int32) (o_had : Int32) (o_id : Int32) (o_reading : Int32) (o_readingId : Int32) (o_collected : Nat) (o_collectedCount : Int32) (o_matched : Int32) (o_saidActs : Nat) (o_saidIds : Nat) (o_said : Int32) (v0 : Int32) (A : Nat → Prop) (u : Unit) (t : State) : Prop := match u with
  | _ => va_P (dC, dI) vcl [(h0, .inr (6, [.ref o_ids, .ref o_places, .ref o_lengths, .ref o_permanent, .int o_count, .ref o_bytes, .int o_used, .int o_had, .int v0, .int o_reading, .int o_readingId, .ref o_collected, .int o_collectedCount, .int o_matched, .ref o_saidActs, .ref o_saidIds, .int o_said]))] t.heap ∧ va_K (dC, dI) vcl [] t ∧ va_D A [(h0, .inr (6, [.ref o_ids, .ref o_places, .ref o_lengths, .ref o_permanent, .int o_count, .ref o_bytes, .int o_used, .int o_had, .int v0, .int o_reading, .int o_readingId, .ref o_collected, .int o_collectedCount, .int o_matched, .ref o_saidActs, .ref o_saidIds, .int o_said]))]
abbrev po_g_Macros_setId (h0 : Nat) (o_ids : Nat) (o_places : Nat) (o_lengths : Nat) (o_permanent : Nat) (o_count : Int32) (o_bytes : Nat) (o_used : Int32) (o_had : Int32) (o_id : Int32) (o_reading : Int32) (o_readingId : Int32) (o_collected : Nat) (o_collectedCount : Int32) (o_matched : Int32) (o_saidActs : Nat) (o_saidIds : Nat) (o_said : Int32) (v0 : Int32) (u : Unit) : Prop := match u with
  | _ => True
abbrev q_g_Macros_setId (dC : Nat → ClassId) (dI : Nat → Nat → Nat) (h0 : Nat) (o_ids : Nat) (o_places : Nat) (o_lengths : Nat) (o_permanent : Nat) (o_count : Int32) (o_bytes : Nat) (o_used : Int32) (o_had : Int32) (o_id : Int32) (o_reading : Int32) (o_readingId : Int32) (o_collected : Nat) (o_collectedCount : Int32) (o_matched : Int32) (o_saidActs : Nat) (o_saidIds : Nat) (o_said : Int32) (v0 : Int32) (A : Nat → Prop) : Array Value → State → Outcome → State → Prop := va_Qv (po_g_Macros_setId h0 o_ids o_places o_lengths o_permanent o_count o_bytes o_used o_had o_id o_reading o_readingId o_collected o_collectedCount o_matched o_saidActs o_saidIds o_said v0) (at_g_Macros_setId dC dI h0 o_ids o_places o_lengths o_permanent o_count o_bytes o_used o_had o_id o_reading o_readingId o_collected o_collectedCount o_matched o_saidActs o_saidIds o_said v0 A) A
abbrev rm_g_Macros_setId : Room := { frames := 0, cells := 0, slots := 0, locals := 0 }
set_option maxHeartbeats 4000000 in
set_option maxRecDepth 100000 in
theorem g_Macros_setId (l : Launch) (dC : Nat → ClassId) (dI : Nat → Nat → Nat) (tt : Nat → Nat) (h0 : Nat) (o_ids : Nat) (o_places : Nat) (o_lengths : Nat) (o_permanent : Nat) (o_count : Int32) (o_bytes : Nat) (o_used : Int32) (o_had : Int32) (o_id : Int32) (o_reading : Int32) (o_readingId : Int32) (o_collected : Nat) (o_collectedCount : Int32) (o_matched : Int32) (o_saidActs : Nat) (o_saidIds : Nat) (o_said : Int32) (v0 : Int32) (sz : Nat)  : Met l y_Macros_setId w_Macros_setId rm_g_Macros_setId (va_Pc [.ref h0, .int v0] (fun U => U.heap.size = sz ∧ va_P (dC, dI) vcl [(h0, .inr (6, [.ref o_ids, .ref o_places, .ref o_lengths, .ref o_permanent, .int o_count, .ref o_bytes, .int o_used, .int o_had, .int o_id, .int o_reading, .int o_readingId, .ref o_collected, .int o_collectedCount, .int o_matched, .ref o_saidActs, .ref o_saidIds, .int o_said]))] U.heap ∧ va_K (dC, dI) vcl [] U ∧ va_D (fun _ => True) [(h0, .inr (6, [.ref o_ids, .ref o_places, .ref o_lengths, .ref o_permanent, .int o_count, .ref o_bytes, .int o_used, .int o_had, .int o_id, .int o_reading, .int o_readingId, .ref o_collected, .int o_collectedCount, .int o_matched, .ref o_saidActs, .ref o_saidIds, .int o_said]))] ∧ SF tt (va_A [(h0, .inr (6, [.ref o_ids, .ref o_places, .ref o_lengths, .ref o_permanent, .int o_count, .ref o_bytes, .int o_used, .int o_had, .int o_id, .int o_reading, .int o_readingId, .ref o_collected, .int o_collectedCount, .int o_matched, .ref o_saidActs, .ref o_saidIds, .int o_said]))] sz) U U.heap)) (q_g_Macros_setId dC dI h0 o_ids o_places o_lengths o_permanent o_count o_bytes o_used o_had o_id o_reading o_readingId o_collected o_collectedCount o_matched o_saidActs o_saidIds o_said v0 (va_A [(h0, .inr (6, [.ref o_ids, .ref o_places, .ref o_lengths, .ref o_permanent, .int o_count, .ref o_bytes, .int o_used, .int o_had, .int o_id, .int o_reading, .int o_readingId, .ref o_collected, .int o_collectedCount, .int o_matched, .ref o_saidActs, .ref o_saidIds, .int o_said]))] sz)) 0 0 (va_A [(h0, .inr (6, [.ref o_ids, .ref o_places, .ref o_lengths, .ref o_permanent, .int o_count, .ref o_bytes, .int o_used, .int o_had, .int o_id, .int o_reading, .int o_readingId, .ref o_collected, .int o_collectedCount, .int o_matched, .ref o_saidActs, .ref o_saidIds, .int o_said]))] sz) := by
  refine Met.ofW (cc := b_Macros_setId) (maxL := 2) (ret := none) (by decide) rfl ?_
  intro p e s m args below meth c s₁ B hml hv
  obtain ⟨rfl, hsz, hP, hK, hD0, hF⟩ := hv
  have hx := B.exec
  have hb := B.bytes
  have hr := B.returns
  have hwd : ∀ w ∈ gT, w.before _ s = true := fun w h => atoms_spec (ws := w_Macros_setId) B.pre w (List.mem_cons_of_mem _ h)
  have hown : s.vm.findClass R_Macros = some m.cls := findClass_of_methodNamed B.named
  have hlocks := B.notSynchronized
  subst hsz
  have hD := hD0.self (sz := s.heap.size)
  generalize hAe : va_A [(h0, .inr (6, [.ref o_ids, .ref o_places, .ref o_lengths, .ref o_permanent, .int o_count, .ref o_bytes, .int o_used, .int o_had, .int o_id, .int o_reading, .int o_readingId, .ref o_collected, .int o_collectedCount, .int o_matched, .ref o_saidActs, .ref o_saidIds, .int o_said]))] s.heap.size = A at hD hF ⊢
  have hA : ∀ q : Nat, s.heap.size ≤ q → A q := fun q h => by rw [← hAe]; exact Or.inr h
  have hS : va_S A s.heap s.heap [] := va_S.rf
  have hP : va_P (dC, dI) vcl [(h0, .inr (6, [.ref o_ids, .ref o_places, .ref o_lengths, .ref o_permanent, .int o_count, .ref o_bytes, .int o_used, .int o_had, .int o_id, .int o_reading, .int o_readingId, .ref o_collected, .int o_collectedCount, .int o_matched, .ref o_saidActs, .ref o_saidIds, .int o_said]))] s.heap := hP
  have hl := lv_entry ([.ref h0, .int v0]) (n := 2) (Nat.le_of_ble_eq_true rfl)
  rw [lg_entry_eq]
  generalize (lg_sl ([.ref h0, .int v0]) ++ List.replicate (2 - (lg_sl ([.ref h0, .int v0])).length) Slot.unset).toArray = ls at hl ⊢
  have hl : lv_has ls 2 [(0, .ref h0), (1, .int v0)] := hl
  refine lv_aload_n hx hb d_Macros_setId_0 rfl (lv_at hl 0 rfl) ?_
  refine lv_iload_n hx hb d_Macros_setId_1 rfl (lv_at hl 1 rfl) ?_
  refine va_put (D := (dC, dI)) (ci := 6) (v := .int v0) (ty := .int) (C := R_Macros) (T := F_Macros) (N := 17) hx hb hwd i_Macros t_Macros to_Macros no_Macros hown hK hP hD hS 0 rfl rfl 8 (by decide) (hwd _ wd_2_170) (fun _ h9 => h9) rfl (by decide +kernel) rfl rfl (Nat.le_of_ble_eq_true rfl) d_Macros_setId_2 ?_
  clear hP hD hS
  intro H locs hP hD hS
  replace hP : va_P (dC, dI) vcl [(h0, .inr (6, [.ref o_ids, .ref o_places, .ref o_lengths, .ref o_permanent, .int o_count, .ref o_bytes, .int o_used, .int o_had, .int v0, .int o_reading, .int o_readingId, .ref o_collected, .int o_collectedCount, .int o_matched, .ref o_saidActs, .ref o_saidIds, .int o_said]))] H := hP
  replace hD : va_D A [(h0, .inr (6, [.ref o_ids, .ref o_places, .ref o_lengths, .ref o_permanent, .int o_count, .ref o_bytes, .int o_used, .int o_had, .int v0, .int o_reading, .int o_readingId, .ref o_collected, .int o_collectedCount, .int o_matched, .ref o_saidActs, .ref o_saidIds, .int o_said]))] := hD
  have hP9 := hP.sub (ws' := [(h0, .inr (6, [.ref o_ids, .ref o_places, .ref o_lengths, .ref o_permanent, .int o_count, .ref o_bytes, .int o_used, .int o_had, .int v0, .int o_reading, .int o_readingId, .ref o_collected, .int o_collectedCount, .int o_matched, .ref o_saidActs, .ref o_saidIds, .int o_said]))]) [0] rfl
  have hD9 := hD.sub (ws' := [(h0, .inr (6, [.ref o_ids, .ref o_places, .ref o_lengths, .ref o_permanent, .int o_count, .ref o_bytes, .int o_used, .int o_had, .int v0, .int o_reading, .int o_readingId, .ref o_collected, .int o_collectedCount, .int o_matched, .ref o_saidActs, .ref o_saidIds, .int o_said]))]) [0] (by decide) rfl
  have hK9 := hK.sub (tys' := []) [] rfl
  exact W.vret hx hb hr (fun t ht hW => ⟨⟨(), rfl, (trivial), by rw [ht]; exact hP9, va_K.moved hW.alike hK9, hD9⟩, hS.F ht⟩) hS.2.2 d_Macros_setId_5

abbrev at_g_OutFile_evenLength (dC : Nat → ClassId) (dI : Nat → Nat → Nat) (h0 : Nat) (o_bytes : Nat) (o_table : Nat) (o_length : Int32) (o_pages : Int32) (o_link : Int32) (A : Nat → Prop) (u : Unit) (t : State) : Prop := match u with
  | _ => va_P (dC, dI) vcl [(h0, .inr (7, [.ref o_bytes, .ref o_table, .int o_length, .int o_pages, .int o_link]))] t.heap ∧ va_K (dC, dI) vcl [] t ∧ va_D A [(h0, .inr (7, [.ref o_bytes, .ref o_table, .int o_length, .int o_pages, .int o_link]))]
abbrev po_g_OutFile_evenLength (h0 : Nat) (o_bytes : Nat) (o_table : Nat) (o_length : Int32) (o_pages : Int32) (o_link : Int32) (r : Int32) (u : Unit) : Prop := match u with
  | _ => r = o_length + (o_length &&& 1)
abbrev q_g_OutFile_evenLength (dC : Nat → ClassId) (dI : Nat → Nat → Nat) (h0 : Nat) (o_bytes : Nat) (o_table : Nat) (o_length : Int32) (o_pages : Int32) (o_link : Int32) (A : Nat → Prop) : Array Value → State → Outcome → State → Prop := va_Qi (po_g_OutFile_evenLength h0 o_bytes o_table o_length o_pages o_link) (at_g_OutFile_evenLength dC dI h0 o_bytes o_table o_length o_pages o_link A) A
abbrev rm_g_OutFile_evenLength : Room := { frames := 0, cells := 0, slots := 0, locals := 0 }
set_option maxHeartbeats 4000000 in
set_option maxRecDepth 100000 in
theorem g_OutFile_evenLength (l : Launch) (dC : Nat → ClassId) (dI : Nat → Nat → Nat) (tt : Nat → Nat) (h0 : Nat) (o_bytes : Nat) (o_table : Nat) (o_length : Int32) (o_pages : Int32) (o_link : Int32) (sz : Nat)  : Met l y_OutFile_evenLength w_OutFile_evenLength rm_g_OutFile_evenLength (va_Pc [.ref h0] (fun U => U.heap.size = sz ∧ va_P (dC, dI) vcl [(h0, .inr (7, [.ref o_bytes, .ref o_table, .int o_length, .int o_pages, .int o_link]))] U.heap ∧ va_K (dC, dI) vcl [] U ∧ va_D (fun _ => True) [(h0, .inr (7, [.ref o_bytes, .ref o_table, .int o_length, .int o_pages, .int o_link]))] ∧ SF tt (va_A [(h0, .inr (7, [.ref o_bytes, .ref o_table, .int o_length, .int o_pages, .int o_link]))] sz) U U.heap)) (q_g_OutFile_evenLength dC dI h0 o_bytes o_table o_length o_pages o_link (va_A [(h0, .inr (7, [.ref o_bytes, .ref o_table, .int o_length, .int o_pages, .int o_link]))] sz)) 0 0 (va_A [(h0, .inr (7, [.ref o_bytes, .ref o_table, .int o_length, .int o_pages, .int o_link]))] sz) := by
  refine Met.ofW (cc := b_OutFile_evenLength) (maxL := 1) (ret := (some .int)) (by decide) rfl ?_
  intro p e s m args below meth c s₁ B hml hv
  obtain ⟨rfl, hsz, hP, hK, hD0, hF⟩ := hv
  have hx := B.exec
  have hb := B.bytes
  have hr := B.returns
  have hwd : ∀ w ∈ gT, w.before _ s = true := fun w h => atoms_spec (ws := w_OutFile_evenLength) B.pre w (List.mem_cons_of_mem _ h)
  have hown : s.vm.findClass R_OutFile = some m.cls := findClass_of_methodNamed B.named
  have hlocks := B.notSynchronized
  subst hsz
  have hD := hD0.self (sz := s.heap.size)
  generalize hAe : va_A [(h0, .inr (7, [.ref o_bytes, .ref o_table, .int o_length, .int o_pages, .int o_link]))] s.heap.size = A at hD hF ⊢
  have hA : ∀ q : Nat, s.heap.size ≤ q → A q := fun q h => by rw [← hAe]; exact Or.inr h
  have hS : va_S A s.heap s.heap [] := va_S.rf
  have hP : va_P (dC, dI) vcl [(h0, .inr (7, [.ref o_bytes, .ref o_table, .int o_length, .int o_pages, .int o_link]))] s.heap := hP
  have hl := lv_entry ([.ref h0]) (n := 1) (Nat.le_of_ble_eq_true rfl)
  rw [lg_entry_eq]
  generalize (lg_sl ([.ref h0]) ++ List.replicate (1 - (lg_sl ([.ref h0])).length) Slot.unset).toArray = ls at hl ⊢
  have hl : lv_has ls 1 [(0, .ref h0)] := hl
  refine lv_aload_n hx hb d_OutFile_evenLength_0 rfl (lv_at hl 0 rfl) ?_
  refine va_get (D := (dC, dI)) (ci := 7) (v := .int o_length) (C := R_OutFile) (T := F_OutFile) (N := 5) hx hb hwd i_OutFile hown hK hP 0 rfl rfl 2 (by decide) (hwd _ wd_3_217) (fun _ h9 => h9) rfl d_OutFile_evenLength_1 ?_
  refine lv_aload_n hx hb d_OutFile_evenLength_4 rfl (lv_at hl 0 rfl) ?_
  refine va_get (D := (dC, dI)) (ci := 7) (v := .int o_length) (C := R_OutFile) (T := F_OutFile) (N := 5) hx hb hwd i_OutFile hown hK hP 0 rfl rfl 2 (by decide) (hwd _ wd_3_217) (fun _ h9 => h9) rfl d_OutFile_evenLength_5 ?_
  refine lv_iconst (v := 1) hx hb d_OutFile_evenLength_8 (by decide) ?_
  refine lv_iand hx hb d_OutFile_evenLength_9 ?_
  refine lv_iadd hx hb d_OutFile_evenLength_10 ?_
  have hP9 := hP.sub (ws' := [(h0, .inr (7, [.ref o_bytes, .ref o_table, .int o_length, .int o_pages, .int o_link]))]) [0] rfl
  have hD9 := hD.sub (ws' := [(h0, .inr (7, [.ref o_bytes, .ref o_table, .int o_length, .int o_pages, .int o_link]))]) [0] (by decide) rfl
  have hK9 := hK.sub (tys' := []) [] rfl
  exact W.iret (v := o_length + (o_length &&& 1)) hx hb hr (fun t ht hW => ⟨⟨(o_length + (o_length &&& 1)), (), rfl, (show (o_length + (o_length &&& 1) : Int32) = o_length + (o_length &&& 1) from (rfl)), by rw [ht]; exact hP9, va_K.moved hW.alike hK9, hD9⟩, hS.F ht⟩) hS.2.2 d_OutFile_evenLength_11

abbrev at_g_Page_dotDown (dC : Nat → ClassId) (dI : Nat → Nat → Nat) (h0 : Nat) (o_dpi : Int32) (o_size : Int32) (o_orientation : Int32) (o_copies : Int32) (o_top : Int32) (o_length : Int32) (o_left : Int32) (o_right : Int32) (o_stepAcross : Int32) (o_stepDown : Int32) (o_x : Int32) (o_y : Int32) (o_wrap : Int32) (o_skip : Int32) (o_lineEnd : Int32) (o_font : Int32) (o_stack : Nat) (o_stacked : Int32) (o_kept : Nat) (v0 : Int32) (A : Nat → Prop) (u : Unit) (t : State) : Prop := match u with
  | _ => va_P (dC, dI) vcl [(h0, .inr (8, [.int o_dpi, .int o_size, .int o_orientation, .int o_copies, .int o_top, .int o_length, .int o_left, .int o_right, .int o_stepAcross, .int o_stepDown, .int o_x, .int o_y, .int o_wrap, .int o_skip, .int o_lineEnd, .int o_font, .ref o_stack, .int o_stacked, .ref o_kept]))] t.heap ∧ va_K (dC, dI) vcl [] t ∧ va_D A [(h0, .inr (8, [.int o_dpi, .int o_size, .int o_orientation, .int o_copies, .int o_top, .int o_length, .int o_left, .int o_right, .int o_stepAcross, .int o_stepDown, .int o_x, .int o_y, .int o_wrap, .int o_skip, .int o_lineEnd, .int o_font, .ref o_stack, .int o_stacked, .ref o_kept]))]
abbrev po_g_Page_dotDown (h0 : Nat) (o_dpi : Int32) (o_size : Int32) (o_orientation : Int32) (o_copies : Int32) (o_top : Int32) (o_length : Int32) (o_left : Int32) (o_right : Int32) (o_stepAcross : Int32) (o_stepDown : Int32) (o_x : Int32) (o_y : Int32) (o_wrap : Int32) (o_skip : Int32) (o_lineEnd : Int32) (o_font : Int32) (o_stack : Nat) (o_stacked : Int32) (o_kept : Nat) (v0 : Int32) (r : Int32) (u : Unit) : Prop := match u with
  | _ => r = (v0 * o_dpi) / 7200
abbrev q_g_Page_dotDown (dC : Nat → ClassId) (dI : Nat → Nat → Nat) (h0 : Nat) (o_dpi : Int32) (o_size : Int32) (o_orientation : Int32) (o_copies : Int32) (o_top : Int32) (o_length : Int32) (o_left : Int32) (o_right : Int32) (o_stepAcross : Int32) (o_stepDown : Int32) (o_x : Int32) (o_y : Int32) (o_wrap : Int32) (o_skip : Int32) (o_lineEnd : Int32) (o_font : Int32) (o_stack : Nat) (o_stacked : Int32) (o_kept : Nat) (v0 : Int32) (A : Nat → Prop) : Array Value → State → Outcome → State → Prop := va_Qi (po_g_Page_dotDown h0 o_dpi o_size o_orientation o_copies o_top o_length o_left o_right o_stepAcross o_stepDown o_x o_y o_wrap o_skip o_lineEnd o_font o_stack o_stacked o_kept v0) (at_g_Page_dotDown dC dI h0 o_dpi o_size o_orientation o_copies o_top o_length o_left o_right o_stepAcross o_stepDown o_x o_y o_wrap o_skip o_lineEnd o_font o_stack o_stacked o_kept v0 A) A
abbrev rm_g_Page_dotDown : Room := { frames := 0, cells := 0, slots := 0, locals := 0 }
set_option maxHeartbeats 4000000 in
set_option maxRecDepth 100000 in
theorem g_Page_dotDown (l : Launch) (dC : Nat → ClassId) (dI : Nat → Nat → Nat) (tt : Nat → Nat) (h0 : Nat) (o_dpi : Int32) (o_size : Int32) (o_orientation : Int32) (o_copies : Int32) (o_top : Int32) (o_length : Int32) (o_left : Int32) (o_right : Int32) (o_stepAcross : Int32) (o_stepDown : Int32) (o_x : Int32) (o_y : Int32) (o_wrap : Int32) (o_skip : Int32) (o_lineEnd : Int32) (o_font : Int32) (o_stack : Nat) (o_stacked : Int32) (o_kept : Nat) (v0 : Int32) (sz : Nat)  : Met l y_Page_dotDown w_Page_dotDown rm_g_Page_dotDown (va_Pc [.ref h0, .int v0] (fun U => U.heap.size = sz ∧ va_P (dC, dI) vcl [(h0, .inr (8, [.int o_dpi, .int o_size, .int o_orientation, .int o_copies, .int o_top, .int o_length, .int o_left, .int o_right, .int o_stepAcross, .int o_stepDown, .int o_x, .int o_y, .int o_wrap, .int o_skip, .int o_lineEnd, .int o_font, .ref o_stack, .int o_stacked, .ref o_kept]))] U.heap ∧ va_K (dC, dI) vcl [] U ∧ va_D (fun _ => True) [(h0, .inr (8, [.int o_dpi, .int o_size, .int o_orientation, .int o_copies, .int o_top, .int o_length, .int o_left, .int o_right, .int o_stepAcross, .int o_stepDown, .int o_x, .int o_y, .int o_wrap, .int o_skip, .int o_lineEnd, .int o_font, .ref o_stack, .int o_stacked, .ref o_kept]))] ∧ SF tt (va_A [(h0, .inr (8, [.int o_dpi, .int o_size, .int o_orientation, .int o_copies, .int o_top, .int o_length, .int o_left, .int o_right, .int o_stepAcross, .int o_stepDown, .int o_x, .int o_y, .int o_wrap, .int o_skip, .int o_lineEnd, .int o_font, .ref o_stack, .int o_stacked, .ref o_kept]))] sz) U U.heap)) (q_g_Page_dotDown dC dI h0 o_dpi o_size o_orientation o_copies o_top o_length o_left o_right o_stepAcross o_stepDown o_x o_y o_wrap o_skip o_lineEnd o_font o_stack o_stacked o_kept v0 (va_A [(h0, .inr (8, [.int o_dpi, .int o_size, .int o_orientation, .int o_copies, .int o_top, .int o_length, .int o_left, .int o_right, .int o_stepAcross, .int o_stepDown, .int o_x, .int o_y, .int o_wrap, .int o_skip, .int o_lineEnd, .int o_font, .ref o_stack, .int o_stacked, .ref o_kept]))] sz)) 0 0 (va_A [(h0, .inr (8, [.int o_dpi, .int o_size, .int o_orientation, .int o_copies, .int o_top, .int o_length, .int o_left, .int o_right, .int o_stepAcross, .int o_stepDown, .int o_x, .int o_y, .int o_wrap, .int o_skip, .int o_lineEnd, .int o_font, .ref o_stack, .int o_stacked, .ref o_kept]))] sz) := by
  refine Met.ofW (cc := b_Page_dotDown) (maxL := 2) (ret := (some .int)) (by decide) rfl ?_
  intro p e s m args below meth c s₁ B hml hv
  obtain ⟨rfl, hsz, hP, hK, hD0, hF⟩ := hv
  have hx := B.exec
  have hb := B.bytes
  have hr := B.returns
  have hwd : ∀ w ∈ gT, w.before _ s = true := fun w h => atoms_spec (ws := w_Page_dotDown) B.pre w (List.mem_cons_of_mem _ h)
  have hown : s.vm.findClass R_Page = some m.cls := findClass_of_methodNamed B.named
  have hlocks := B.notSynchronized
  subst hsz
  have hD := hD0.self (sz := s.heap.size)
  generalize hAe : va_A [(h0, .inr (8, [.int o_dpi, .int o_size, .int o_orientation, .int o_copies, .int o_top, .int o_length, .int o_left, .int o_right, .int o_stepAcross, .int o_stepDown, .int o_x, .int o_y, .int o_wrap, .int o_skip, .int o_lineEnd, .int o_font, .ref o_stack, .int o_stacked, .ref o_kept]))] s.heap.size = A at hD hF ⊢
  have hA : ∀ q : Nat, s.heap.size ≤ q → A q := fun q h => by rw [← hAe]; exact Or.inr h
  have hS : va_S A s.heap s.heap [] := va_S.rf
  have hP : va_P (dC, dI) vcl [(h0, .inr (8, [.int o_dpi, .int o_size, .int o_orientation, .int o_copies, .int o_top, .int o_length, .int o_left, .int o_right, .int o_stepAcross, .int o_stepDown, .int o_x, .int o_y, .int o_wrap, .int o_skip, .int o_lineEnd, .int o_font, .ref o_stack, .int o_stacked, .ref o_kept]))] s.heap := hP
  have hl := lv_entry ([.ref h0, .int v0]) (n := 2) (Nat.le_of_ble_eq_true rfl)
  rw [lg_entry_eq]
  generalize (lg_sl ([.ref h0, .int v0]) ++ List.replicate (2 - (lg_sl ([.ref h0, .int v0])).length) Slot.unset).toArray = ls at hl ⊢
  have hl : lv_has ls 2 [(0, .ref h0), (1, .int v0)] := hl
  refine lv_iload_n hx hb d_Page_dotDown_0 rfl (lv_at hl 1 rfl) ?_
  refine lv_aload_n hx hb d_Page_dotDown_1 rfl (lv_at hl 0 rfl) ?_
  refine va_get (D := (dC, dI)) (ci := 8) (v := .int o_dpi) (C := R_Page) (T := F_Page) (N := 19) hx hb hwd i_Page hown hK hP 0 rfl rfl 0 (by decide) (hwd _ wd_1_90) (fun _ h9 => h9) rfl d_Page_dotDown_2 ?_
  refine lv_imul hx hb d_Page_dotDown_5 ?_
  refine lv_sipush (v := 7200) hx hb d_Page_dotDown_6 (by decide) ?_
  refine lv_idiv hx hb d_Page_dotDown_9 (by decide) ?_
  have hP9 := hP.sub (ws' := [(h0, .inr (8, [.int o_dpi, .int o_size, .int o_orientation, .int o_copies, .int o_top, .int o_length, .int o_left, .int o_right, .int o_stepAcross, .int o_stepDown, .int o_x, .int o_y, .int o_wrap, .int o_skip, .int o_lineEnd, .int o_font, .ref o_stack, .int o_stacked, .ref o_kept]))]) [0] rfl
  have hD9 := hD.sub (ws' := [(h0, .inr (8, [.int o_dpi, .int o_size, .int o_orientation, .int o_copies, .int o_top, .int o_length, .int o_left, .int o_right, .int o_stepAcross, .int o_stepDown, .int o_x, .int o_y, .int o_wrap, .int o_skip, .int o_lineEnd, .int o_font, .ref o_stack, .int o_stacked, .ref o_kept]))]) [0] (by decide) rfl
  have hK9 := hK.sub (tys' := []) [] rfl
  exact W.iret (v := (v0 * o_dpi) / 7200) hx hb hr (fun t ht hW => ⟨⟨((v0 * o_dpi) / 7200), (), rfl, (show ((v0 * o_dpi) / 7200 : Int32) = (v0 * o_dpi) / 7200 from (rfl)), by rw [ht]; exact hP9, va_K.moved hW.alike hK9, hD9⟩, hS.F ht⟩) hS.2.2 d_Page_dotDown_10

abbrev at_g_Page_fits (dC : Nat → ClassId) (dI : Nat → Nat → Nat) (h0 : Nat) (o_dpi : Int32) (o_size : Int32) (o_orientation : Int32) (o_copies : Int32) (o_top : Int32) (o_length : Int32) (o_left : Int32) (o_right : Int32) (o_stepAcross : Int32) (o_stepDown : Int32) (o_x : Int32) (o_y : Int32) (o_wrap : Int32) (o_skip : Int32) (o_lineEnd : Int32) (o_font : Int32) (o_stack : Nat) (o_stacked : Int32) (o_kept : Nat) (v0 : Int32) (A : Nat → Prop) (u : Unit) (t : State) : Prop := match u with
  | _ => va_P (dC, dI) vcl [(h0, .inr (8, [.int o_dpi, .int o_size, .int o_orientation, .int o_copies, .int o_top, .int o_length, .int o_left, .int o_right, .int o_stepAcross, .int o_stepDown, .int o_x, .int o_y, .int o_wrap, .int o_skip, .int o_lineEnd, .int o_font, .ref o_stack, .int o_stacked, .ref o_kept]))] t.heap ∧ va_K (dC, dI) vcl [] t ∧ va_D A [(h0, .inr (8, [.int o_dpi, .int o_size, .int o_orientation, .int o_copies, .int o_top, .int o_length, .int o_left, .int o_right, .int o_stepAcross, .int o_stepDown, .int o_x, .int o_y, .int o_wrap, .int o_skip, .int o_lineEnd, .int o_font, .ref o_stack, .int o_stacked, .ref o_kept]))]
abbrev po_g_Page_fits (h0 : Nat) (o_dpi : Int32) (o_size : Int32) (o_orientation : Int32) (o_copies : Int32) (o_top : Int32) (o_length : Int32) (o_left : Int32) (o_right : Int32) (o_stepAcross : Int32) (o_stepDown : Int32) (o_x : Int32) (o_y : Int32) (o_wrap : Int32) (o_skip : Int32) (o_lineEnd : Int32) (o_font : Int32) (o_stack : Nat) (o_stacked : Int32) (o_kept : Nat) (v0 : Int32) (r : Int32) (u : Unit) : Prop := match u with
  | _ => r = if o_right ≤ o_x then 0 else (if o_right < (o_x + v0) then 0 else 1)
abbrev q_g_Page_fits (dC : Nat → ClassId) (dI : Nat → Nat → Nat) (h0 : Nat) (o_dpi : Int32) (o_size : Int32) (o_orientation : Int32) (o_copies : Int32) (o_top : Int32) (o_length : Int32) (o_left : Int32) (o_right : Int32) (o_stepAcross : Int32) (o_stepDown : Int32) (o_x : Int32) (o_y : Int32) (o_wrap : Int32) (o_skip : Int32) (o_lineEnd : Int32) (o_font : Int32) (o_stack : Nat) (o_stacked : Int32) (o_kept : Nat) (v0 : Int32) (A : Nat → Prop) : Array Value → State → Outcome → State → Prop := va_Qi (po_g_Page_fits h0 o_dpi o_size o_orientation o_copies o_top o_length o_left o_right o_stepAcross o_stepDown o_x o_y o_wrap o_skip o_lineEnd o_font o_stack o_stacked o_kept v0) (at_g_Page_fits dC dI h0 o_dpi o_size o_orientation o_copies o_top o_length o_left o_right o_stepAcross o_stepDown o_x o_y o_wrap o_skip o_lineEnd o_font o_stack o_stacked o_kept v0 A) A
abbrev rm_g_Page_fits : Room := { frames := 0, cells := 0, slots := 0, locals := 0 }
set_option maxHeartbeats 4000000 in
set_option maxRecDepth 100000 in
theorem g_Page_fits (l : Launch) (dC : Nat → ClassId) (dI : Nat → Nat → Nat) (tt : Nat → Nat) (h0 : Nat) (o_dpi : Int32) (o_size : Int32) (o_orientation : Int32) (o_copies : Int32) (o_top : Int32) (o_length : Int32) (o_left : Int32) (o_right : Int32) (o_stepAcross : Int32) (o_stepDown : Int32) (o_x : Int32) (o_y : Int32) (o_wrap : Int32) (o_skip : Int32) (o_lineEnd : Int32) (o_font : Int32) (o_stack : Nat) (o_stacked : Int32) (o_kept : Nat) (v0 : Int32) (sz : Nat)  : Met l y_Page_fits w_Page_fits rm_g_Page_fits (va_Pc [.ref h0, .int v0] (fun U => U.heap.size = sz ∧ va_P (dC, dI) vcl [(h0, .inr (8, [.int o_dpi, .int o_size, .int o_orientation, .int o_copies, .int o_top, .int o_length, .int o_left, .int o_right, .int o_stepAcross, .int o_stepDown, .int o_x, .int o_y, .int o_wrap, .int o_skip, .int o_lineEnd, .int o_font, .ref o_stack, .int o_stacked, .ref o_kept]))] U.heap ∧ va_K (dC, dI) vcl [] U ∧ va_D (fun _ => True) [(h0, .inr (8, [.int o_dpi, .int o_size, .int o_orientation, .int o_copies, .int o_top, .int o_length, .int o_left, .int o_right, .int o_stepAcross, .int o_stepDown, .int o_x, .int o_y, .int o_wrap, .int o_skip, .int o_lineEnd, .int o_font, .ref o_stack, .int o_stacked, .ref o_kept]))] ∧ SF tt (va_A [(h0, .inr (8, [.int o_dpi, .int o_size, .int o_orientation, .int o_copies, .int o_top, .int o_length, .int o_left, .int o_right, .int o_stepAcross, .int o_stepDown, .int o_x, .int o_y, .int o_wrap, .int o_skip, .int o_lineEnd, .int o_font, .ref o_stack, .int o_stacked, .ref o_kept]))] sz) U U.heap)) (q_g_Page_fits dC dI h0 o_dpi o_size o_orientation o_copies o_top o_length o_left o_right o_stepAcross o_stepDown o_x o_y o_wrap o_skip o_lineEnd o_font o_stack o_stacked o_kept v0 (va_A [(h0, .inr (8, [.int o_dpi, .int o_size, .int o_orientation, .int o_copies, .int o_top, .int o_length, .int o_left, .int o_right, .int o_stepAcross, .int o_stepDown, .int o_x, .int o_y, .int o_wrap, .int o_skip, .int o_lineEnd, .int o_font, .ref o_stack, .int o_stacked, .ref o_kept]))] sz)) 0 0 (va_A [(h0, .inr (8, [.int o_dpi, .int o_size, .int o_orientation, .int o_copies, .int o_top, .int o_length, .int o_left, .int o_right, .int o_stepAcross, .int o_stepDown, .int o_x, .int o_y, .int o_wrap, .int o_skip, .int o_lineEnd, .int o_font, .ref o_stack, .int o_stacked, .ref o_kept]))] sz) := by
  refine Met.ofW (cc := b_Page_fits) (maxL := 2) (ret := (some .boolean)) (by decide) rfl ?_
  intro p e s m args below meth c s₁ B hml hv
  obtain ⟨rfl, hsz, hP, hK, hD0, hF⟩ := hv
  have hx := B.exec
  have hb := B.bytes
  have hr := B.returns
  have hwd : ∀ w ∈ gT, w.before _ s = true := fun w h => atoms_spec (ws := w_Page_fits) B.pre w (List.mem_cons_of_mem _ h)
  have hown : s.vm.findClass R_Page = some m.cls := findClass_of_methodNamed B.named
  have hlocks := B.notSynchronized
  subst hsz
  have hD := hD0.self (sz := s.heap.size)
  generalize hAe : va_A [(h0, .inr (8, [.int o_dpi, .int o_size, .int o_orientation, .int o_copies, .int o_top, .int o_length, .int o_left, .int o_right, .int o_stepAcross, .int o_stepDown, .int o_x, .int o_y, .int o_wrap, .int o_skip, .int o_lineEnd, .int o_font, .ref o_stack, .int o_stacked, .ref o_kept]))] s.heap.size = A at hD hF ⊢
  have hA : ∀ q : Nat, s.heap.size ≤ q → A q := fun q h => by rw [← hAe]; exact Or.inr h
  have hS : va_S A s.heap s.heap [] := va_S.rf
  have hP : va_P (dC, dI) vcl [(h0, .inr (8, [.int o_dpi, .int o_size, .int o_orientation, .int o_copies, .int o_top, .int o_length, .int o_left, .int o_right, .int o_stepAcross, .int o_stepDown, .int o_x, .int o_y, .int o_wrap, .int o_skip, .int o_lineEnd, .int o_font, .ref o_stack, .int o_stacked, .ref o_kept]))] s.heap := hP
  have hl := lv_entry ([.ref h0, .int v0]) (n := 2) (Nat.le_of_ble_eq_true rfl)
  rw [lg_entry_eq]
  generalize (lg_sl ([.ref h0, .int v0]) ++ List.replicate (2 - (lg_sl ([.ref h0, .int v0])).length) Slot.unset).toArray = ls at hl ⊢
  have hl : lv_has ls 2 [(0, .ref h0), (1, .int v0)] := hl
  refine lv_aload_n hx hb d_Page_fits_0 rfl (lv_at hl 0 rfl) ?_
  refine va_get (D := (dC, dI)) (ci := 8) (v := .int o_x) (C := R_Page) (T := F_Page) (N := 19) hx hb hwd i_Page hown hK hP 0 rfl rfl 10 (by decide) (hwd _ wd_1_110) (fun _ h9 => h9) rfl d_Page_fits_1 ?_
  refine lv_aload_n hx hb d_Page_fits_4 rfl (lv_at hl 0 rfl) ?_
  refine va_get (D := (dC, dI)) (ci := 8) (v := .int o_right) (C := R_Page) (T := F_Page) (N := 19) hx hb hwd i_Page hown hK hP 0 rfl rfl 7 (by decide) (hwd _ wd_1_102) (fun _ h9 => h9) rfl d_Page_fits_5 ?_
  refine lv_icmp_ge (tgt := 28) hx hb d_Page_fits_8 (by decide) (fun c8 => ?_) (fun c8 => ?_)
  · refine lv_iconst (v := 0) hx hb d_Page_fits_28 (by decide) ?_
    have hP9 := hP.sub (ws' := [(h0, .inr (8, [.int o_dpi, .int o_size, .int o_orientation, .int o_copies, .int o_top, .int o_length, .int o_left, .int o_right, .int o_stepAcross, .int o_stepDown, .int o_x, .int o_y, .int o_wrap, .int o_skip, .int o_lineEnd, .int o_font, .ref o_stack, .int o_stacked, .ref o_kept]))]) [0] rfl
    have hD9 := hD.sub (ws' := [(h0, .inr (8, [.int o_dpi, .int o_size, .int o_orientation, .int o_copies, .int o_top, .int o_length, .int o_left, .int o_right, .int o_stepAcross, .int o_stepDown, .int o_x, .int o_y, .int o_wrap, .int o_skip, .int o_lineEnd, .int o_font, .ref o_stack, .int o_stacked, .ref o_kept]))]) [0] (by decide) rfl
    have hK9 := hK.sub (tys' := []) [] rfl
    exact W.zret (v := 0) hx hb hr (by decide) (fun t ht hW => ⟨⟨0, (), rfl, (show (0 : Int32) = if o_right ≤ o_x then 0 else (if o_right < (o_x + v0) then 0 else 1) from (by rw [if_pos c8])), by rw [ht]; exact hP9, va_K.moved hW.alike hK9, hD9⟩, hS.F ht⟩) hS.2.2 d_Page_fits_29
  · refine lv_aload_n hx hb d_Page_fits_11 rfl (lv_at hl 0 rfl) ?_
    refine va_get (D := (dC, dI)) (ci := 8) (v := .int o_x) (C := R_Page) (T := F_Page) (N := 19) hx hb hwd i_Page hown hK hP 0 rfl rfl 10 (by decide) (hwd _ wd_1_110) (fun _ h9 => h9) rfl d_Page_fits_12 ?_
    refine lv_iload_n hx hb d_Page_fits_15 rfl (lv_at hl 1 rfl) ?_
    refine lv_iadd hx hb d_Page_fits_16 ?_
    refine lv_aload_n hx hb d_Page_fits_17 rfl (lv_at hl 0 rfl) ?_
    refine va_get (D := (dC, dI)) (ci := 8) (v := .int o_right) (C := R_Page) (T := F_Page) (N := 19) hx hb hwd i_Page hown hK hP 0 rfl rfl 7 (by decide) (hwd _ wd_1_102) (fun _ h9 => h9) rfl d_Page_fits_18 ?_
    refine lv_icmp_gt (tgt := 28) hx hb d_Page_fits_21 (by decide) (fun c21 => ?_) (fun c21 => ?_)
    · refine lv_iconst (v := 0) hx hb d_Page_fits_28 (by decide) ?_
      have hP9 := hP.sub (ws' := [(h0, .inr (8, [.int o_dpi, .int o_size, .int o_orientation, .int o_copies, .int o_top, .int o_length, .int o_left, .int o_right, .int o_stepAcross, .int o_stepDown, .int o_x, .int o_y, .int o_wrap, .int o_skip, .int o_lineEnd, .int o_font, .ref o_stack, .int o_stacked, .ref o_kept]))]) [0] rfl
      have hD9 := hD.sub (ws' := [(h0, .inr (8, [.int o_dpi, .int o_size, .int o_orientation, .int o_copies, .int o_top, .int o_length, .int o_left, .int o_right, .int o_stepAcross, .int o_stepDown, .int o_x, .int o_y, .int o_wrap, .int o_skip, .int o_lineEnd, .int o_font, .ref o_stack, .int o_stacked, .ref o_kept]))]) [0] (by decide) rfl
      have hK9 := hK.sub (tys' := []) [] rfl
      exact W.zret (v := 0) hx hb hr (by decide) (fun t ht hW => ⟨⟨0, (), rfl, (show (0 : Int32) = if o_right ≤ o_x then 0 else (if o_right < (o_x + v0) then 0 else 1) from (by rw [if_neg c8, if_pos c21])), by rw [ht]; exact hP9, va_K.moved hW.alike hK9, hD9⟩, hS.F ht⟩) hS.2.2 d_Page_fits_29
    · refine lv_iconst (v := 1) hx hb d_Page_fits_24 (by decide) ?_
      refine lv_goto (tgt := 29) hx hb d_Page_fits_25 (by decide) ?_
      have hP9 := hP.sub (ws' := [(h0, .inr (8, [.int o_dpi, .int o_size, .int o_orientation, .int o_copies, .int o_top, .int o_length, .int o_left, .int o_right, .int o_stepAcross, .int o_stepDown, .int o_x, .int o_y, .int o_wrap, .int o_skip, .int o_lineEnd, .int o_font, .ref o_stack, .int o_stacked, .ref o_kept]))]) [0] rfl
      have hD9 := hD.sub (ws' := [(h0, .inr (8, [.int o_dpi, .int o_size, .int o_orientation, .int o_copies, .int o_top, .int o_length, .int o_left, .int o_right, .int o_stepAcross, .int o_stepDown, .int o_x, .int o_y, .int o_wrap, .int o_skip, .int o_lineEnd, .int o_font, .ref o_stack, .int o_stacked, .ref o_kept]))]) [0] (by decide) rfl
      have hK9 := hK.sub (tys' := []) [] rfl
      exact W.zret (v := 1) hx hb hr (by decide) (fun t ht hW => ⟨⟨1, (), rfl, (show (1 : Int32) = if o_right ≤ o_x then 0 else (if o_right < (o_x + v0) then 0 else 1) from (by rw [if_neg c8, if_neg c21])), by rw [ht]; exact hP9, va_K.moved hW.alike hK9, hD9⟩, hS.F ht⟩) hS.2.2 d_Page_fits_29

abbrev at_g_Parser_takePlain (dC : Nat → ClassId) (dI : Nat → Nat → Nat) (h0 : Nat) (o_mode : Int32) (o_taken : Int32) (o_family : Int32) (o_group : Int32) (o_end : Int32) (o_last : Int32) (o_phase : Int32) (o_sign : Int32) (o_whole : Int32) (o_fraction : Int32) (o_digitWorth : Int32) (o_value : Int32) (o_signed : Int32) (o_dataLeft : Int32) (o_data : Nat) (o_dataCount : Int32) (v0 : Int32) (A : Nat → Prop) (u : Int32) (t : State) : Prop := match u with
  | z0 => va_P (dC, dI) vcl [(h0, .inr (9, [.int z0, .int o_taken, .int o_family, .int o_group, .int o_end, .int o_last, .int o_phase, .int o_sign, .int o_whole, .int o_fraction, .int o_digitWorth, .int o_value, .int o_signed, .int o_dataLeft, .ref o_data, .int o_dataCount]))] t.heap ∧ va_K (dC, dI) vcl [] t ∧ va_D A [(h0, .inr (9, [.int z0, .int o_taken, .int o_family, .int o_group, .int o_end, .int o_last, .int o_phase, .int o_sign, .int o_whole, .int o_fraction, .int o_digitWorth, .int o_value, .int o_signed, .int o_dataLeft, .ref o_data, .int o_dataCount]))]
abbrev po_g_Parser_takePlain (h0 : Nat) (o_mode : Int32) (o_taken : Int32) (o_family : Int32) (o_group : Int32) (o_end : Int32) (o_last : Int32) (o_phase : Int32) (o_sign : Int32) (o_whole : Int32) (o_fraction : Int32) (o_digitWorth : Int32) (o_value : Int32) (o_signed : Int32) (o_dataLeft : Int32) (o_data : Nat) (o_dataCount : Int32) (v0 : Int32) (r : Int32) (u : Int32) : Prop := match u with
  | z0 => (z0 = if v0 = (27 : Int32) then 1 else o_mode) ∧ (r = if v0 = (27 : Int32) then 0 else (if v0 < (32 : Int32) then 2 else 1))
abbrev q_g_Parser_takePlain (dC : Nat → ClassId) (dI : Nat → Nat → Nat) (h0 : Nat) (o_mode : Int32) (o_taken : Int32) (o_family : Int32) (o_group : Int32) (o_end : Int32) (o_last : Int32) (o_phase : Int32) (o_sign : Int32) (o_whole : Int32) (o_fraction : Int32) (o_digitWorth : Int32) (o_value : Int32) (o_signed : Int32) (o_dataLeft : Int32) (o_data : Nat) (o_dataCount : Int32) (v0 : Int32) (A : Nat → Prop) : Array Value → State → Outcome → State → Prop := va_Qi (po_g_Parser_takePlain h0 o_mode o_taken o_family o_group o_end o_last o_phase o_sign o_whole o_fraction o_digitWorth o_value o_signed o_dataLeft o_data o_dataCount v0) (at_g_Parser_takePlain dC dI h0 o_mode o_taken o_family o_group o_end o_last o_phase o_sign o_whole o_fraction o_digitWorth o_value o_signed o_dataLeft o_data o_dataCount v0 A) A
abbrev rm_g_Parser_takePlain : Room := { frames := 0, cells := 0, slots := 0, locals := 0 }
set_option maxHeartbeats 4000000 in
set_option maxRecDepth 100000 in
theorem g_Parser_takePlain (l : Launch) (dC : Nat → ClassId) (dI : Nat → Nat → Nat) (tt : Nat → Nat) (h0 : Nat) (o_mode : Int32) (o_taken : Int32) (o_family : Int32) (o_group : Int32) (o_end : Int32) (o_last : Int32) (o_phase : Int32) (o_sign : Int32) (o_whole : Int32) (o_fraction : Int32) (o_digitWorth : Int32) (o_value : Int32) (o_signed : Int32) (o_dataLeft : Int32) (o_data : Nat) (o_dataCount : Int32) (v0 : Int32) (sz : Nat)  : Met l y_Parser_takePlain w_Parser_takePlain rm_g_Parser_takePlain (va_Pc [.ref h0, .int v0] (fun U => U.heap.size = sz ∧ va_P (dC, dI) vcl [(h0, .inr (9, [.int o_mode, .int o_taken, .int o_family, .int o_group, .int o_end, .int o_last, .int o_phase, .int o_sign, .int o_whole, .int o_fraction, .int o_digitWorth, .int o_value, .int o_signed, .int o_dataLeft, .ref o_data, .int o_dataCount]))] U.heap ∧ va_K (dC, dI) vcl [] U ∧ va_D (fun _ => True) [(h0, .inr (9, [.int o_mode, .int o_taken, .int o_family, .int o_group, .int o_end, .int o_last, .int o_phase, .int o_sign, .int o_whole, .int o_fraction, .int o_digitWorth, .int o_value, .int o_signed, .int o_dataLeft, .ref o_data, .int o_dataCount]))] ∧ SF tt (va_A [(h0, .inr (9, [.int o_mode, .int o_taken, .int o_family, .int o_group, .int o_end, .int o_last, .int o_phase, .int o_sign, .int o_whole, .int o_fraction, .int o_digitWorth, .int o_value, .int o_signed, .int o_dataLeft, .ref o_data, .int o_dataCount]))] sz) U U.heap)) (q_g_Parser_takePlain dC dI h0 o_mode o_taken o_family o_group o_end o_last o_phase o_sign o_whole o_fraction o_digitWorth o_value o_signed o_dataLeft o_data o_dataCount v0 (va_A [(h0, .inr (9, [.int o_mode, .int o_taken, .int o_family, .int o_group, .int o_end, .int o_last, .int o_phase, .int o_sign, .int o_whole, .int o_fraction, .int o_digitWorth, .int o_value, .int o_signed, .int o_dataLeft, .ref o_data, .int o_dataCount]))] sz)) 0 0 (va_A [(h0, .inr (9, [.int o_mode, .int o_taken, .int o_family, .int o_group, .int o_end, .int o_last, .int o_phase, .int o_sign, .int o_whole, .int o_fraction, .int o_digitWorth, .int o_value, .int o_signed, .int o_dataLeft, .ref o_data, .int o_dataCount]))] sz) := by
  refine Met.ofW (cc := b_Parser_takePlain) (maxL := 2) (ret := (some .int)) (by decide) rfl ?_
  intro p e s m args below meth c s₁ B hml hv
  obtain ⟨rfl, hsz, hP, hK, hD0, hF⟩ := hv
  have hx := B.exec
  have hb := B.bytes
  have hr := B.returns
  have hwd : ∀ w ∈ gT, w.before _ s = true := fun w h => atoms_spec (ws := w_Parser_takePlain) B.pre w (List.mem_cons_of_mem _ h)
  have hown : s.vm.findClass R_Parser = some m.cls := findClass_of_methodNamed B.named
  have hlocks := B.notSynchronized
  subst hsz
  have hD := hD0.self (sz := s.heap.size)
  generalize hAe : va_A [(h0, .inr (9, [.int o_mode, .int o_taken, .int o_family, .int o_group, .int o_end, .int o_last, .int o_phase, .int o_sign, .int o_whole, .int o_fraction, .int o_digitWorth, .int o_value, .int o_signed, .int o_dataLeft, .ref o_data, .int o_dataCount]))] s.heap.size = A at hD hF ⊢
  have hA : ∀ q : Nat, s.heap.size ≤ q → A q := fun q h => by rw [← hAe]; exact Or.inr h
  have hS : va_S A s.heap s.heap [] := va_S.rf
  have hP : va_P (dC, dI) vcl [(h0, .inr (9, [.int o_mode, .int o_taken, .int o_family, .int o_group, .int o_end, .int o_last, .int o_phase, .int o_sign, .int o_whole, .int o_fraction, .int o_digitWorth, .int o_value, .int o_signed, .int o_dataLeft, .ref o_data, .int o_dataCount]))] s.heap := hP
  have hl := lv_entry ([.ref h0, .int v0]) (n := 2) (Nat.le_of_ble_eq_true rfl)
  rw [lg_entry_eq]
  generalize (lg_sl ([.ref h0, .int v0]) ++ List.replicate (2 - (lg_sl ([.ref h0, .int v0])).length) Slot.unset).toArray = ls at hl ⊢
  have hl : lv_has ls 2 [(0, .ref h0), (1, .int v0)] := hl
  refine lv_iload_n hx hb d_Parser_takePlain_0 rfl (lv_at hl 1 rfl) ?_
  refine lv_bipush (v := 27) hx hb d_Parser_takePlain_1 (by decide) ?_
  refine lv_icmp_ne (tgt := 13) hx hb d_Parser_takePlain_3 (by decide) (fun c3 => ?_) (fun c3 => ?_)
  · refine lv_iload_n hx hb d_Parser_takePlain_13 rfl (lv_at hl 1 rfl) ?_
    refine lv_bipush (v := 32) hx hb d_Parser_takePlain_14 (by decide) ?_
    refine lv_icmp_lt (tgt := 23) hx hb d_Parser_takePlain_16 (by decide) (fun c16 => ?_) (fun c16 => ?_)
    · refine lv_iconst (v := 2) hx hb d_Parser_takePlain_23 (by decide) ?_
      have hP9 := hP.sub (ws' := [(h0, .inr (9, [.int o_mode, .int o_taken, .int o_family, .int o_group, .int o_end, .int o_last, .int o_phase, .int o_sign, .int o_whole, .int o_fraction, .int o_digitWorth, .int o_value, .int o_signed, .int o_dataLeft, .ref o_data, .int o_dataCount]))]) [0] rfl
      have hD9 := hD.sub (ws' := [(h0, .inr (9, [.int o_mode, .int o_taken, .int o_family, .int o_group, .int o_end, .int o_last, .int o_phase, .int o_sign, .int o_whole, .int o_fraction, .int o_digitWorth, .int o_value, .int o_signed, .int o_dataLeft, .ref o_data, .int o_dataCount]))]) [0] (by decide) rfl
      have hK9 := hK.sub (tys' := []) [] rfl
      exact W.iret (v := 2) hx hb hr (fun t ht hW => ⟨⟨2, (o_mode), rfl, (show ((o_mode : Int32) = if v0 = (27 : Int32) then 1 else o_mode) ∧ ((2 : Int32) = if v0 = (27 : Int32) then 0 else (if v0 < (32 : Int32) then 2 else 1)) from (⟨by rw [if_neg c3], by rw [if_neg c3, if_pos c16]⟩)), by rw [ht]; exact hP9, va_K.moved hW.alike hK9, hD9⟩, hS.F ht⟩) hS.2.2 d_Parser_takePlain_24
    · refine lv_iconst (v := 1) hx hb d_Parser_takePlain_19 (by decide) ?_
      refine lv_goto (tgt := 24) hx hb d_Parser_takePlain_20 (by decide) ?_
      have hP9 := hP.sub (ws' := [(h0, .inr (9, [.int o_mode, .int o_taken, .int o_family, .int o_group, .int o_end, .int o_last, .int o_phase, .int o_sign, .int o_whole, .int o_fraction, .int o_digitWorth, .int o_value, .int o_signed, .int o_dataLeft, .ref o_data, .int o_dataCount]))]) [0] rfl
      have hD9 := hD.sub (ws' := [(h0, .inr (9, [.int o_mode, .int o_taken, .int o_family, .int o_group, .int o_end, .int o_last, .int o_phase, .int o_sign, .int o_whole, .int o_fraction, .int o_digitWorth, .int o_value, .int o_signed, .int o_dataLeft, .ref o_data, .int o_dataCount]))]) [0] (by decide) rfl
      have hK9 := hK.sub (tys' := []) [] rfl
      exact W.iret (v := 1) hx hb hr (fun t ht hW => ⟨⟨1, (o_mode), rfl, (show ((o_mode : Int32) = if v0 = (27 : Int32) then 1 else o_mode) ∧ ((1 : Int32) = if v0 = (27 : Int32) then 0 else (if v0 < (32 : Int32) then 2 else 1)) from (⟨by rw [if_neg c3], by rw [if_neg c3, if_neg c16]⟩)), by rw [ht]; exact hP9, va_K.moved hW.alike hK9, hD9⟩, hS.F ht⟩) hS.2.2 d_Parser_takePlain_24
  · refine lv_aload_n hx hb d_Parser_takePlain_6 rfl (lv_at hl 0 rfl) ?_
    refine lv_iconst (v := 1) hx hb d_Parser_takePlain_7 (by decide) ?_
    refine va_put (D := (dC, dI)) (ci := 9) (v := .int 1) (ty := .int) (C := R_Parser) (T := F_Parser) (N := 16) hx hb hwd i_Parser t_Parser to_Parser no_Parser hown hK hP hD hS 0 rfl rfl 0 (by decide) (hwd _ wd_3_53) (fun _ h9 => h9) rfl (by decide +kernel) rfl rfl (Nat.le_of_ble_eq_true rfl) d_Parser_takePlain_8 ?_
    clear hP hD hS
    intro H locs hP hD hS
    replace hP : va_P (dC, dI) vcl [(h0, .inr (9, [.int 1, .int o_taken, .int o_family, .int o_group, .int o_end, .int o_last, .int o_phase, .int o_sign, .int o_whole, .int o_fraction, .int o_digitWorth, .int o_value, .int o_signed, .int o_dataLeft, .ref o_data, .int o_dataCount]))] H := hP
    replace hD : va_D A [(h0, .inr (9, [.int 1, .int o_taken, .int o_family, .int o_group, .int o_end, .int o_last, .int o_phase, .int o_sign, .int o_whole, .int o_fraction, .int o_digitWorth, .int o_value, .int o_signed, .int o_dataLeft, .ref o_data, .int o_dataCount]))] := hD
    refine lv_iconst (v := 0) hx hb d_Parser_takePlain_11 (by decide) ?_
    have hP9 := hP.sub (ws' := [(h0, .inr (9, [.int 1, .int o_taken, .int o_family, .int o_group, .int o_end, .int o_last, .int o_phase, .int o_sign, .int o_whole, .int o_fraction, .int o_digitWorth, .int o_value, .int o_signed, .int o_dataLeft, .ref o_data, .int o_dataCount]))]) [0] rfl
    have hD9 := hD.sub (ws' := [(h0, .inr (9, [.int 1, .int o_taken, .int o_family, .int o_group, .int o_end, .int o_last, .int o_phase, .int o_sign, .int o_whole, .int o_fraction, .int o_digitWorth, .int o_value, .int o_signed, .int o_dataLeft, .ref o_data, .int o_dataCount]))]) [0] (by decide) rfl
    have hK9 := hK.sub (tys' := []) [] rfl
    exact W.iret (v := 0) hx hb hr (fun t ht hW => ⟨⟨0, (1), rfl, (show ((1 : Int32) = if v0 = (27 : Int32) then 1 else o_mode) ∧ ((0 : Int32) = if v0 = (27 : Int32) then 0 else (if v0 < (32 : Int32) then 2 else 1)) from (⟨by rw [if_pos c3], by rw [if_pos c3]⟩)), by rw [ht]; exact hP9, va_K.moved hW.alike hK9, hD9⟩, hS.F ht⟩) hS.2.2 d_Parser_takePlain_12

abbrev at_g_Parser_takeEscaped (dC : Nat → ClassId) (dI : Nat → Nat → Nat) (h0 : Nat) (o_mode : Int32) (o_taken : Int32) (o_family : Int32) (o_group : Int32) (o_end : Int32) (o_last : Int32) (o_phase : Int32) (o_sign : Int32) (o_whole : Int32) (o_fraction : Int32) (o_digitWorth : Int32) (o_value : Int32) (o_signed : Int32) (o_dataLeft : Int32) (o_data : Nat) (o_dataCount : Int32) (v0 : Int32) (A : Nat → Prop) (u : Int32 × Int32) (t : State) : Prop := match u with
  | (z0, z1) => va_P (dC, dI) vcl [(h0, .inr (9, [.int z0, .int o_taken, .int z1, .int o_group, .int o_end, .int o_last, .int o_phase, .int o_sign, .int o_whole, .int o_fraction, .int o_digitWorth, .int o_value, .int o_signed, .int o_dataLeft, .ref o_data, .int o_dataCount]))] t.heap ∧ va_K (dC, dI) vcl [] t ∧ va_D A [(h0, .inr (9, [.int z0, .int o_taken, .int z1, .int o_group, .int o_end, .int o_last, .int o_phase, .int o_sign, .int o_whole, .int o_fraction, .int o_digitWorth, .int o_value, .int o_signed, .int o_dataLeft, .ref o_data, .int o_dataCount]))]
abbrev po_g_Parser_takeEscaped (h0 : Nat) (o_mode : Int32) (o_taken : Int32) (o_family : Int32) (o_group : Int32) (o_end : Int32) (o_last : Int32) (o_phase : Int32) (o_sign : Int32) (o_whole : Int32) (o_fraction : Int32) (o_digitWorth : Int32) (o_value : Int32) (o_signed : Int32) (o_dataLeft : Int32) (o_data : Nat) (o_dataCount : Int32) (v0 : Int32) (r : Int32) (u : Int32 × Int32) : Prop := match u with
  | (z0, z1) => (z0 = if v0 = (27 : Int32) then o_mode else (if v0 < (33 : Int32) then 0 else (if (47 : Int32) < v0 then 0 else 2))) ∧ (z1 = if v0 = (27 : Int32) then o_family else (if v0 < (33 : Int32) then o_family else (if (47 : Int32) < v0 then o_family else v0))) ∧ (r = if v0 = (27 : Int32) then 0 else (if v0 < (48 : Int32) then 0 else (if (126 : Int32) < v0 then 0 else 3)))
abbrev q_g_Parser_takeEscaped (dC : Nat → ClassId) (dI : Nat → Nat → Nat) (h0 : Nat) (o_mode : Int32) (o_taken : Int32) (o_family : Int32) (o_group : Int32) (o_end : Int32) (o_last : Int32) (o_phase : Int32) (o_sign : Int32) (o_whole : Int32) (o_fraction : Int32) (o_digitWorth : Int32) (o_value : Int32) (o_signed : Int32) (o_dataLeft : Int32) (o_data : Nat) (o_dataCount : Int32) (v0 : Int32) (A : Nat → Prop) : Array Value → State → Outcome → State → Prop := va_Qi (po_g_Parser_takeEscaped h0 o_mode o_taken o_family o_group o_end o_last o_phase o_sign o_whole o_fraction o_digitWorth o_value o_signed o_dataLeft o_data o_dataCount v0) (at_g_Parser_takeEscaped dC dI h0 o_mode o_taken o_family o_group o_end o_last o_phase o_sign o_whole o_fraction o_digitWorth o_value o_signed o_dataLeft o_data o_dataCount v0 A) A
abbrev rm_g_Parser_takeEscaped : Room := { frames := 0, cells := 0, slots := 0, locals := 0 }
set_option maxHeartbeats 4000000 in
set_option maxRecDepth 100000 in
theorem g_Parser_takeEscaped (l : Launch) (dC : Nat → ClassId) (dI : Nat → Nat → Nat) (tt : Nat → Nat) (h0 : Nat) (o_mode : Int32) (o_taken : Int32) (o_family : Int32) (o_group : Int32) (o_end : Int32) (o_last : Int32) (o_phase : Int32) (o_sign : Int32) (o_whole : Int32) (o_fraction : Int32) (o_digitWorth : Int32) (o_value : Int32) (o_signed : Int32) (o_dataLeft : Int32) (o_data : Nat) (o_dataCount : Int32) (v0 : Int32) (sz : Nat)  : Met l y_Parser_takeEscaped w_Parser_takeEscaped rm_g_Parser_takeEscaped (va_Pc [.ref h0, .int v0] (fun U => U.heap.size = sz ∧ va_P (dC, dI) vcl [(h0, .inr (9, [.int o_mode, .int o_taken, .int o_family, .int o_group, .int o_end, .int o_last, .int o_phase, .int o_sign, .int o_whole, .int o_fraction, .int o_digitWorth, .int o_value, .int o_signed, .int o_dataLeft, .ref o_data, .int o_dataCount]))] U.heap ∧ va_K (dC, dI) vcl [] U ∧ va_D (fun _ => True) [(h0, .inr (9, [.int o_mode, .int o_taken, .int o_family, .int o_group, .int o_end, .int o_last, .int o_phase, .int o_sign, .int o_whole, .int o_fraction, .int o_digitWorth, .int o_value, .int o_signed, .int o_dataLeft, .ref o_data, .int o_dataCount]))] ∧ SF tt (va_A [(h0, .inr (9, [.int o_mode, .int o_taken, .int o_family, .int o_group, .int o_end, .int o_last, .int o_phase, .int o_sign, .int o_whole, .int o_fraction, .int o_digitWorth, .int o_value, .int o_signed, .int o_dataLeft, .ref o_data, .int o_dataCount]))] sz) U U.heap)) (q_g_Parser_takeEscaped dC dI h0 o_mode o_taken o_family o_group o_end o_last o_phase o_sign o_whole o_fraction o_digitWorth o_value o_signed o_dataLeft o_data o_dataCount v0 (va_A [(h0, .inr (9, [.int o_mode, .int o_taken, .int o_family, .int o_group, .int o_end, .int o_last, .int o_phase, .int o_sign, .int o_whole, .int o_fraction, .int o_digitWorth, .int o_value, .int o_signed, .int o_dataLeft, .ref o_data, .int o_dataCount]))] sz)) 0 0 (va_A [(h0, .inr (9, [.int o_mode, .int o_taken, .int o_family, .int o_group, .int o_end, .int o_last, .int o_phase, .int o_sign, .int o_whole, .int o_fraction, .int o_digitWorth, .int o_value, .int o_signed, .int o_dataLeft, .ref o_data, .int o_dataCount]))] sz) := by
  refine Met.ofW (cc := b_Parser_takeEscaped) (maxL := 2) (ret := (some .int)) (by decide) rfl ?_
  intro p e s m args below meth c s₁ B hml hv
  obtain ⟨rfl, hsz, hP, hK, hD0, hF⟩ := hv
  have hx := B.exec
  have hb := B.bytes
  have hr := B.returns
  have hwd : ∀ w ∈ gT, w.before _ s = true := fun w h => atoms_spec (ws := w_Parser_takeEscaped) B.pre w (List.mem_cons_of_mem _ h)
  have hown : s.vm.findClass R_Parser = some m.cls := findClass_of_methodNamed B.named
  have hlocks := B.notSynchronized
  subst hsz
  have hD := hD0.self (sz := s.heap.size)
  generalize hAe : va_A [(h0, .inr (9, [.int o_mode, .int o_taken, .int o_family, .int o_group, .int o_end, .int o_last, .int o_phase, .int o_sign, .int o_whole, .int o_fraction, .int o_digitWorth, .int o_value, .int o_signed, .int o_dataLeft, .ref o_data, .int o_dataCount]))] s.heap.size = A at hD hF ⊢
  have hA : ∀ q : Nat, s.heap.size ≤ q → A q := fun q h => by rw [← hAe]; exact Or.inr h
  have hS : va_S A s.heap s.heap [] := va_S.rf
  have hP : va_P (dC, dI) vcl [(h0, .inr (9, [.int o_mode, .int o_taken, .int o_family, .int o_group, .int o_end, .int o_last, .int o_phase, .int o_sign, .int o_whole, .int o_fraction, .int o_digitWorth, .int o_value, .int o_signed, .int o_dataLeft, .ref o_data, .int o_dataCount]))] s.heap := hP
  have hl := lv_entry ([.ref h0, .int v0]) (n := 2) (Nat.le_of_ble_eq_true rfl)
  rw [lg_entry_eq]
  generalize (lg_sl ([.ref h0, .int v0]) ++ List.replicate (2 - (lg_sl ([.ref h0, .int v0])).length) Slot.unset).toArray = ls at hl ⊢
  have hl : lv_has ls 2 [(0, .ref h0), (1, .int v0)] := hl
  refine lv_iload_n hx hb d_Parser_takeEscaped_0 rfl (lv_at hl 1 rfl) ?_
  refine lv_bipush (v := 27) hx hb d_Parser_takeEscaped_1 (by decide) ?_
  refine lv_icmp_ne (tgt := 8) hx hb d_Parser_takeEscaped_3 (by decide) (fun c3 => ?_) (fun c3 => ?_)
  · refine lv_aload_n hx hb d_Parser_takeEscaped_8 rfl (lv_at hl 0 rfl) ?_
    refine lv_iconst (v := 0) hx hb d_Parser_takeEscaped_9 (by decide) ?_
    refine va_put (D := (dC, dI)) (ci := 9) (v := .int 0) (ty := .int) (C := R_Parser) (T := F_Parser) (N := 16) hx hb hwd i_Parser t_Parser to_Parser no_Parser hown hK hP hD hS 0 rfl rfl 0 (by decide) (hwd _ wd_3_53) (fun _ h9 => h9) rfl (by decide +kernel) rfl rfl (Nat.le_of_ble_eq_true rfl) d_Parser_takeEscaped_10 ?_
    clear hP hD hS
    intro H locs hP hD hS
    replace hP : va_P (dC, dI) vcl [(h0, .inr (9, [.int 0, .int o_taken, .int o_family, .int o_group, .int o_end, .int o_last, .int o_phase, .int o_sign, .int o_whole, .int o_fraction, .int o_digitWorth, .int o_value, .int o_signed, .int o_dataLeft, .ref o_data, .int o_dataCount]))] H := hP
    replace hD : va_D A [(h0, .inr (9, [.int 0, .int o_taken, .int o_family, .int o_group, .int o_end, .int o_last, .int o_phase, .int o_sign, .int o_whole, .int o_fraction, .int o_digitWorth, .int o_value, .int o_signed, .int o_dataLeft, .ref o_data, .int o_dataCount]))] := hD
    refine lv_iload_n hx hb d_Parser_takeEscaped_13 rfl (lv_at hl 1 rfl) ?_
    refine lv_bipush (v := 33) hx hb d_Parser_takeEscaped_14 (by decide) ?_
    refine lv_icmp_lt (tgt := 35) hx hb d_Parser_takeEscaped_16 (by decide) (fun c16 => ?_) (fun c16 => ?_)
    · refine lv_iload_n hx hb d_Parser_takeEscaped_35 rfl (lv_at hl 1 rfl) ?_
      refine lv_bipush (v := 48) hx hb d_Parser_takeEscaped_36 (by decide) ?_
      refine lv_icmp_lt (tgt := 51) hx hb d_Parser_takeEscaped_38 (by decide) (fun c38 => ?_) (fun c38 => ?_)
      · refine lv_iconst (v := 0) hx hb d_Parser_takeEscaped_51 (by decide) ?_
        have hP9 := hP.sub (ws' := [(h0, .inr (9, [.int 0, .int o_taken, .int o_family, .int o_group, .int o_end, .int o_last, .int o_phase, .int o_sign, .int o_whole, .int o_fraction, .int o_digitWorth, .int o_value, .int o_signed, .int o_dataLeft, .ref o_data, .int o_dataCount]))]) [0] rfl
        have hD9 := hD.sub (ws' := [(h0, .inr (9, [.int 0, .int o_taken, .int o_family, .int o_group, .int o_end, .int o_last, .int o_phase, .int o_sign, .int o_whole, .int o_fraction, .int o_digitWorth, .int o_value, .int o_signed, .int o_dataLeft, .ref o_data, .int o_dataCount]))]) [0] (by decide) rfl
        have hK9 := hK.sub (tys' := []) [] rfl
        exact W.iret (v := 0) hx hb hr (fun t ht hW => ⟨⟨0, (0, o_family), rfl, (show ((0 : Int32) = if v0 = (27 : Int32) then o_mode else (if v0 < (33 : Int32) then 0 else (if (47 : Int32) < v0 then 0 else 2))) ∧ ((o_family : Int32) = if v0 = (27 : Int32) then o_family else (if v0 < (33 : Int32) then o_family else (if (47 : Int32) < v0 then o_family else v0))) ∧ ((0 : Int32) = if v0 = (27 : Int32) then 0 else (if v0 < (48 : Int32) then 0 else (if (126 : Int32) < v0 then 0 else 3))) from (⟨by rw [if_neg c3, if_pos c16], by rw [if_neg c3, if_pos c16], by rw [if_neg c3, if_pos c38]⟩)), by rw [ht]; exact hP9, va_K.moved hW.alike hK9, hD9⟩, hS.F ht⟩) hS.2.2 d_Parser_takeEscaped_52
      · refine lv_iload_n hx hb d_Parser_takeEscaped_41 rfl (lv_at hl 1 rfl) ?_
        refine lv_bipush (v := 126) hx hb d_Parser_takeEscaped_42 (by decide) ?_
        refine lv_icmp_gt (tgt := 51) hx hb d_Parser_takeEscaped_44 (by decide) (fun c44 => ?_) (fun c44 => ?_)
        · refine lv_iconst (v := 0) hx hb d_Parser_takeEscaped_51 (by decide) ?_
          have hP9 := hP.sub (ws' := [(h0, .inr (9, [.int 0, .int o_taken, .int o_family, .int o_group, .int o_end, .int o_last, .int o_phase, .int o_sign, .int o_whole, .int o_fraction, .int o_digitWorth, .int o_value, .int o_signed, .int o_dataLeft, .ref o_data, .int o_dataCount]))]) [0] rfl
          have hD9 := hD.sub (ws' := [(h0, .inr (9, [.int 0, .int o_taken, .int o_family, .int o_group, .int o_end, .int o_last, .int o_phase, .int o_sign, .int o_whole, .int o_fraction, .int o_digitWorth, .int o_value, .int o_signed, .int o_dataLeft, .ref o_data, .int o_dataCount]))]) [0] (by decide) rfl
          have hK9 := hK.sub (tys' := []) [] rfl
          exact W.iret (v := 0) hx hb hr (fun t ht hW => ⟨⟨0, (0, o_family), rfl, (show ((0 : Int32) = if v0 = (27 : Int32) then o_mode else (if v0 < (33 : Int32) then 0 else (if (47 : Int32) < v0 then 0 else 2))) ∧ ((o_family : Int32) = if v0 = (27 : Int32) then o_family else (if v0 < (33 : Int32) then o_family else (if (47 : Int32) < v0 then o_family else v0))) ∧ ((0 : Int32) = if v0 = (27 : Int32) then 0 else (if v0 < (48 : Int32) then 0 else (if (126 : Int32) < v0 then 0 else 3))) from (⟨by rw [if_neg c3, if_pos c16], by rw [if_neg c3, if_pos c16], by rw [if_neg c3, if_neg c38, if_pos c44]⟩)), by rw [ht]; exact hP9, va_K.moved hW.alike hK9, hD9⟩, hS.F ht⟩) hS.2.2 d_Parser_takeEscaped_52
        · refine lv_iconst (v := 3) hx hb d_Parser_takeEscaped_47 (by decide) ?_
          refine lv_goto (tgt := 52) hx hb d_Parser_takeEscaped_48 (by decide) ?_
          have hP9 := hP.sub (ws' := [(h0, .inr (9, [.int 0, .int o_taken, .int o_family, .int o_group, .int o_end, .int o_last, .int o_phase, .int o_sign, .int o_whole, .int o_fraction, .int o_digitWorth, .int o_value, .int o_signed, .int o_dataLeft, .ref o_data, .int o_dataCount]))]) [0] rfl
          have hD9 := hD.sub (ws' := [(h0, .inr (9, [.int 0, .int o_taken, .int o_family, .int o_group, .int o_end, .int o_last, .int o_phase, .int o_sign, .int o_whole, .int o_fraction, .int o_digitWorth, .int o_value, .int o_signed, .int o_dataLeft, .ref o_data, .int o_dataCount]))]) [0] (by decide) rfl
          have hK9 := hK.sub (tys' := []) [] rfl
          exact W.iret (v := 3) hx hb hr (fun t ht hW => ⟨⟨3, (0, o_family), rfl, (show ((0 : Int32) = if v0 = (27 : Int32) then o_mode else (if v0 < (33 : Int32) then 0 else (if (47 : Int32) < v0 then 0 else 2))) ∧ ((o_family : Int32) = if v0 = (27 : Int32) then o_family else (if v0 < (33 : Int32) then o_family else (if (47 : Int32) < v0 then o_family else v0))) ∧ ((3 : Int32) = if v0 = (27 : Int32) then 0 else (if v0 < (48 : Int32) then 0 else (if (126 : Int32) < v0 then 0 else 3))) from (⟨by rw [if_neg c3, if_pos c16], by rw [if_neg c3, if_pos c16], by rw [if_neg c3, if_neg c38, if_neg c44]⟩)), by rw [ht]; exact hP9, va_K.moved hW.alike hK9, hD9⟩, hS.F ht⟩) hS.2.2 d_Parser_takeEscaped_52
    · refine lv_iload_n hx hb d_Parser_takeEscaped_19 rfl (lv_at hl 1 rfl) ?_
      refine lv_bipush (v := 47) hx hb d_Parser_takeEscaped_20 (by decide) ?_
      refine lv_icmp_gt (tgt := 35) hx hb d_Parser_takeEscaped_22 (by decide) (fun c22 => ?_) (fun c22 => ?_)
      · refine lv_iload_n hx hb d_Parser_takeEscaped_35 rfl (lv_at hl 1 rfl) ?_
        refine lv_bipush (v := 48) hx hb d_Parser_takeEscaped_36 (by decide) ?_
        refine lv_icmp_lt (tgt := 51) hx hb d_Parser_takeEscaped_38 (by decide) (fun c38 => ?_) (fun c38 => ?_)
        · refine lv_iconst (v := 0) hx hb d_Parser_takeEscaped_51 (by decide) ?_
          have hP9 := hP.sub (ws' := [(h0, .inr (9, [.int 0, .int o_taken, .int o_family, .int o_group, .int o_end, .int o_last, .int o_phase, .int o_sign, .int o_whole, .int o_fraction, .int o_digitWorth, .int o_value, .int o_signed, .int o_dataLeft, .ref o_data, .int o_dataCount]))]) [0] rfl
          have hD9 := hD.sub (ws' := [(h0, .inr (9, [.int 0, .int o_taken, .int o_family, .int o_group, .int o_end, .int o_last, .int o_phase, .int o_sign, .int o_whole, .int o_fraction, .int o_digitWorth, .int o_value, .int o_signed, .int o_dataLeft, .ref o_data, .int o_dataCount]))]) [0] (by decide) rfl
          have hK9 := hK.sub (tys' := []) [] rfl
          exact W.iret (v := 0) hx hb hr (fun t ht hW => ⟨⟨0, (0, o_family), rfl, (show ((0 : Int32) = if v0 = (27 : Int32) then o_mode else (if v0 < (33 : Int32) then 0 else (if (47 : Int32) < v0 then 0 else 2))) ∧ ((o_family : Int32) = if v0 = (27 : Int32) then o_family else (if v0 < (33 : Int32) then o_family else (if (47 : Int32) < v0 then o_family else v0))) ∧ ((0 : Int32) = if v0 = (27 : Int32) then 0 else (if v0 < (48 : Int32) then 0 else (if (126 : Int32) < v0 then 0 else 3))) from (⟨by rw [if_neg c3, if_neg c16, if_pos c22], by rw [if_neg c3, if_neg c16, if_pos c22], by rw [if_neg c3, if_pos c38]⟩)), by rw [ht]; exact hP9, va_K.moved hW.alike hK9, hD9⟩, hS.F ht⟩) hS.2.2 d_Parser_takeEscaped_52
        · refine lv_iload_n hx hb d_Parser_takeEscaped_41 rfl (lv_at hl 1 rfl) ?_
          refine lv_bipush (v := 126) hx hb d_Parser_takeEscaped_42 (by decide) ?_
          refine lv_icmp_gt (tgt := 51) hx hb d_Parser_takeEscaped_44 (by decide) (fun c44 => ?_) (fun c44 => ?_)
          · refine lv_iconst (v := 0) hx hb d_Parser_takeEscaped_51 (by decide) ?_
            have hP9 := hP.sub (ws' := [(h0, .inr (9, [.int 0, .int o_taken, .int o_family, .int o_group, .int o_end, .int o_last, .int o_phase, .int o_sign, .int o_whole, .int o_fraction, .int o_digitWorth, .int o_value, .int o_signed, .int o_dataLeft, .ref o_data, .int o_dataCount]))]) [0] rfl
            have hD9 := hD.sub (ws' := [(h0, .inr (9, [.int 0, .int o_taken, .int o_family, .int o_group, .int o_end, .int o_last, .int o_phase, .int o_sign, .int o_whole, .int o_fraction, .int o_digitWorth, .int o_value, .int o_signed, .int o_dataLeft, .ref o_data, .int o_dataCount]))]) [0] (by decide) rfl
            have hK9 := hK.sub (tys' := []) [] rfl
            exact W.iret (v := 0) hx hb hr (fun t ht hW => ⟨⟨0, (0, o_family), rfl, (show ((0 : Int32) = if v0 = (27 : Int32) then o_mode else (if v0 < (33 : Int32) then 0 else (if (47 : Int32) < v0 then 0 else 2))) ∧ ((o_family : Int32) = if v0 = (27 : Int32) then o_family else (if v0 < (33 : Int32) then o_family else (if (47 : Int32) < v0 then o_family else v0))) ∧ ((0 : Int32) = if v0 = (27 : Int32) then 0 else (if v0 < (48 : Int32) then 0 else (if (126 : Int32) < v0 then 0 else 3))) from (⟨by rw [if_neg c3, if_neg c16, if_pos c22], by rw [if_neg c3, if_neg c16, if_pos c22], by rw [if_neg c3, if_neg c38, if_pos c44]⟩)), by rw [ht]; exact hP9, va_K.moved hW.alike hK9, hD9⟩, hS.F ht⟩) hS.2.2 d_Parser_takeEscaped_52
          · refine lv_iconst (v := 3) hx hb d_Parser_takeEscaped_47 (by decide) ?_
            refine lv_goto (tgt := 52) hx hb d_Parser_takeEscaped_48 (by decide) ?_
            have hP9 := hP.sub (ws' := [(h0, .inr (9, [.int 0, .int o_taken, .int o_family, .int o_group, .int o_end, .int o_last, .int o_phase, .int o_sign, .int o_whole, .int o_fraction, .int o_digitWorth, .int o_value, .int o_signed, .int o_dataLeft, .ref o_data, .int o_dataCount]))]) [0] rfl
            have hD9 := hD.sub (ws' := [(h0, .inr (9, [.int 0, .int o_taken, .int o_family, .int o_group, .int o_end, .int o_last, .int o_phase, .int o_sign, .int o_whole, .int o_fraction, .int o_digitWorth, .int o_value, .int o_signed, .int o_dataLeft, .ref o_data, .int o_dataCount]))]) [0] (by decide) rfl
            have hK9 := hK.sub (tys' := []) [] rfl
            exact W.iret (v := 3) hx hb hr (fun t ht hW => ⟨⟨3, (0, o_family), rfl, (show ((0 : Int32) = if v0 = (27 : Int32) then o_mode else (if v0 < (33 : Int32) then 0 else (if (47 : Int32) < v0 then 0 else 2))) ∧ ((o_family : Int32) = if v0 = (27 : Int32) then o_family else (if v0 < (33 : Int32) then o_family else (if (47 : Int32) < v0 then o_family else v0))) ∧ ((3 : Int32) = if v0 = (27 : Int32) then 0 else (if v0 < (48 : Int32) then 0 else (if (126 : Int32) < v0 then 0 else 3))) from (⟨by rw [if_neg c3, if_neg c16, if_pos c22], by rw [if_neg c3, if_neg c16, if_pos c22], by rw [if_neg c3, if_neg c38, if_neg c44]⟩)), by rw [ht]; exact hP9, va_K.moved hW.alike hK9, hD9⟩, hS.F ht⟩) hS.2.2 d_Parser_takeEscaped_52
      · refine lv_aload_n hx hb d_Parser_takeEscaped_25 rfl (lv_at hl 0 rfl) ?_
        refine lv_iload_n hx hb d_Parser_takeEscaped_26 rfl (lv_at hl 1 rfl) ?_
        refine va_put (D := (dC, dI)) (ci := 9) (v := .int v0) (ty := .int) (C := R_Parser) (T := F_Parser) (N := 16) hx hb hwd i_Parser t_Parser to_Parser no_Parser hown hK hP hD hS 0 rfl rfl 2 (by decide) (hwd _ wd_3_56) (fun _ h9 => h9) rfl (by decide +kernel) rfl rfl (Nat.le_of_ble_eq_true rfl) d_Parser_takeEscaped_27 ?_
        clear hP hD hS
        intro H locs hP hD hS
        replace hP : va_P (dC, dI) vcl [(h0, .inr (9, [.int 0, .int o_taken, .int v0, .int o_group, .int o_end, .int o_last, .int o_phase, .int o_sign, .int o_whole, .int o_fraction, .int o_digitWorth, .int o_value, .int o_signed, .int o_dataLeft, .ref o_data, .int o_dataCount]))] H := hP
        replace hD : va_D A [(h0, .inr (9, [.int 0, .int o_taken, .int v0, .int o_group, .int o_end, .int o_last, .int o_phase, .int o_sign, .int o_whole, .int o_fraction, .int o_digitWorth, .int o_value, .int o_signed, .int o_dataLeft, .ref o_data, .int o_dataCount]))] := hD
        refine lv_aload_n hx hb d_Parser_takeEscaped_30 rfl (lv_at hl 0 rfl) ?_
        refine lv_iconst (v := 2) hx hb d_Parser_takeEscaped_31 (by decide) ?_
        refine va_put (D := (dC, dI)) (ci := 9) (v := .int 2) (ty := .int) (C := R_Parser) (T := F_Parser) (N := 16) hx hb hwd i_Parser t_Parser to_Parser no_Parser hown hK hP hD hS 0 rfl rfl 0 (by decide) (hwd _ wd_3_53) (fun _ h9 => h9) rfl (by decide +kernel) rfl rfl (Nat.le_of_ble_eq_true rfl) d_Parser_takeEscaped_32 ?_
        clear hP hD hS
        intro H locs hP hD hS
        replace hP : va_P (dC, dI) vcl [(h0, .inr (9, [.int 2, .int o_taken, .int v0, .int o_group, .int o_end, .int o_last, .int o_phase, .int o_sign, .int o_whole, .int o_fraction, .int o_digitWorth, .int o_value, .int o_signed, .int o_dataLeft, .ref o_data, .int o_dataCount]))] H := hP
        replace hD : va_D A [(h0, .inr (9, [.int 2, .int o_taken, .int v0, .int o_group, .int o_end, .int o_last, .int o_phase, .int o_sign, .int o_whole, .int o_fraction, .int o_digitWorth, .int o_value, .int o_signed, .int o_dataLeft, .ref o_data, .int o_dataCount]))] := hD
        refine lv_iload_n hx hb d_Parser_takeEscaped_35 rfl (lv_at hl 1 rfl) ?_
        refine lv_bipush (v := 48) hx hb d_Parser_takeEscaped_36 (by decide) ?_
        refine lv_icmp_lt (tgt := 51) hx hb d_Parser_takeEscaped_38 (by decide) (fun c38 => ?_) (fun c38 => ?_)
        · refine lv_iconst (v := 0) hx hb d_Parser_takeEscaped_51 (by decide) ?_
          have hP9 := hP.sub (ws' := [(h0, .inr (9, [.int 2, .int o_taken, .int v0, .int o_group, .int o_end, .int o_last, .int o_phase, .int o_sign, .int o_whole, .int o_fraction, .int o_digitWorth, .int o_value, .int o_signed, .int o_dataLeft, .ref o_data, .int o_dataCount]))]) [0] rfl
          have hD9 := hD.sub (ws' := [(h0, .inr (9, [.int 2, .int o_taken, .int v0, .int o_group, .int o_end, .int o_last, .int o_phase, .int o_sign, .int o_whole, .int o_fraction, .int o_digitWorth, .int o_value, .int o_signed, .int o_dataLeft, .ref o_data, .int o_dataCount]))]) [0] (by decide) rfl
          have hK9 := hK.sub (tys' := []) [] rfl
          exact W.iret (v := 0) hx hb hr (fun t ht hW => ⟨⟨0, (2, v0), rfl, (show ((2 : Int32) = if v0 = (27 : Int32) then o_mode else (if v0 < (33 : Int32) then 0 else (if (47 : Int32) < v0 then 0 else 2))) ∧ ((v0 : Int32) = if v0 = (27 : Int32) then o_family else (if v0 < (33 : Int32) then o_family else (if (47 : Int32) < v0 then o_family else v0))) ∧ ((0 : Int32) = if v0 = (27 : Int32) then 0 else (if v0 < (48 : Int32) then 0 else (if (126 : Int32) < v0 then 0 else 3))) from (⟨by rw [if_neg c3, if_neg c16, if_neg c22], by rw [if_neg c3, if_neg c16, if_neg c22], by rw [if_neg c3, if_pos c38]⟩)), by rw [ht]; exact hP9, va_K.moved hW.alike hK9, hD9⟩, hS.F ht⟩) hS.2.2 d_Parser_takeEscaped_52
        · refine lv_iload_n hx hb d_Parser_takeEscaped_41 rfl (lv_at hl 1 rfl) ?_
          refine lv_bipush (v := 126) hx hb d_Parser_takeEscaped_42 (by decide) ?_
          refine lv_icmp_gt (tgt := 51) hx hb d_Parser_takeEscaped_44 (by decide) (fun c44 => ?_) (fun c44 => ?_)
          · refine lv_iconst (v := 0) hx hb d_Parser_takeEscaped_51 (by decide) ?_
            have hP9 := hP.sub (ws' := [(h0, .inr (9, [.int 2, .int o_taken, .int v0, .int o_group, .int o_end, .int o_last, .int o_phase, .int o_sign, .int o_whole, .int o_fraction, .int o_digitWorth, .int o_value, .int o_signed, .int o_dataLeft, .ref o_data, .int o_dataCount]))]) [0] rfl
            have hD9 := hD.sub (ws' := [(h0, .inr (9, [.int 2, .int o_taken, .int v0, .int o_group, .int o_end, .int o_last, .int o_phase, .int o_sign, .int o_whole, .int o_fraction, .int o_digitWorth, .int o_value, .int o_signed, .int o_dataLeft, .ref o_data, .int o_dataCount]))]) [0] (by decide) rfl
            have hK9 := hK.sub (tys' := []) [] rfl
            exact W.iret (v := 0) hx hb hr (fun t ht hW => ⟨⟨0, (2, v0), rfl, (show ((2 : Int32) = if v0 = (27 : Int32) then o_mode else (if v0 < (33 : Int32) then 0 else (if (47 : Int32) < v0 then 0 else 2))) ∧ ((v0 : Int32) = if v0 = (27 : Int32) then o_family else (if v0 < (33 : Int32) then o_family else (if (47 : Int32) < v0 then o_family else v0))) ∧ ((0 : Int32) = if v0 = (27 : Int32) then 0 else (if v0 < (48 : Int32) then 0 else (if (126 : Int32) < v0 then 0 else 3))) from (⟨by rw [if_neg c3, if_neg c16, if_neg c22], by rw [if_neg c3, if_neg c16, if_neg c22], by rw [if_neg c3, if_neg c38, if_pos c44]⟩)), by rw [ht]; exact hP9, va_K.moved hW.alike hK9, hD9⟩, hS.F ht⟩) hS.2.2 d_Parser_takeEscaped_52
          · refine lv_iconst (v := 3) hx hb d_Parser_takeEscaped_47 (by decide) ?_
            refine lv_goto (tgt := 52) hx hb d_Parser_takeEscaped_48 (by decide) ?_
            have hP9 := hP.sub (ws' := [(h0, .inr (9, [.int 2, .int o_taken, .int v0, .int o_group, .int o_end, .int o_last, .int o_phase, .int o_sign, .int o_whole, .int o_fraction, .int o_digitWorth, .int o_value, .int o_signed, .int o_dataLeft, .ref o_data, .int o_dataCount]))]) [0] rfl
            have hD9 := hD.sub (ws' := [(h0, .inr (9, [.int 2, .int o_taken, .int v0, .int o_group, .int o_end, .int o_last, .int o_phase, .int o_sign, .int o_whole, .int o_fraction, .int o_digitWorth, .int o_value, .int o_signed, .int o_dataLeft, .ref o_data, .int o_dataCount]))]) [0] (by decide) rfl
            have hK9 := hK.sub (tys' := []) [] rfl
            exact W.iret (v := 3) hx hb hr (fun t ht hW => ⟨⟨3, (2, v0), rfl, (show ((2 : Int32) = if v0 = (27 : Int32) then o_mode else (if v0 < (33 : Int32) then 0 else (if (47 : Int32) < v0 then 0 else 2))) ∧ ((v0 : Int32) = if v0 = (27 : Int32) then o_family else (if v0 < (33 : Int32) then o_family else (if (47 : Int32) < v0 then o_family else v0))) ∧ ((3 : Int32) = if v0 = (27 : Int32) then 0 else (if v0 < (48 : Int32) then 0 else (if (126 : Int32) < v0 then 0 else 3))) from (⟨by rw [if_neg c3, if_neg c16, if_neg c22], by rw [if_neg c3, if_neg c16, if_neg c22], by rw [if_neg c3, if_neg c38, if_neg c44]⟩)), by rw [ht]; exact hP9, va_K.moved hW.alike hK9, hD9⟩, hS.F ht⟩) hS.2.2 d_Parser_takeEscaped_52
  · refine lv_iconst (v := 0) hx hb d_Parser_takeEscaped_6 (by decide) ?_
    have hP9 := hP.sub (ws' := [(h0, .inr (9, [.int o_mode, .int o_taken, .int o_family, .int o_group, .int o_end, .int o_last, .int o_phase, .int o_sign, .int o_whole, .int o_fraction, .int o_digitWorth, .int o_value, .int o_signed, .int o_dataLeft, .ref o_data, .int o_dataCount]))]) [0] rfl
    have hD9 := hD.sub (ws' := [(h0, .inr (9, [.int o_mode, .int o_taken, .int o_family, .int o_group, .int o_end, .int o_last, .int o_phase, .int o_sign, .int o_whole, .int o_fraction, .int o_digitWorth, .int o_value, .int o_signed, .int o_dataLeft, .ref o_data, .int o_dataCount]))]) [0] (by decide) rfl
    have hK9 := hK.sub (tys' := []) [] rfl
    exact W.iret (v := 0) hx hb hr (fun t ht hW => ⟨⟨0, (o_mode, o_family), rfl, (show ((o_mode : Int32) = if v0 = (27 : Int32) then o_mode else (if v0 < (33 : Int32) then 0 else (if (47 : Int32) < v0 then 0 else 2))) ∧ ((o_family : Int32) = if v0 = (27 : Int32) then o_family else (if v0 < (33 : Int32) then o_family else (if (47 : Int32) < v0 then o_family else v0))) ∧ ((0 : Int32) = if v0 = (27 : Int32) then 0 else (if v0 < (48 : Int32) then 0 else (if (126 : Int32) < v0 then 0 else 3))) from (⟨by rw [if_pos c3], by rw [if_pos c3], by rw [if_pos c3]⟩)), by rw [ht]; exact hP9, va_K.moved hW.alike hK9, hD9⟩, hS.F ht⟩) hS.2.2 d_Parser_takeEscaped_7

abbrev at_g_Parser_beginField (dC : Nat → ClassId) (dI : Nat → Nat → Nat) (h0 : Nat) (o_mode : Int32) (o_taken : Int32) (o_family : Int32) (o_group : Int32) (o_end : Int32) (o_last : Int32) (o_phase : Int32) (o_sign : Int32) (o_whole : Int32) (o_fraction : Int32) (o_digitWorth : Int32) (o_value : Int32) (o_signed : Int32) (o_dataLeft : Int32) (o_data : Nat) (o_dataCount : Int32) (A : Nat → Prop) (u : Unit) (t : State) : Prop := match u with
  | _ => va_P (dC, dI) vcl [(h0, .inr (9, [.int o_mode, .int o_taken, .int o_family, .int o_group, .int o_end, .int o_last, .int 0, .int 0, .int 0, .int 0, .int 1000, .int o_value, .int o_signed, .int o_dataLeft, .ref o_data, .int o_dataCount]))] t.heap ∧ va_K (dC, dI) vcl [] t ∧ va_D A [(h0, .inr (9, [.int o_mode, .int o_taken, .int o_family, .int o_group, .int o_end, .int o_last, .int 0, .int 0, .int 0, .int 0, .int 1000, .int o_value, .int o_signed, .int o_dataLeft, .ref o_data, .int o_dataCount]))]
abbrev po_g_Parser_beginField (h0 : Nat) (o_mode : Int32) (o_taken : Int32) (o_family : Int32) (o_group : Int32) (o_end : Int32) (o_last : Int32) (o_phase : Int32) (o_sign : Int32) (o_whole : Int32) (o_fraction : Int32) (o_digitWorth : Int32) (o_value : Int32) (o_signed : Int32) (o_dataLeft : Int32) (o_data : Nat) (o_dataCount : Int32) (u : Unit) : Prop := match u with
  | _ => True
abbrev q_g_Parser_beginField (dC : Nat → ClassId) (dI : Nat → Nat → Nat) (h0 : Nat) (o_mode : Int32) (o_taken : Int32) (o_family : Int32) (o_group : Int32) (o_end : Int32) (o_last : Int32) (o_phase : Int32) (o_sign : Int32) (o_whole : Int32) (o_fraction : Int32) (o_digitWorth : Int32) (o_value : Int32) (o_signed : Int32) (o_dataLeft : Int32) (o_data : Nat) (o_dataCount : Int32) (A : Nat → Prop) : Array Value → State → Outcome → State → Prop := va_Qv (po_g_Parser_beginField h0 o_mode o_taken o_family o_group o_end o_last o_phase o_sign o_whole o_fraction o_digitWorth o_value o_signed o_dataLeft o_data o_dataCount) (at_g_Parser_beginField dC dI h0 o_mode o_taken o_family o_group o_end o_last o_phase o_sign o_whole o_fraction o_digitWorth o_value o_signed o_dataLeft o_data o_dataCount A) A
abbrev rm_g_Parser_beginField : Room := { frames := 0, cells := 0, slots := 0, locals := 0 }
set_option maxHeartbeats 4000000 in
set_option maxRecDepth 100000 in
theorem g_Parser_beginField (l : Launch) (dC : Nat → ClassId) (dI : Nat → Nat → Nat) (tt : Nat → Nat) (h0 : Nat) (o_mode : Int32) (o_taken : Int32) (o_family : Int32) (o_group : Int32) (o_end : Int32) (o_last : Int32) (o_phase : Int32) (o_sign : Int32) (o_whole : Int32) (o_fraction : Int32) (o_digitWorth : Int32) (o_value : Int32) (o_signed : Int32) (o_dataLeft : Int32) (o_data : Nat) (o_dataCount : Int32) (sz : Nat)  : Met l y_Parser_beginField w_Parser_beginField rm_g_Parser_beginField (va_Pc [.ref h0] (fun U => U.heap.size = sz ∧ va_P (dC, dI) vcl [(h0, .inr (9, [.int o_mode, .int o_taken, .int o_family, .int o_group, .int o_end, .int o_last, .int o_phase, .int o_sign, .int o_whole, .int o_fraction, .int o_digitWorth, .int o_value, .int o_signed, .int o_dataLeft, .ref o_data, .int o_dataCount]))] U.heap ∧ va_K (dC, dI) vcl [] U ∧ va_D (fun _ => True) [(h0, .inr (9, [.int o_mode, .int o_taken, .int o_family, .int o_group, .int o_end, .int o_last, .int o_phase, .int o_sign, .int o_whole, .int o_fraction, .int o_digitWorth, .int o_value, .int o_signed, .int o_dataLeft, .ref o_data, .int o_dataCount]))] ∧ SF tt (va_A [(h0, .inr (9, [.int o_mode, .int o_taken, .int o_family, .int o_group, .int o_end, .int o_last, .int o_phase, .int o_sign, .int o_whole, .int o_fraction, .int o_digitWorth, .int o_value, .int o_signed, .int o_dataLeft, .ref o_data, .int o_dataCount]))] sz) U U.heap)) (q_g_Parser_beginField dC dI h0 o_mode o_taken o_family o_group o_end o_last o_phase o_sign o_whole o_fraction o_digitWorth o_value o_signed o_dataLeft o_data o_dataCount (va_A [(h0, .inr (9, [.int o_mode, .int o_taken, .int o_family, .int o_group, .int o_end, .int o_last, .int o_phase, .int o_sign, .int o_whole, .int o_fraction, .int o_digitWorth, .int o_value, .int o_signed, .int o_dataLeft, .ref o_data, .int o_dataCount]))] sz)) 0 0 (va_A [(h0, .inr (9, [.int o_mode, .int o_taken, .int o_family, .int o_group, .int o_end, .int o_last, .int o_phase, .int o_sign, .int o_whole, .int o_fraction, .int o_digitWorth, .int o_value, .int o_signed, .int o_dataLeft, .ref o_data, .int o_dataCount]))] sz) := by
  refine Met.ofW (cc := b_Parser_beginField) (maxL := 1) (ret := none) (by decide) rfl ?_
  intro p e s m args below meth c s₁ B hml hv
  obtain ⟨rfl, hsz, hP, hK, hD0, hF⟩ := hv
  have hx := B.exec
  have hb := B.bytes
  have hr := B.returns
  have hwd : ∀ w ∈ gT, w.before _ s = true := fun w h => atoms_spec (ws := w_Parser_beginField) B.pre w (List.mem_cons_of_mem _ h)
  have hown : s.vm.findClass R_Parser = some m.cls := findClass_of_methodNamed B.named
  have hlocks := B.notSynchronized
  subst hsz
  have hD := hD0.self (sz := s.heap.size)
  generalize hAe : va_A [(h0, .inr (9, [.int o_mode, .int o_taken, .int o_family, .int o_group, .int o_end, .int o_last, .int o_phase, .int o_sign, .int o_whole, .int o_fraction, .int o_digitWorth, .int o_value, .int o_signed, .int o_dataLeft, .ref o_data, .int o_dataCount]))] s.heap.size = A at hD hF ⊢
  have hA : ∀ q : Nat, s.heap.size ≤ q → A q := fun q h => by rw [← hAe]; exact Or.inr h
  have hS : va_S A s.heap s.heap [] := va_S.rf
  have hP : va_P (dC, dI) vcl [(h0, .inr (9, [.int o_mode, .int o_taken, .int o_family, .int o_group, .int o_end, .int o_last, .int o_phase, .int o_sign, .int o_whole, .int o_fraction, .int o_digitWorth, .int o_value, .int o_signed, .int o_dataLeft, .ref o_data, .int o_dataCount]))] s.heap := hP
  have hl := lv_entry ([.ref h0]) (n := 1) (Nat.le_of_ble_eq_true rfl)
  rw [lg_entry_eq]
  generalize (lg_sl ([.ref h0]) ++ List.replicate (1 - (lg_sl ([.ref h0])).length) Slot.unset).toArray = ls at hl ⊢
  have hl : lv_has ls 1 [(0, .ref h0)] := hl
  refine lv_aload_n hx hb d_Parser_beginField_0 rfl (lv_at hl 0 rfl) ?_
  refine lv_iconst (v := 0) hx hb d_Parser_beginField_1 (by decide) ?_
  refine va_put (D := (dC, dI)) (ci := 9) (v := .int 0) (ty := .int) (C := R_Parser) (T := F_Parser) (N := 16) hx hb hwd i_Parser t_Parser to_Parser no_Parser hown hK hP hD hS 0 rfl rfl 6 (by decide) (hwd _ wd_3_63) (fun _ h9 => h9) rfl (by decide +kernel) rfl rfl (Nat.le_of_ble_eq_true rfl) d_Parser_beginField_2 ?_
  clear hP hD hS
  intro H locs hP hD hS
  replace hP : va_P (dC, dI) vcl [(h0, .inr (9, [.int o_mode, .int o_taken, .int o_family, .int o_group, .int o_end, .int o_last, .int 0, .int o_sign, .int o_whole, .int o_fraction, .int o_digitWorth, .int o_value, .int o_signed, .int o_dataLeft, .ref o_data, .int o_dataCount]))] H := hP
  replace hD : va_D A [(h0, .inr (9, [.int o_mode, .int o_taken, .int o_family, .int o_group, .int o_end, .int o_last, .int 0, .int o_sign, .int o_whole, .int o_fraction, .int o_digitWorth, .int o_value, .int o_signed, .int o_dataLeft, .ref o_data, .int o_dataCount]))] := hD
  refine lv_aload_n hx hb d_Parser_beginField_5 rfl (lv_at hl 0 rfl) ?_
  refine lv_iconst (v := 0) hx hb d_Parser_beginField_6 (by decide) ?_
  refine va_put (D := (dC, dI)) (ci := 9) (v := .int 0) (ty := .int) (C := R_Parser) (T := F_Parser) (N := 16) hx hb hwd i_Parser t_Parser to_Parser no_Parser hown hK hP hD hS 0 rfl rfl 7 (by decide) (hwd _ wd_3_64) (fun _ h9 => h9) rfl (by decide +kernel) rfl rfl (Nat.le_of_ble_eq_true rfl) d_Parser_beginField_7 ?_
  clear hP hD hS
  intro H locs hP hD hS
  replace hP : va_P (dC, dI) vcl [(h0, .inr (9, [.int o_mode, .int o_taken, .int o_family, .int o_group, .int o_end, .int o_last, .int 0, .int 0, .int o_whole, .int o_fraction, .int o_digitWorth, .int o_value, .int o_signed, .int o_dataLeft, .ref o_data, .int o_dataCount]))] H := hP
  replace hD : va_D A [(h0, .inr (9, [.int o_mode, .int o_taken, .int o_family, .int o_group, .int o_end, .int o_last, .int 0, .int 0, .int o_whole, .int o_fraction, .int o_digitWorth, .int o_value, .int o_signed, .int o_dataLeft, .ref o_data, .int o_dataCount]))] := hD
  refine lv_aload_n hx hb d_Parser_beginField_10 rfl (lv_at hl 0 rfl) ?_
  refine lv_iconst (v := 0) hx hb d_Parser_beginField_11 (by decide) ?_
  refine va_put (D := (dC, dI)) (ci := 9) (v := .int 0) (ty := .int) (C := R_Parser) (T := F_Parser) (N := 16) hx hb hwd i_Parser t_Parser to_Parser no_Parser hown hK hP hD hS 0 rfl rfl 8 (by decide) (hwd _ wd_3_65) (fun _ h9 => h9) rfl (by decide +kernel) rfl rfl (Nat.le_of_ble_eq_true rfl) d_Parser_beginField_12 ?_
  clear hP hD hS
  intro H locs hP hD hS
  replace hP : va_P (dC, dI) vcl [(h0, .inr (9, [.int o_mode, .int o_taken, .int o_family, .int o_group, .int o_end, .int o_last, .int 0, .int 0, .int 0, .int o_fraction, .int o_digitWorth, .int o_value, .int o_signed, .int o_dataLeft, .ref o_data, .int o_dataCount]))] H := hP
  replace hD : va_D A [(h0, .inr (9, [.int o_mode, .int o_taken, .int o_family, .int o_group, .int o_end, .int o_last, .int 0, .int 0, .int 0, .int o_fraction, .int o_digitWorth, .int o_value, .int o_signed, .int o_dataLeft, .ref o_data, .int o_dataCount]))] := hD
  refine lv_aload_n hx hb d_Parser_beginField_15 rfl (lv_at hl 0 rfl) ?_
  refine lv_iconst (v := 0) hx hb d_Parser_beginField_16 (by decide) ?_
  refine va_put (D := (dC, dI)) (ci := 9) (v := .int 0) (ty := .int) (C := R_Parser) (T := F_Parser) (N := 16) hx hb hwd i_Parser t_Parser to_Parser no_Parser hown hK hP hD hS 0 rfl rfl 9 (by decide) (hwd _ wd_3_66) (fun _ h9 => h9) rfl (by decide +kernel) rfl rfl (Nat.le_of_ble_eq_true rfl) d_Parser_beginField_17 ?_
  clear hP hD hS
  intro H locs hP hD hS
  replace hP : va_P (dC, dI) vcl [(h0, .inr (9, [.int o_mode, .int o_taken, .int o_family, .int o_group, .int o_end, .int o_last, .int 0, .int 0, .int 0, .int 0, .int o_digitWorth, .int o_value, .int o_signed, .int o_dataLeft, .ref o_data, .int o_dataCount]))] H := hP
  replace hD : va_D A [(h0, .inr (9, [.int o_mode, .int o_taken, .int o_family, .int o_group, .int o_end, .int o_last, .int 0, .int 0, .int 0, .int 0, .int o_digitWorth, .int o_value, .int o_signed, .int o_dataLeft, .ref o_data, .int o_dataCount]))] := hD
  refine lv_aload_n hx hb d_Parser_beginField_20 rfl (lv_at hl 0 rfl) ?_
  refine lv_sipush (v := 1000) hx hb d_Parser_beginField_21 (by decide) ?_
  refine va_put (D := (dC, dI)) (ci := 9) (v := .int 1000) (ty := .int) (C := R_Parser) (T := F_Parser) (N := 16) hx hb hwd i_Parser t_Parser to_Parser no_Parser hown hK hP hD hS 0 rfl rfl 10 (by decide) (hwd _ wd_3_67) (fun _ h9 => h9) rfl (by decide +kernel) rfl rfl (Nat.le_of_ble_eq_true rfl) d_Parser_beginField_24 ?_
  clear hP hD hS
  intro H locs hP hD hS
  replace hP : va_P (dC, dI) vcl [(h0, .inr (9, [.int o_mode, .int o_taken, .int o_family, .int o_group, .int o_end, .int o_last, .int 0, .int 0, .int 0, .int 0, .int 1000, .int o_value, .int o_signed, .int o_dataLeft, .ref o_data, .int o_dataCount]))] H := hP
  replace hD : va_D A [(h0, .inr (9, [.int o_mode, .int o_taken, .int o_family, .int o_group, .int o_end, .int o_last, .int 0, .int 0, .int 0, .int 0, .int 1000, .int o_value, .int o_signed, .int o_dataLeft, .ref o_data, .int o_dataCount]))] := hD
  have hP9 := hP.sub (ws' := [(h0, .inr (9, [.int o_mode, .int o_taken, .int o_family, .int o_group, .int o_end, .int o_last, .int 0, .int 0, .int 0, .int 0, .int 1000, .int o_value, .int o_signed, .int o_dataLeft, .ref o_data, .int o_dataCount]))]) [0] rfl
  have hD9 := hD.sub (ws' := [(h0, .inr (9, [.int o_mode, .int o_taken, .int o_family, .int o_group, .int o_end, .int o_last, .int 0, .int 0, .int 0, .int 0, .int 1000, .int o_value, .int o_signed, .int o_dataLeft, .ref o_data, .int o_dataCount]))]) [0] (by decide) rfl
  have hK9 := hK.sub (tys' := []) [] rfl
  exact W.vret hx hb hr (fun t ht hW => ⟨⟨(), rfl, (trivial), by rw [ht]; exact hP9, va_K.moved hW.alike hK9, hD9⟩, hS.F ht⟩) hS.2.2 d_Parser_beginField_27

abbrev at_g_Parser_finishField (dC : Nat → ClassId) (dI : Nat → Nat → Nat) (h0 : Nat) (o_mode : Int32) (o_taken : Int32) (o_family : Int32) (o_group : Int32) (o_end : Int32) (o_last : Int32) (o_phase : Int32) (o_sign : Int32) (o_whole : Int32) (o_fraction : Int32) (o_digitWorth : Int32) (o_value : Int32) (o_signed : Int32) (o_dataLeft : Int32) (o_data : Nat) (o_dataCount : Int32) (A : Nat → Prop) (u : Int32) (t : State) : Prop := match u with
  | z0 => va_P (dC, dI) vcl [(h0, .inr (9, [.int z0, .int o_taken, .int o_family, .int o_group, .int o_end, .int o_last, .int o_phase, .int o_sign, .int o_whole, .int o_fraction, .int o_digitWorth, .int o_value, .int o_signed, .int o_dataLeft, .ref o_data, .int o_dataCount]))] t.heap ∧ va_K (dC, dI) vcl [] t ∧ va_D A [(h0, .inr (9, [.int z0, .int o_taken, .int o_family, .int o_group, .int o_end, .int o_last, .int o_phase, .int o_sign, .int o_whole, .int o_fraction, .int o_digitWorth, .int o_value, .int o_signed, .int o_dataLeft, .ref o_data, .int o_dataCount]))]
abbrev po_g_Parser_finishField (h0 : Nat) (o_mode : Int32) (o_taken : Int32) (o_family : Int32) (o_group : Int32) (o_end : Int32) (o_last : Int32) (o_phase : Int32) (o_sign : Int32) (o_whole : Int32) (o_fraction : Int32) (o_digitWorth : Int32) (o_value : Int32) (o_signed : Int32) (o_dataLeft : Int32) (o_data : Nat) (o_dataCount : Int32) (r : Int32) (u : Int32) : Prop := match u with
  | z0 => (z0 = if o_last = (0 : Int32) then 3 else 0) ∧ (r = if o_last = (0 : Int32) then 0 else 8)
abbrev q_g_Parser_finishField (dC : Nat → ClassId) (dI : Nat → Nat → Nat) (h0 : Nat) (o_mode : Int32) (o_taken : Int32) (o_family : Int32) (o_group : Int32) (o_end : Int32) (o_last : Int32) (o_phase : Int32) (o_sign : Int32) (o_whole : Int32) (o_fraction : Int32) (o_digitWorth : Int32) (o_value : Int32) (o_signed : Int32) (o_dataLeft : Int32) (o_data : Nat) (o_dataCount : Int32) (A : Nat → Prop) : Array Value → State → Outcome → State → Prop := va_Qi (po_g_Parser_finishField h0 o_mode o_taken o_family o_group o_end o_last o_phase o_sign o_whole o_fraction o_digitWorth o_value o_signed o_dataLeft o_data o_dataCount) (at_g_Parser_finishField dC dI h0 o_mode o_taken o_family o_group o_end o_last o_phase o_sign o_whole o_fraction o_digitWorth o_value o_signed o_dataLeft o_data o_dataCount A) A
abbrev rm_g_Parser_finishField : Room := { frames := 0, cells := 0, slots := 0, locals := 0 }
set_option maxHeartbeats 4000000 in
set_option maxRecDepth 100000 in
theorem g_Parser_finishField (l : Launch) (dC : Nat → ClassId) (dI : Nat → Nat → Nat) (tt : Nat → Nat) (h0 : Nat) (o_mode : Int32) (o_taken : Int32) (o_family : Int32) (o_group : Int32) (o_end : Int32) (o_last : Int32) (o_phase : Int32) (o_sign : Int32) (o_whole : Int32) (o_fraction : Int32) (o_digitWorth : Int32) (o_value : Int32) (o_signed : Int32) (o_dataLeft : Int32) (o_data : Nat) (o_dataCount : Int32) (sz : Nat)  : Met l y_Parser_finishField w_Parser_finishField rm_g_Parser_finishField (va_Pc [.ref h0] (fun U => U.heap.size = sz ∧ va_P (dC, dI) vcl [(h0, .inr (9, [.int o_mode, .int o_taken, .int o_family, .int o_group, .int o_end, .int o_last, .int o_phase, .int o_sign, .int o_whole, .int o_fraction, .int o_digitWorth, .int o_value, .int o_signed, .int o_dataLeft, .ref o_data, .int o_dataCount]))] U.heap ∧ va_K (dC, dI) vcl [] U ∧ va_D (fun _ => True) [(h0, .inr (9, [.int o_mode, .int o_taken, .int o_family, .int o_group, .int o_end, .int o_last, .int o_phase, .int o_sign, .int o_whole, .int o_fraction, .int o_digitWorth, .int o_value, .int o_signed, .int o_dataLeft, .ref o_data, .int o_dataCount]))] ∧ SF tt (va_A [(h0, .inr (9, [.int o_mode, .int o_taken, .int o_family, .int o_group, .int o_end, .int o_last, .int o_phase, .int o_sign, .int o_whole, .int o_fraction, .int o_digitWorth, .int o_value, .int o_signed, .int o_dataLeft, .ref o_data, .int o_dataCount]))] sz) U U.heap)) (q_g_Parser_finishField dC dI h0 o_mode o_taken o_family o_group o_end o_last o_phase o_sign o_whole o_fraction o_digitWorth o_value o_signed o_dataLeft o_data o_dataCount (va_A [(h0, .inr (9, [.int o_mode, .int o_taken, .int o_family, .int o_group, .int o_end, .int o_last, .int o_phase, .int o_sign, .int o_whole, .int o_fraction, .int o_digitWorth, .int o_value, .int o_signed, .int o_dataLeft, .ref o_data, .int o_dataCount]))] sz)) 0 0 (va_A [(h0, .inr (9, [.int o_mode, .int o_taken, .int o_family, .int o_group, .int o_end, .int o_last, .int o_phase, .int o_sign, .int o_whole, .int o_fraction, .int o_digitWorth, .int o_value, .int o_signed, .int o_dataLeft, .ref o_data, .int o_dataCount]))] sz) := by
  refine Met.ofW (cc := b_Parser_finishField) (maxL := 1) (ret := (some .int)) (by decide) rfl ?_
  intro p e s m args below meth c s₁ B hml hv
  obtain ⟨rfl, hsz, hP, hK, hD0, hF⟩ := hv
  have hx := B.exec
  have hb := B.bytes
  have hr := B.returns
  have hwd : ∀ w ∈ gT, w.before _ s = true := fun w h => atoms_spec (ws := w_Parser_finishField) B.pre w (List.mem_cons_of_mem _ h)
  have hown : s.vm.findClass R_Parser = some m.cls := findClass_of_methodNamed B.named
  have hlocks := B.notSynchronized
  subst hsz
  have hD := hD0.self (sz := s.heap.size)
  generalize hAe : va_A [(h0, .inr (9, [.int o_mode, .int o_taken, .int o_family, .int o_group, .int o_end, .int o_last, .int o_phase, .int o_sign, .int o_whole, .int o_fraction, .int o_digitWorth, .int o_value, .int o_signed, .int o_dataLeft, .ref o_data, .int o_dataCount]))] s.heap.size = A at hD hF ⊢
  have hA : ∀ q : Nat, s.heap.size ≤ q → A q := fun q h => by rw [← hAe]; exact Or.inr h
  have hS : va_S A s.heap s.heap [] := va_S.rf
  have hP : va_P (dC, dI) vcl [(h0, .inr (9, [.int o_mode, .int o_taken, .int o_family, .int o_group, .int o_end, .int o_last, .int o_phase, .int o_sign, .int o_whole, .int o_fraction, .int o_digitWorth, .int o_value, .int o_signed, .int o_dataLeft, .ref o_data, .int o_dataCount]))] s.heap := hP
  have hl := lv_entry ([.ref h0]) (n := 1) (Nat.le_of_ble_eq_true rfl)
  rw [lg_entry_eq]
  generalize (lg_sl ([.ref h0]) ++ List.replicate (1 - (lg_sl ([.ref h0])).length) Slot.unset).toArray = ls at hl ⊢
  have hl : lv_has ls 1 [(0, .ref h0)] := hl
  refine lv_aload_n hx hb d_Parser_finishField_0 rfl (lv_at hl 0 rfl) ?_
  refine lv_aload_n hx hb d_Parser_finishField_1 rfl (lv_at hl 0 rfl) ?_
  refine va_get (D := (dC, dI)) (ci := 9) (v := .int o_last) (C := R_Parser) (T := F_Parser) (N := 16) hx hb hwd i_Parser hown hK hP 0 rfl rfl 5 (by decide) (hwd _ wd_3_62) (fun _ h9 => h9) rfl d_Parser_finishField_2 ?_
  refine lv_if_eq (tgt := 12) hx hb d_Parser_finishField_5 (by decide) (fun c5 => ?_) (fun c5 => ?_)
  · refine lv_iconst (v := 3) hx hb d_Parser_finishField_12 (by decide) ?_
    refine va_put (D := (dC, dI)) (ci := 9) (v := .int 3) (ty := .int) (C := R_Parser) (T := F_Parser) (N := 16) hx hb hwd i_Parser t_Parser to_Parser no_Parser hown hK hP hD hS 0 rfl rfl 0 (by decide) (hwd _ wd_3_53) (fun _ h9 => h9) rfl (by decide +kernel) rfl rfl (Nat.le_of_ble_eq_true rfl) d_Parser_finishField_13 ?_
    clear hP hD hS
    intro H locs hP hD hS
    replace hP : va_P (dC, dI) vcl [(h0, .inr (9, [.int 3, .int o_taken, .int o_family, .int o_group, .int o_end, .int o_last, .int o_phase, .int o_sign, .int o_whole, .int o_fraction, .int o_digitWorth, .int o_value, .int o_signed, .int o_dataLeft, .ref o_data, .int o_dataCount]))] H := hP
    replace hD : va_D A [(h0, .inr (9, [.int 3, .int o_taken, .int o_family, .int o_group, .int o_end, .int o_last, .int o_phase, .int o_sign, .int o_whole, .int o_fraction, .int o_digitWorth, .int o_value, .int o_signed, .int o_dataLeft, .ref o_data, .int o_dataCount]))] := hD
    refine lv_aload_n hx hb d_Parser_finishField_16 rfl (lv_at hl 0 rfl) ?_
    refine va_get (D := (dC, dI)) (ci := 9) (v := .int o_last) (C := R_Parser) (T := F_Parser) (N := 16) hx hb hwd i_Parser hown hK hP 0 rfl rfl 5 (by decide) (hwd _ wd_3_62) (fun _ h9 => h9) rfl d_Parser_finishField_17 ?_
    refine lv_if_eq (tgt := 28) hx hb d_Parser_finishField_20 (by decide) (fun c20 => ?_) (fun c20 => ?_)
    · refine lv_iconst (v := 0) hx hb d_Parser_finishField_28 (by decide) ?_
      have hP9 := hP.sub (ws' := [(h0, .inr (9, [.int 3, .int o_taken, .int o_family, .int o_group, .int o_end, .int o_last, .int o_phase, .int o_sign, .int o_whole, .int o_fraction, .int o_digitWorth, .int o_value, .int o_signed, .int o_dataLeft, .ref o_data, .int o_dataCount]))]) [0] rfl
      have hD9 := hD.sub (ws' := [(h0, .inr (9, [.int 3, .int o_taken, .int o_family, .int o_group, .int o_end, .int o_last, .int o_phase, .int o_sign, .int o_whole, .int o_fraction, .int o_digitWorth, .int o_value, .int o_signed, .int o_dataLeft, .ref o_data, .int o_dataCount]))]) [0] (by decide) rfl
      have hK9 := hK.sub (tys' := []) [] rfl
      exact W.iret (v := 0) hx hb hr (fun t ht hW => ⟨⟨0, (3), rfl, (show ((3 : Int32) = if o_last = (0 : Int32) then 3 else 0) ∧ ((0 : Int32) = if o_last = (0 : Int32) then 0 else 8) from (⟨by rw [if_pos c5], by rw [if_pos c20]⟩)), by rw [ht]; exact hP9, va_K.moved hW.alike hK9, hD9⟩, hS.F ht⟩) hS.2.2 d_Parser_finishField_29
    · refine lv_bipush (v := 8) hx hb d_Parser_finishField_23 (by decide) ?_
      refine lv_goto (tgt := 29) hx hb d_Parser_finishField_25 (by decide) ?_
      have hP9 := hP.sub (ws' := [(h0, .inr (9, [.int 3, .int o_taken, .int o_family, .int o_group, .int o_end, .int o_last, .int o_phase, .int o_sign, .int o_whole, .int o_fraction, .int o_digitWorth, .int o_value, .int o_signed, .int o_dataLeft, .ref o_data, .int o_dataCount]))]) [0] rfl
      have hD9 := hD.sub (ws' := [(h0, .inr (9, [.int 3, .int o_taken, .int o_family, .int o_group, .int o_end, .int o_last, .int o_phase, .int o_sign, .int o_whole, .int o_fraction, .int o_digitWorth, .int o_value, .int o_signed, .int o_dataLeft, .ref o_data, .int o_dataCount]))]) [0] (by decide) rfl
      have hK9 := hK.sub (tys' := []) [] rfl
      exact W.iret (v := 8) hx hb hr (fun t ht hW => ⟨⟨8, (3), rfl, (show ((3 : Int32) = if o_last = (0 : Int32) then 3 else 0) ∧ ((8 : Int32) = if o_last = (0 : Int32) then 0 else 8) from (⟨by rw [if_pos c5], by rw [if_neg c20]⟩)), by rw [ht]; exact hP9, va_K.moved hW.alike hK9, hD9⟩, hS.F ht⟩) hS.2.2 d_Parser_finishField_29
  · refine lv_iconst (v := 0) hx hb d_Parser_finishField_8 (by decide) ?_
    refine lv_goto (tgt := 13) hx hb d_Parser_finishField_9 (by decide) ?_
    refine va_put (D := (dC, dI)) (ci := 9) (v := .int 0) (ty := .int) (C := R_Parser) (T := F_Parser) (N := 16) hx hb hwd i_Parser t_Parser to_Parser no_Parser hown hK hP hD hS 0 rfl rfl 0 (by decide) (hwd _ wd_3_53) (fun _ h9 => h9) rfl (by decide +kernel) rfl rfl (Nat.le_of_ble_eq_true rfl) d_Parser_finishField_13 ?_
    clear hP hD hS
    intro H locs hP hD hS
    replace hP : va_P (dC, dI) vcl [(h0, .inr (9, [.int 0, .int o_taken, .int o_family, .int o_group, .int o_end, .int o_last, .int o_phase, .int o_sign, .int o_whole, .int o_fraction, .int o_digitWorth, .int o_value, .int o_signed, .int o_dataLeft, .ref o_data, .int o_dataCount]))] H := hP
    replace hD : va_D A [(h0, .inr (9, [.int 0, .int o_taken, .int o_family, .int o_group, .int o_end, .int o_last, .int o_phase, .int o_sign, .int o_whole, .int o_fraction, .int o_digitWorth, .int o_value, .int o_signed, .int o_dataLeft, .ref o_data, .int o_dataCount]))] := hD
    refine lv_aload_n hx hb d_Parser_finishField_16 rfl (lv_at hl 0 rfl) ?_
    refine va_get (D := (dC, dI)) (ci := 9) (v := .int o_last) (C := R_Parser) (T := F_Parser) (N := 16) hx hb hwd i_Parser hown hK hP 0 rfl rfl 5 (by decide) (hwd _ wd_3_62) (fun _ h9 => h9) rfl d_Parser_finishField_17 ?_
    refine lv_if_eq (tgt := 28) hx hb d_Parser_finishField_20 (by decide) (fun c20 => ?_) (fun c20 => ?_)
    · refine lv_iconst (v := 0) hx hb d_Parser_finishField_28 (by decide) ?_
      have hP9 := hP.sub (ws' := [(h0, .inr (9, [.int 0, .int o_taken, .int o_family, .int o_group, .int o_end, .int o_last, .int o_phase, .int o_sign, .int o_whole, .int o_fraction, .int o_digitWorth, .int o_value, .int o_signed, .int o_dataLeft, .ref o_data, .int o_dataCount]))]) [0] rfl
      have hD9 := hD.sub (ws' := [(h0, .inr (9, [.int 0, .int o_taken, .int o_family, .int o_group, .int o_end, .int o_last, .int o_phase, .int o_sign, .int o_whole, .int o_fraction, .int o_digitWorth, .int o_value, .int o_signed, .int o_dataLeft, .ref o_data, .int o_dataCount]))]) [0] (by decide) rfl
      have hK9 := hK.sub (tys' := []) [] rfl
      exact W.iret (v := 0) hx hb hr (fun t ht hW => ⟨⟨0, (0), rfl, (show ((0 : Int32) = if o_last = (0 : Int32) then 3 else 0) ∧ ((0 : Int32) = if o_last = (0 : Int32) then 0 else 8) from (⟨by rw [if_neg c5], by rw [if_pos c20]⟩)), by rw [ht]; exact hP9, va_K.moved hW.alike hK9, hD9⟩, hS.F ht⟩) hS.2.2 d_Parser_finishField_29
    · refine lv_bipush (v := 8) hx hb d_Parser_finishField_23 (by decide) ?_
      refine lv_goto (tgt := 29) hx hb d_Parser_finishField_25 (by decide) ?_
      have hP9 := hP.sub (ws' := [(h0, .inr (9, [.int 0, .int o_taken, .int o_family, .int o_group, .int o_end, .int o_last, .int o_phase, .int o_sign, .int o_whole, .int o_fraction, .int o_digitWorth, .int o_value, .int o_signed, .int o_dataLeft, .ref o_data, .int o_dataCount]))]) [0] rfl
      have hD9 := hD.sub (ws' := [(h0, .inr (9, [.int 0, .int o_taken, .int o_family, .int o_group, .int o_end, .int o_last, .int o_phase, .int o_sign, .int o_whole, .int o_fraction, .int o_digitWorth, .int o_value, .int o_signed, .int o_dataLeft, .ref o_data, .int o_dataCount]))]) [0] (by decide) rfl
      have hK9 := hK.sub (tys' := []) [] rfl
      exact W.iret (v := 8) hx hb hr (fun t ht hW => ⟨⟨8, (0), rfl, (show ((0 : Int32) = if o_last = (0 : Int32) then 3 else 0) ∧ ((8 : Int32) = if o_last = (0 : Int32) then 0 else 8) from (⟨by rw [if_neg c5], by rw [if_neg c20]⟩)), by rw [ht]; exact hP9, va_K.moved hW.alike hK9, hD9⟩, hS.F ht⟩) hS.2.2 d_Parser_finishField_29

abbrev at_g_Parser_signedNumber (dC : Nat → ClassId) (dI : Nat → Nat → Nat) (h0 : Nat) (o_mode : Int32) (o_taken : Int32) (o_family : Int32) (o_group : Int32) (o_end : Int32) (o_last : Int32) (o_phase : Int32) (o_sign : Int32) (o_whole : Int32) (o_fraction : Int32) (o_digitWorth : Int32) (o_value : Int32) (o_signed : Int32) (o_dataLeft : Int32) (o_data : Nat) (o_dataCount : Int32) (A : Nat → Prop) (u : Unit) (t : State) : Prop := match u with
  | _ => va_P (dC, dI) vcl [(h0, .inr (9, [.int o_mode, .int o_taken, .int o_family, .int o_group, .int o_end, .int o_last, .int o_phase, .int o_sign, .int o_whole, .int o_fraction, .int o_digitWorth, .int o_value, .int o_signed, .int o_dataLeft, .ref o_data, .int o_dataCount]))] t.heap ∧ va_K (dC, dI) vcl [] t ∧ va_D A [(h0, .inr (9, [.int o_mode, .int o_taken, .int o_family, .int o_group, .int o_end, .int o_last, .int o_phase, .int o_sign, .int o_whole, .int o_fraction, .int o_digitWorth, .int o_value, .int o_signed, .int o_dataLeft, .ref o_data, .int o_dataCount]))]
abbrev po_g_Parser_signedNumber (h0 : Nat) (o_mode : Int32) (o_taken : Int32) (o_family : Int32) (o_group : Int32) (o_end : Int32) (o_last : Int32) (o_phase : Int32) (o_sign : Int32) (o_whole : Int32) (o_fraction : Int32) (o_digitWorth : Int32) (o_value : Int32) (o_signed : Int32) (o_dataLeft : Int32) (o_data : Nat) (o_dataCount : Int32) (r : Int32) (u : Unit) : Prop := match u with
  | _ => r = o_value / 10000
abbrev q_g_Parser_signedNumber (dC : Nat → ClassId) (dI : Nat → Nat → Nat) (h0 : Nat) (o_mode : Int32) (o_taken : Int32) (o_family : Int32) (o_group : Int32) (o_end : Int32) (o_last : Int32) (o_phase : Int32) (o_sign : Int32) (o_whole : Int32) (o_fraction : Int32) (o_digitWorth : Int32) (o_value : Int32) (o_signed : Int32) (o_dataLeft : Int32) (o_data : Nat) (o_dataCount : Int32) (A : Nat → Prop) : Array Value → State → Outcome → State → Prop := va_Qi (po_g_Parser_signedNumber h0 o_mode o_taken o_family o_group o_end o_last o_phase o_sign o_whole o_fraction o_digitWorth o_value o_signed o_dataLeft o_data o_dataCount) (at_g_Parser_signedNumber dC dI h0 o_mode o_taken o_family o_group o_end o_last o_phase o_sign o_whole o_fraction o_digitWorth o_value o_signed o_dataLeft o_data o_dataCount A) A
abbrev rm_g_Parser_signedNumber : Room := { frames := 0, cells := 0, slots := 0, locals := 0 }
set_option maxHeartbeats 4000000 in
set_option maxRecDepth 100000 in
theorem g_Parser_signedNumber (l : Launch) (dC : Nat → ClassId) (dI : Nat → Nat → Nat) (tt : Nat → Nat) (h0 : Nat) (o_mode : Int32) (o_taken : Int32) (o_family : Int32) (o_group : Int32) (o_end : Int32) (o_last : Int32) (o_phase : Int32) (o_sign : Int32) (o_whole : Int32) (o_fraction : Int32) (o_digitWorth : Int32) (o_value : Int32) (o_signed : Int32) (o_dataLeft : Int32) (o_data : Nat) (o_dataCount : Int32) (sz : Nat)  : Met l y_Parser_signedNumber w_Parser_signedNumber rm_g_Parser_signedNumber (va_Pc [.ref h0] (fun U => U.heap.size = sz ∧ va_P (dC, dI) vcl [(h0, .inr (9, [.int o_mode, .int o_taken, .int o_family, .int o_group, .int o_end, .int o_last, .int o_phase, .int o_sign, .int o_whole, .int o_fraction, .int o_digitWorth, .int o_value, .int o_signed, .int o_dataLeft, .ref o_data, .int o_dataCount]))] U.heap ∧ va_K (dC, dI) vcl [] U ∧ va_D (fun _ => True) [(h0, .inr (9, [.int o_mode, .int o_taken, .int o_family, .int o_group, .int o_end, .int o_last, .int o_phase, .int o_sign, .int o_whole, .int o_fraction, .int o_digitWorth, .int o_value, .int o_signed, .int o_dataLeft, .ref o_data, .int o_dataCount]))] ∧ SF tt (va_A [(h0, .inr (9, [.int o_mode, .int o_taken, .int o_family, .int o_group, .int o_end, .int o_last, .int o_phase, .int o_sign, .int o_whole, .int o_fraction, .int o_digitWorth, .int o_value, .int o_signed, .int o_dataLeft, .ref o_data, .int o_dataCount]))] sz) U U.heap)) (q_g_Parser_signedNumber dC dI h0 o_mode o_taken o_family o_group o_end o_last o_phase o_sign o_whole o_fraction o_digitWorth o_value o_signed o_dataLeft o_data o_dataCount (va_A [(h0, .inr (9, [.int o_mode, .int o_taken, .int o_family, .int o_group, .int o_end, .int o_last, .int o_phase, .int o_sign, .int o_whole, .int o_fraction, .int o_digitWorth, .int o_value, .int o_signed, .int o_dataLeft, .ref o_data, .int o_dataCount]))] sz)) 0 0 (va_A [(h0, .inr (9, [.int o_mode, .int o_taken, .int o_family, .int o_group, .int o_end, .int o_last, .int o_phase, .int o_sign, .int o_whole, .int o_fraction, .int o_digitWorth, .int o_value, .int o_signed, .int o_dataLeft, .ref o_data, .int o_dataCount]))] sz) := by
  refine Met.ofW (cc := b_Parser_signedNumber) (maxL := 1) (ret := (some .int)) (by decide) rfl ?_
  intro p e s m args below meth c s₁ B hml hv
  obtain ⟨rfl, hsz, hP, hK, hD0, hF⟩ := hv
  have hx := B.exec
  have hb := B.bytes
  have hr := B.returns
  have hwd : ∀ w ∈ gT, w.before _ s = true := fun w h => atoms_spec (ws := w_Parser_signedNumber) B.pre w (List.mem_cons_of_mem _ h)
  have hown : s.vm.findClass R_Parser = some m.cls := findClass_of_methodNamed B.named
  have hlocks := B.notSynchronized
  subst hsz
  have hD := hD0.self (sz := s.heap.size)
  generalize hAe : va_A [(h0, .inr (9, [.int o_mode, .int o_taken, .int o_family, .int o_group, .int o_end, .int o_last, .int o_phase, .int o_sign, .int o_whole, .int o_fraction, .int o_digitWorth, .int o_value, .int o_signed, .int o_dataLeft, .ref o_data, .int o_dataCount]))] s.heap.size = A at hD hF ⊢
  have hA : ∀ q : Nat, s.heap.size ≤ q → A q := fun q h => by rw [← hAe]; exact Or.inr h
  have hS : va_S A s.heap s.heap [] := va_S.rf
  have hP : va_P (dC, dI) vcl [(h0, .inr (9, [.int o_mode, .int o_taken, .int o_family, .int o_group, .int o_end, .int o_last, .int o_phase, .int o_sign, .int o_whole, .int o_fraction, .int o_digitWorth, .int o_value, .int o_signed, .int o_dataLeft, .ref o_data, .int o_dataCount]))] s.heap := hP
  have hl := lv_entry ([.ref h0]) (n := 1) (Nat.le_of_ble_eq_true rfl)
  rw [lg_entry_eq]
  generalize (lg_sl ([.ref h0]) ++ List.replicate (1 - (lg_sl ([.ref h0])).length) Slot.unset).toArray = ls at hl ⊢
  have hl : lv_has ls 1 [(0, .ref h0)] := hl
  refine lv_aload_n hx hb d_Parser_signedNumber_0 rfl (lv_at hl 0 rfl) ?_
  refine va_get (D := (dC, dI)) (ci := 9) (v := .int o_value) (C := R_Parser) (T := F_Parser) (N := 16) hx hb hwd i_Parser hown hK hP 0 rfl rfl 11 (by decide) (hwd _ wd_3_68) (fun _ h9 => h9) rfl d_Parser_signedNumber_1 ?_
  refine lv_sipush (v := 10000) hx hb d_Parser_signedNumber_4 (by decide) ?_
  refine lv_idiv hx hb d_Parser_signedNumber_7 (by decide) ?_
  have hP9 := hP.sub (ws' := [(h0, .inr (9, [.int o_mode, .int o_taken, .int o_family, .int o_group, .int o_end, .int o_last, .int o_phase, .int o_sign, .int o_whole, .int o_fraction, .int o_digitWorth, .int o_value, .int o_signed, .int o_dataLeft, .ref o_data, .int o_dataCount]))]) [0] rfl
  have hD9 := hD.sub (ws' := [(h0, .inr (9, [.int o_mode, .int o_taken, .int o_family, .int o_group, .int o_end, .int o_last, .int o_phase, .int o_sign, .int o_whole, .int o_fraction, .int o_digitWorth, .int o_value, .int o_signed, .int o_dataLeft, .ref o_data, .int o_dataCount]))]) [0] (by decide) rfl
  have hK9 := hK.sub (tys' := []) [] rfl
  exact W.iret (v := o_value / 10000) hx hb hr (fun t ht hW => ⟨⟨(o_value / 10000), (), rfl, (show (o_value / 10000 : Int32) = o_value / 10000 from (rfl)), by rw [ht]; exact hP9, va_K.moved hW.alike hK9, hD9⟩, hS.F ht⟩) hS.2.2 d_Parser_signedNumber_8

abbrev at_g_PictureFile_hasPage (dC : Nat → ClassId) (dI : Nat → Nat → Nat) (h0 : Nat) (o_bytes : Nat) (o_length : Int32) (o_highFirst : Int32) (o_next : Int64) (o_stripsBefore : Int64) (o_types : Nat) (o_counts : Nat) (o_places : Nat) (A : Nat → Prop) (u : Unit) (t : State) : Prop := match u with
  | _ => va_P (dC, dI) vcl [(h0, .inr (10, [.ref o_bytes, .int o_length, .int o_highFirst, .long o_next, .long o_stripsBefore, .ref o_types, .ref o_counts, .ref o_places]))] t.heap ∧ va_K (dC, dI) vcl [] t ∧ va_D A [(h0, .inr (10, [.ref o_bytes, .int o_length, .int o_highFirst, .long o_next, .long o_stripsBefore, .ref o_types, .ref o_counts, .ref o_places]))]
abbrev po_g_PictureFile_hasPage (h0 : Nat) (o_bytes : Nat) (o_length : Int32) (o_highFirst : Int32) (o_next : Int64) (o_stripsBefore : Int64) (o_types : Nat) (o_counts : Nat) (o_places : Nat) (r : Int32) (u : Unit) : Prop := match u with
  | _ => r = if (lg_cmp o_next 0) = (0 : Int32) then 0 else 1
abbrev q_g_PictureFile_hasPage (dC : Nat → ClassId) (dI : Nat → Nat → Nat) (h0 : Nat) (o_bytes : Nat) (o_length : Int32) (o_highFirst : Int32) (o_next : Int64) (o_stripsBefore : Int64) (o_types : Nat) (o_counts : Nat) (o_places : Nat) (A : Nat → Prop) : Array Value → State → Outcome → State → Prop := va_Qi (po_g_PictureFile_hasPage h0 o_bytes o_length o_highFirst o_next o_stripsBefore o_types o_counts o_places) (at_g_PictureFile_hasPage dC dI h0 o_bytes o_length o_highFirst o_next o_stripsBefore o_types o_counts o_places A) A
abbrev rm_g_PictureFile_hasPage : Room := { frames := 0, cells := 0, slots := 0, locals := 0 }
set_option maxHeartbeats 4000000 in
set_option maxRecDepth 100000 in
theorem g_PictureFile_hasPage (l : Launch) (dC : Nat → ClassId) (dI : Nat → Nat → Nat) (tt : Nat → Nat) (h0 : Nat) (o_bytes : Nat) (o_length : Int32) (o_highFirst : Int32) (o_next : Int64) (o_stripsBefore : Int64) (o_types : Nat) (o_counts : Nat) (o_places : Nat) (sz : Nat)  : Met l y_PictureFile_hasPage w_PictureFile_hasPage rm_g_PictureFile_hasPage (va_Pc [.ref h0] (fun U => U.heap.size = sz ∧ va_P (dC, dI) vcl [(h0, .inr (10, [.ref o_bytes, .int o_length, .int o_highFirst, .long o_next, .long o_stripsBefore, .ref o_types, .ref o_counts, .ref o_places]))] U.heap ∧ va_K (dC, dI) vcl [] U ∧ va_D (fun _ => True) [(h0, .inr (10, [.ref o_bytes, .int o_length, .int o_highFirst, .long o_next, .long o_stripsBefore, .ref o_types, .ref o_counts, .ref o_places]))] ∧ SF tt (va_A [(h0, .inr (10, [.ref o_bytes, .int o_length, .int o_highFirst, .long o_next, .long o_stripsBefore, .ref o_types, .ref o_counts, .ref o_places]))] sz) U U.heap)) (q_g_PictureFile_hasPage dC dI h0 o_bytes o_length o_highFirst o_next o_stripsBefore o_types o_counts o_places (va_A [(h0, .inr (10, [.ref o_bytes, .int o_length, .int o_highFirst, .long o_next, .long o_stripsBefore, .ref o_types, .ref o_counts, .ref o_places]))] sz)) 0 0 (va_A [(h0, .inr (10, [.ref o_bytes, .int o_length, .int o_highFirst, .long o_next, .long o_stripsBefore, .ref o_types, .ref o_counts, .ref o_places]))] sz) := by
  refine Met.ofW (cc := b_PictureFile_hasPage) (maxL := 1) (ret := (some .boolean)) (by decide) rfl ?_
  intro p e s m args below meth c s₁ B hml hv
  obtain ⟨rfl, hsz, hP, hK, hD0, hF⟩ := hv
  have hx := B.exec
  have hb := B.bytes
  have hr := B.returns
  have hwd : ∀ w ∈ gT, w.before _ s = true := fun w h => atoms_spec (ws := w_PictureFile_hasPage) B.pre w (List.mem_cons_of_mem _ h)
  have hown : s.vm.findClass R_PictureFile = some m.cls := findClass_of_methodNamed B.named
  have hlocks := B.notSynchronized
  subst hsz
  have hD := hD0.self (sz := s.heap.size)
  generalize hAe : va_A [(h0, .inr (10, [.ref o_bytes, .int o_length, .int o_highFirst, .long o_next, .long o_stripsBefore, .ref o_types, .ref o_counts, .ref o_places]))] s.heap.size = A at hD hF ⊢
  have hA : ∀ q : Nat, s.heap.size ≤ q → A q := fun q h => by rw [← hAe]; exact Or.inr h
  have hS : va_S A s.heap s.heap [] := va_S.rf
  have hP : va_P (dC, dI) vcl [(h0, .inr (10, [.ref o_bytes, .int o_length, .int o_highFirst, .long o_next, .long o_stripsBefore, .ref o_types, .ref o_counts, .ref o_places]))] s.heap := hP
  have hl := lv_entry ([.ref h0]) (n := 1) (Nat.le_of_ble_eq_true rfl)
  rw [lg_entry_eq]
  generalize (lg_sl ([.ref h0]) ++ List.replicate (1 - (lg_sl ([.ref h0])).length) Slot.unset).toArray = ls at hl ⊢
  have hl : lv_has ls 1 [(0, .ref h0)] := hl
  refine lv_aload_n hx hb d_PictureFile_hasPage_0 rfl (lv_at hl 0 rfl) ?_
  refine va_get (D := (dC, dI)) (ci := 10) (v := .long o_next) (C := R_PictureFile) (T := F_PictureFile) (N := 8) hx hb hwd i_PictureFile hown hK hP 0 rfl rfl 3 (by decide) (hwd _ wd_3_184) (fun _ h9 => h9) rfl d_PictureFile_hasPage_1 ?_
  refine lv_lconst (v := 0) hx hb d_PictureFile_hasPage_4 (by decide) ?_
  refine W.lcmp hx hb d_PictureFile_hasPage_5 ?_
  refine lv_if_eq (tgt := 13) hx hb d_PictureFile_hasPage_6 (by decide) (fun c6 => ?_) (fun c6 => ?_)
  · refine lv_iconst (v := 0) hx hb d_PictureFile_hasPage_13 (by decide) ?_
    have hP9 := hP.sub (ws' := [(h0, .inr (10, [.ref o_bytes, .int o_length, .int o_highFirst, .long o_next, .long o_stripsBefore, .ref o_types, .ref o_counts, .ref o_places]))]) [0] rfl
    have hD9 := hD.sub (ws' := [(h0, .inr (10, [.ref o_bytes, .int o_length, .int o_highFirst, .long o_next, .long o_stripsBefore, .ref o_types, .ref o_counts, .ref o_places]))]) [0] (by decide) rfl
    have hK9 := hK.sub (tys' := []) [] rfl
    exact W.zret (v := 0) hx hb hr (by decide) (fun t ht hW => ⟨⟨0, (), rfl, (show (0 : Int32) = if (lg_cmp o_next 0) = (0 : Int32) then 0 else 1 from (by rw [if_pos c6])), by rw [ht]; exact hP9, va_K.moved hW.alike hK9, hD9⟩, hS.F ht⟩) hS.2.2 d_PictureFile_hasPage_14
  · refine lv_iconst (v := 1) hx hb d_PictureFile_hasPage_9 (by decide) ?_
    refine lv_goto (tgt := 14) hx hb d_PictureFile_hasPage_10 (by decide) ?_
    have hP9 := hP.sub (ws' := [(h0, .inr (10, [.ref o_bytes, .int o_length, .int o_highFirst, .long o_next, .long o_stripsBefore, .ref o_types, .ref o_counts, .ref o_places]))]) [0] rfl
    have hD9 := hD.sub (ws' := [(h0, .inr (10, [.ref o_bytes, .int o_length, .int o_highFirst, .long o_next, .long o_stripsBefore, .ref o_types, .ref o_counts, .ref o_places]))]) [0] (by decide) rfl
    have hK9 := hK.sub (tys' := []) [] rfl
    exact W.zret (v := 1) hx hb hr (by decide) (fun t ht hW => ⟨⟨1, (), rfl, (show (1 : Int32) = if (lg_cmp o_next 0) = (0 : Int32) then 0 else 1 from (by rw [if_neg c6])), by rw [ht]; exact hP9, va_K.moved hW.alike hK9, hD9⟩, hS.F ht⟩) hS.2.2 d_PictureFile_hasPage_14

abbrev at_g_PictureFile_canBe (dC : Nat → ClassId) (dI : Nat → Nat → Nat) (v0 : Int32) (v1 : Int32) (A : Nat → Prop) (u : Unit) (t : State) : Prop := match u with
  | _ => va_P (dC, dI) vcl [] t.heap ∧ va_K (dC, dI) vcl [] t ∧ va_D A []
abbrev po_g_PictureFile_canBe (v0 : Int32) (v1 : Int32) (r : Int32) (u : Unit) : Prop := match u with
  | _ => r = if v0 = (8 : Int32) then (if v1 = (5 : Int32) then 1 else 0) else (if v0 = (9 : Int32) then (if v1 = (5 : Int32) then 1 else 0) else (if v0 = (2 : Int32) then (if v1 = (3 : Int32) then 1 else 0) else (if v0 = (3 : Int32) then (if v1 = (3 : Int32) then 1 else 0) else (if v0 = (4 : Int32) then (if v1 = (3 : Int32) then 1 else 0) else (if v0 = (10 : Int32) then (if v1 = (3 : Int32) then 1 else 0) else (if v1 = (3 : Int32) then 1 else (if v1 = (4 : Int32) then 1 else 0)))))))
abbrev q_g_PictureFile_canBe (dC : Nat → ClassId) (dI : Nat → Nat → Nat) (v0 : Int32) (v1 : Int32) (A : Nat → Prop) : Array Value → State → Outcome → State → Prop := va_Qi (po_g_PictureFile_canBe v0 v1) (at_g_PictureFile_canBe dC dI v0 v1 A) A
abbrev rm_g_PictureFile_canBe : Room := { frames := 0, cells := 0, slots := 0, locals := 0 }
set_option maxHeartbeats 4000000 in
set_option maxRecDepth 100000 in
theorem g_PictureFile_canBe (l : Launch) (dC : Nat → ClassId) (dI : Nat → Nat → Nat) (tt : Nat → Nat) (v0 : Int32) (v1 : Int32) (sz : Nat)  : Met l y_PictureFile_canBe w_PictureFile_canBe rm_g_PictureFile_canBe (va_Pc [.int v0, .int v1] (fun U => U.heap.size = sz ∧ va_P (dC, dI) vcl [] U.heap ∧ va_K (dC, dI) vcl [] U ∧ va_D (fun _ => True) [] ∧ SF tt (va_A [] sz) U U.heap)) (q_g_PictureFile_canBe dC dI v0 v1 (va_A [] sz)) 0 0 (va_A [] sz) := by
  refine Met.ofW (cc := b_PictureFile_canBe) (maxL := 2) (ret := (some .boolean)) (by decide) rfl ?_
  intro p e s m args below meth c s₁ B hml hv
  obtain ⟨rfl, hsz, hP, hK, hD0, hF⟩ := hv
  have hx := B.exec
  have hb := B.bytes
  have hr := B.returns
  have hwd : ∀ w ∈ gT, w.before _ s = true := fun w h => atoms_spec (ws := w_PictureFile_canBe) B.pre w (List.mem_cons_of_mem _ h)
  have hown : s.vm.findClass R_PictureFile = some m.cls := findClass_of_methodNamed B.named
  have hlocks := B.notSynchronized
  subst hsz
  have hD := hD0.self (sz := s.heap.size)
  generalize hAe : va_A [] s.heap.size = A at hD hF ⊢
  have hA : ∀ q : Nat, s.heap.size ≤ q → A q := fun q h => by rw [← hAe]; exact Or.inr h
  have hS : va_S A s.heap s.heap [] := va_S.rf
  have hP : va_P (dC, dI) vcl [] s.heap := hP
  have hl := lv_entry ([.int v0, .int v1]) (n := 2) (Nat.le_of_ble_eq_true rfl)
  rw [lg_entry_eq]
  generalize (lg_sl ([.int v0, .int v1]) ++ List.replicate (2 - (lg_sl ([.int v0, .int v1])).length) Slot.unset).toArray = ls at hl ⊢
  have hl : lv_has ls 2 [(0, .int v0), (1, .int v1)] := hl
  refine lv_iload_n hx hb d_PictureFile_canBe_0 rfl (lv_at hl 0 rfl) ?_
  refine lv_bipush (v := 8) hx hb d_PictureFile_canBe_1 (by decide) ?_
  refine lv_icmp_eq (tgt := 12) hx hb d_PictureFile_canBe_3 (by decide) (fun c3 => ?_) (fun c3 => ?_)
  · refine lv_iload_n hx hb d_PictureFile_canBe_12 rfl (lv_at hl 1 rfl) ?_
    refine lv_iconst (v := 5) hx hb d_PictureFile_canBe_13 (by decide) ?_
    refine lv_icmp_ne (tgt := 21) hx hb d_PictureFile_canBe_14 (by decide) (fun c14 => ?_) (fun c14 => ?_)
    · refine lv_iconst (v := 0) hx hb d_PictureFile_canBe_21 (by decide) ?_
      have hP9 := hP.sub (ws' := []) [] rfl
      have hD9 := hD.sub (ws' := []) [] (by decide) rfl
      have hK9 := hK.sub (tys' := []) [] rfl
      exact W.zret (v := 0) hx hb hr (by decide) (fun t ht hW => ⟨⟨0, (), rfl, (show (0 : Int32) = if v0 = (8 : Int32) then (if v1 = (5 : Int32) then 1 else 0) else (if v0 = (9 : Int32) then (if v1 = (5 : Int32) then 1 else 0) else (if v0 = (2 : Int32) then (if v1 = (3 : Int32) then 1 else 0) else (if v0 = (3 : Int32) then (if v1 = (3 : Int32) then 1 else 0) else (if v0 = (4 : Int32) then (if v1 = (3 : Int32) then 1 else 0) else (if v0 = (10 : Int32) then (if v1 = (3 : Int32) then 1 else 0) else (if v1 = (3 : Int32) then 1 else (if v1 = (4 : Int32) then 1 else 0))))))) from (by rw [if_pos c3, if_neg c14])), by rw [ht]; exact hP9, va_K.moved hW.alike hK9, hD9⟩, hS.F ht⟩) hS.2.2 d_PictureFile_canBe_22
    · refine lv_iconst (v := 1) hx hb d_PictureFile_canBe_17 (by decide) ?_
      refine lv_goto (tgt := 22) hx hb d_PictureFile_canBe_18 (by decide) ?_
      have hP9 := hP.sub (ws' := []) [] rfl
      have hD9 := hD.sub (ws' := []) [] (by decide) rfl
      have hK9 := hK.sub (tys' := []) [] rfl
      exact W.zret (v := 1) hx hb hr (by decide) (fun t ht hW => ⟨⟨1, (), rfl, (show (1 : Int32) = if v0 = (8 : Int32) then (if v1 = (5 : Int32) then 1 else 0) else (if v0 = (9 : Int32) then (if v1 = (5 : Int32) then 1 else 0) else (if v0 = (2 : Int32) then (if v1 = (3 : Int32) then 1 else 0) else (if v0 = (3 : Int32) then (if v1 = (3 : Int32) then 1 else 0) else (if v0 = (4 : Int32) then (if v1 = (3 : Int32) then 1 else 0) else (if v0 = (10 : Int32) then (if v1 = (3 : Int32) then 1 else 0) else (if v1 = (3 : Int32) then 1 else (if v1 = (4 : Int32) then 1 else 0))))))) from (by rw [if_pos c3, if_pos c14])), by rw [ht]; exact hP9, va_K.moved hW.alike hK9, hD9⟩, hS.F ht⟩) hS.2.2 d_PictureFile_canBe_22
  · refine lv_iload_n hx hb d_PictureFile_canBe_6 rfl (lv_at hl 0 rfl) ?_
    refine lv_bipush (v := 9) hx hb d_PictureFile_canBe_7 (by decide) ?_
    refine lv_icmp_ne (tgt := 23) hx hb d_PictureFile_canBe_9 (by decide) (fun c9 => ?_) (fun c9 => ?_)
    · refine lv_iload_n hx hb d_PictureFile_canBe_23 rfl (lv_at hl 0 rfl) ?_
      refine lv_iconst (v := 2) hx hb d_PictureFile_canBe_24 (by decide) ?_
      refine lv_icmp_eq (tgt := 44) hx hb d_PictureFile_canBe_25 (by decide) (fun c25 => ?_) (fun c25 => ?_)
      · refine lv_iload_n hx hb d_PictureFile_canBe_44 rfl (lv_at hl 1 rfl) ?_
        refine lv_iconst (v := 3) hx hb d_PictureFile_canBe_45 (by decide) ?_
        refine lv_icmp_ne (tgt := 53) hx hb d_PictureFile_canBe_46 (by decide) (fun c46 => ?_) (fun c46 => ?_)
        · refine lv_iconst (v := 0) hx hb d_PictureFile_canBe_53 (by decide) ?_
          have hP9 := hP.sub (ws' := []) [] rfl
          have hD9 := hD.sub (ws' := []) [] (by decide) rfl
          have hK9 := hK.sub (tys' := []) [] rfl
          exact W.zret (v := 0) hx hb hr (by decide) (fun t ht hW => ⟨⟨0, (), rfl, (show (0 : Int32) = if v0 = (8 : Int32) then (if v1 = (5 : Int32) then 1 else 0) else (if v0 = (9 : Int32) then (if v1 = (5 : Int32) then 1 else 0) else (if v0 = (2 : Int32) then (if v1 = (3 : Int32) then 1 else 0) else (if v0 = (3 : Int32) then (if v1 = (3 : Int32) then 1 else 0) else (if v0 = (4 : Int32) then (if v1 = (3 : Int32) then 1 else 0) else (if v0 = (10 : Int32) then (if v1 = (3 : Int32) then 1 else 0) else (if v1 = (3 : Int32) then 1 else (if v1 = (4 : Int32) then 1 else 0))))))) from (by rw [if_neg c3, if_neg c9, if_pos c25, if_neg c46])), by rw [ht]; exact hP9, va_K.moved hW.alike hK9, hD9⟩, hS.F ht⟩) hS.2.2 d_PictureFile_canBe_54
        · refine lv_iconst (v := 1) hx hb d_PictureFile_canBe_49 (by decide) ?_
          refine lv_goto (tgt := 54) hx hb d_PictureFile_canBe_50 (by decide) ?_
          have hP9 := hP.sub (ws' := []) [] rfl
          have hD9 := hD.sub (ws' := []) [] (by decide) rfl
          have hK9 := hK.sub (tys' := []) [] rfl
          exact W.zret (v := 1) hx hb hr (by decide) (fun t ht hW => ⟨⟨1, (), rfl, (show (1 : Int32) = if v0 = (8 : Int32) then (if v1 = (5 : Int32) then 1 else 0) else (if v0 = (9 : Int32) then (if v1 = (5 : Int32) then 1 else 0) else (if v0 = (2 : Int32) then (if v1 = (3 : Int32) then 1 else 0) else (if v0 = (3 : Int32) then (if v1 = (3 : Int32) then 1 else 0) else (if v0 = (4 : Int32) then (if v1 = (3 : Int32) then 1 else 0) else (if v0 = (10 : Int32) then (if v1 = (3 : Int32) then 1 else 0) else (if v1 = (3 : Int32) then 1 else (if v1 = (4 : Int32) then 1 else 0))))))) from (by rw [if_neg c3, if_neg c9, if_pos c25, if_pos c46])), by rw [ht]; exact hP9, va_K.moved hW.alike hK9, hD9⟩, hS.F ht⟩) hS.2.2 d_PictureFile_canBe_54
      · refine lv_iload_n hx hb d_PictureFile_canBe_28 rfl (lv_at hl 0 rfl) ?_
        refine lv_iconst (v := 3) hx hb d_PictureFile_canBe_29 (by decide) ?_
        refine lv_icmp_eq (tgt := 44) hx hb d_PictureFile_canBe_30 (by decide) (fun c30 => ?_) (fun c30 => ?_)
        · refine lv_iload_n hx hb d_PictureFile_canBe_44 rfl (lv_at hl 1 rfl) ?_
          refine lv_iconst (v := 3) hx hb d_PictureFile_canBe_45 (by decide) ?_
          refine lv_icmp_ne (tgt := 53) hx hb d_PictureFile_canBe_46 (by decide) (fun c46 => ?_) (fun c46 => ?_)
          · refine lv_iconst (v := 0) hx hb d_PictureFile_canBe_53 (by decide) ?_
            have hP9 := hP.sub (ws' := []) [] rfl
            have hD9 := hD.sub (ws' := []) [] (by decide) rfl
            have hK9 := hK.sub (tys' := []) [] rfl
            exact W.zret (v := 0) hx hb hr (by decide) (fun t ht hW => ⟨⟨0, (), rfl, (show (0 : Int32) = if v0 = (8 : Int32) then (if v1 = (5 : Int32) then 1 else 0) else (if v0 = (9 : Int32) then (if v1 = (5 : Int32) then 1 else 0) else (if v0 = (2 : Int32) then (if v1 = (3 : Int32) then 1 else 0) else (if v0 = (3 : Int32) then (if v1 = (3 : Int32) then 1 else 0) else (if v0 = (4 : Int32) then (if v1 = (3 : Int32) then 1 else 0) else (if v0 = (10 : Int32) then (if v1 = (3 : Int32) then 1 else 0) else (if v1 = (3 : Int32) then 1 else (if v1 = (4 : Int32) then 1 else 0))))))) from (by rw [if_neg c3, if_neg c9, if_neg c25, if_pos c30, if_neg c46])), by rw [ht]; exact hP9, va_K.moved hW.alike hK9, hD9⟩, hS.F ht⟩) hS.2.2 d_PictureFile_canBe_54
          · refine lv_iconst (v := 1) hx hb d_PictureFile_canBe_49 (by decide) ?_
            refine lv_goto (tgt := 54) hx hb d_PictureFile_canBe_50 (by decide) ?_
            have hP9 := hP.sub (ws' := []) [] rfl
            have hD9 := hD.sub (ws' := []) [] (by decide) rfl
            have hK9 := hK.sub (tys' := []) [] rfl
            exact W.zret (v := 1) hx hb hr (by decide) (fun t ht hW => ⟨⟨1, (), rfl, (show (1 : Int32) = if v0 = (8 : Int32) then (if v1 = (5 : Int32) then 1 else 0) else (if v0 = (9 : Int32) then (if v1 = (5 : Int32) then 1 else 0) else (if v0 = (2 : Int32) then (if v1 = (3 : Int32) then 1 else 0) else (if v0 = (3 : Int32) then (if v1 = (3 : Int32) then 1 else 0) else (if v0 = (4 : Int32) then (if v1 = (3 : Int32) then 1 else 0) else (if v0 = (10 : Int32) then (if v1 = (3 : Int32) then 1 else 0) else (if v1 = (3 : Int32) then 1 else (if v1 = (4 : Int32) then 1 else 0))))))) from (by rw [if_neg c3, if_neg c9, if_neg c25, if_pos c30, if_pos c46])), by rw [ht]; exact hP9, va_K.moved hW.alike hK9, hD9⟩, hS.F ht⟩) hS.2.2 d_PictureFile_canBe_54
        · refine lv_iload_n hx hb d_PictureFile_canBe_33 rfl (lv_at hl 0 rfl) ?_
          refine lv_iconst (v := 4) hx hb d_PictureFile_canBe_34 (by decide) ?_
          refine lv_icmp_eq (tgt := 44) hx hb d_PictureFile_canBe_35 (by decide) (fun c35 => ?_) (fun c35 => ?_)
          · refine lv_iload_n hx hb d_PictureFile_canBe_44 rfl (lv_at hl 1 rfl) ?_
            refine lv_iconst (v := 3) hx hb d_PictureFile_canBe_45 (by decide) ?_
            refine lv_icmp_ne (tgt := 53) hx hb d_PictureFile_canBe_46 (by decide) (fun c46 => ?_) (fun c46 => ?_)
            · refine lv_iconst (v := 0) hx hb d_PictureFile_canBe_53 (by decide) ?_
              have hP9 := hP.sub (ws' := []) [] rfl
              have hD9 := hD.sub (ws' := []) [] (by decide) rfl
              have hK9 := hK.sub (tys' := []) [] rfl
              exact W.zret (v := 0) hx hb hr (by decide) (fun t ht hW => ⟨⟨0, (), rfl, (show (0 : Int32) = if v0 = (8 : Int32) then (if v1 = (5 : Int32) then 1 else 0) else (if v0 = (9 : Int32) then (if v1 = (5 : Int32) then 1 else 0) else (if v0 = (2 : Int32) then (if v1 = (3 : Int32) then 1 else 0) else (if v0 = (3 : Int32) then (if v1 = (3 : Int32) then 1 else 0) else (if v0 = (4 : Int32) then (if v1 = (3 : Int32) then 1 else 0) else (if v0 = (10 : Int32) then (if v1 = (3 : Int32) then 1 else 0) else (if v1 = (3 : Int32) then 1 else (if v1 = (4 : Int32) then 1 else 0))))))) from (by rw [if_neg c3, if_neg c9, if_neg c25, if_neg c30, if_pos c35, if_neg c46])), by rw [ht]; exact hP9, va_K.moved hW.alike hK9, hD9⟩, hS.F ht⟩) hS.2.2 d_PictureFile_canBe_54
            · refine lv_iconst (v := 1) hx hb d_PictureFile_canBe_49 (by decide) ?_
              refine lv_goto (tgt := 54) hx hb d_PictureFile_canBe_50 (by decide) ?_
              have hP9 := hP.sub (ws' := []) [] rfl
              have hD9 := hD.sub (ws' := []) [] (by decide) rfl
              have hK9 := hK.sub (tys' := []) [] rfl
              exact W.zret (v := 1) hx hb hr (by decide) (fun t ht hW => ⟨⟨1, (), rfl, (show (1 : Int32) = if v0 = (8 : Int32) then (if v1 = (5 : Int32) then 1 else 0) else (if v0 = (9 : Int32) then (if v1 = (5 : Int32) then 1 else 0) else (if v0 = (2 : Int32) then (if v1 = (3 : Int32) then 1 else 0) else (if v0 = (3 : Int32) then (if v1 = (3 : Int32) then 1 else 0) else (if v0 = (4 : Int32) then (if v1 = (3 : Int32) then 1 else 0) else (if v0 = (10 : Int32) then (if v1 = (3 : Int32) then 1 else 0) else (if v1 = (3 : Int32) then 1 else (if v1 = (4 : Int32) then 1 else 0))))))) from (by rw [if_neg c3, if_neg c9, if_neg c25, if_neg c30, if_pos c35, if_pos c46])), by rw [ht]; exact hP9, va_K.moved hW.alike hK9, hD9⟩, hS.F ht⟩) hS.2.2 d_PictureFile_canBe_54
          · refine lv_iload_n hx hb d_PictureFile_canBe_38 rfl (lv_at hl 0 rfl) ?_
            refine lv_bipush (v := 10) hx hb d_PictureFile_canBe_39 (by decide) ?_
            refine lv_icmp_ne (tgt := 55) hx hb d_PictureFile_canBe_41 (by decide) (fun c41 => ?_) (fun c41 => ?_)
            · refine lv_iload_n hx hb d_PictureFile_canBe_55 rfl (lv_at hl 1 rfl) ?_
              refine lv_iconst (v := 3) hx hb d_PictureFile_canBe_56 (by decide) ?_
              refine lv_icmp_eq (tgt := 65) hx hb d_PictureFile_canBe_57 (by decide) (fun c57 => ?_) (fun c57 => ?_)
              · refine lv_iconst (v := 1) hx hb d_PictureFile_canBe_65 (by decide) ?_
                refine lv_goto (tgt := 70) hx hb d_PictureFile_canBe_66 (by decide) ?_
                have hP9 := hP.sub (ws' := []) [] rfl
                have hD9 := hD.sub (ws' := []) [] (by decide) rfl
                have hK9 := hK.sub (tys' := []) [] rfl
                exact W.zret (v := 1) hx hb hr (by decide) (fun t ht hW => ⟨⟨1, (), rfl, (show (1 : Int32) = if v0 = (8 : Int32) then (if v1 = (5 : Int32) then 1 else 0) else (if v0 = (9 : Int32) then (if v1 = (5 : Int32) then 1 else 0) else (if v0 = (2 : Int32) then (if v1 = (3 : Int32) then 1 else 0) else (if v0 = (3 : Int32) then (if v1 = (3 : Int32) then 1 else 0) else (if v0 = (4 : Int32) then (if v1 = (3 : Int32) then 1 else 0) else (if v0 = (10 : Int32) then (if v1 = (3 : Int32) then 1 else 0) else (if v1 = (3 : Int32) then 1 else (if v1 = (4 : Int32) then 1 else 0))))))) from (by rw [if_neg c3, if_neg c9, if_neg c25, if_neg c30, if_neg c35, if_neg c41, if_pos c57])), by rw [ht]; exact hP9, va_K.moved hW.alike hK9, hD9⟩, hS.F ht⟩) hS.2.2 d_PictureFile_canBe_70
              · refine lv_iload_n hx hb d_PictureFile_canBe_60 rfl (lv_at hl 1 rfl) ?_
                refine lv_iconst (v := 4) hx hb d_PictureFile_canBe_61 (by decide) ?_
                refine lv_icmp_ne (tgt := 69) hx hb d_PictureFile_canBe_62 (by decide) (fun c62 => ?_) (fun c62 => ?_)
                · refine lv_iconst (v := 0) hx hb d_PictureFile_canBe_69 (by decide) ?_
                  have hP9 := hP.sub (ws' := []) [] rfl
                  have hD9 := hD.sub (ws' := []) [] (by decide) rfl
                  have hK9 := hK.sub (tys' := []) [] rfl
                  exact W.zret (v := 0) hx hb hr (by decide) (fun t ht hW => ⟨⟨0, (), rfl, (show (0 : Int32) = if v0 = (8 : Int32) then (if v1 = (5 : Int32) then 1 else 0) else (if v0 = (9 : Int32) then (if v1 = (5 : Int32) then 1 else 0) else (if v0 = (2 : Int32) then (if v1 = (3 : Int32) then 1 else 0) else (if v0 = (3 : Int32) then (if v1 = (3 : Int32) then 1 else 0) else (if v0 = (4 : Int32) then (if v1 = (3 : Int32) then 1 else 0) else (if v0 = (10 : Int32) then (if v1 = (3 : Int32) then 1 else 0) else (if v1 = (3 : Int32) then 1 else (if v1 = (4 : Int32) then 1 else 0))))))) from (by rw [if_neg c3, if_neg c9, if_neg c25, if_neg c30, if_neg c35, if_neg c41, if_neg c57, if_neg c62])), by rw [ht]; exact hP9, va_K.moved hW.alike hK9, hD9⟩, hS.F ht⟩) hS.2.2 d_PictureFile_canBe_70
                · refine lv_iconst (v := 1) hx hb d_PictureFile_canBe_65 (by decide) ?_
                  refine lv_goto (tgt := 70) hx hb d_PictureFile_canBe_66 (by decide) ?_
                  have hP9 := hP.sub (ws' := []) [] rfl
                  have hD9 := hD.sub (ws' := []) [] (by decide) rfl
                  have hK9 := hK.sub (tys' := []) [] rfl
                  exact W.zret (v := 1) hx hb hr (by decide) (fun t ht hW => ⟨⟨1, (), rfl, (show (1 : Int32) = if v0 = (8 : Int32) then (if v1 = (5 : Int32) then 1 else 0) else (if v0 = (9 : Int32) then (if v1 = (5 : Int32) then 1 else 0) else (if v0 = (2 : Int32) then (if v1 = (3 : Int32) then 1 else 0) else (if v0 = (3 : Int32) then (if v1 = (3 : Int32) then 1 else 0) else (if v0 = (4 : Int32) then (if v1 = (3 : Int32) then 1 else 0) else (if v0 = (10 : Int32) then (if v1 = (3 : Int32) then 1 else 0) else (if v1 = (3 : Int32) then 1 else (if v1 = (4 : Int32) then 1 else 0))))))) from (by rw [if_neg c3, if_neg c9, if_neg c25, if_neg c30, if_neg c35, if_neg c41, if_neg c57, if_pos c62])), by rw [ht]; exact hP9, va_K.moved hW.alike hK9, hD9⟩, hS.F ht⟩) hS.2.2 d_PictureFile_canBe_70
            · refine lv_iload_n hx hb d_PictureFile_canBe_44 rfl (lv_at hl 1 rfl) ?_
              refine lv_iconst (v := 3) hx hb d_PictureFile_canBe_45 (by decide) ?_
              refine lv_icmp_ne (tgt := 53) hx hb d_PictureFile_canBe_46 (by decide) (fun c46 => ?_) (fun c46 => ?_)
              · refine lv_iconst (v := 0) hx hb d_PictureFile_canBe_53 (by decide) ?_
                have hP9 := hP.sub (ws' := []) [] rfl
                have hD9 := hD.sub (ws' := []) [] (by decide) rfl
                have hK9 := hK.sub (tys' := []) [] rfl
                exact W.zret (v := 0) hx hb hr (by decide) (fun t ht hW => ⟨⟨0, (), rfl, (show (0 : Int32) = if v0 = (8 : Int32) then (if v1 = (5 : Int32) then 1 else 0) else (if v0 = (9 : Int32) then (if v1 = (5 : Int32) then 1 else 0) else (if v0 = (2 : Int32) then (if v1 = (3 : Int32) then 1 else 0) else (if v0 = (3 : Int32) then (if v1 = (3 : Int32) then 1 else 0) else (if v0 = (4 : Int32) then (if v1 = (3 : Int32) then 1 else 0) else (if v0 = (10 : Int32) then (if v1 = (3 : Int32) then 1 else 0) else (if v1 = (3 : Int32) then 1 else (if v1 = (4 : Int32) then 1 else 0))))))) from (by rw [if_neg c3, if_neg c9, if_neg c25, if_neg c30, if_neg c35, if_pos c41, if_neg c46])), by rw [ht]; exact hP9, va_K.moved hW.alike hK9, hD9⟩, hS.F ht⟩) hS.2.2 d_PictureFile_canBe_54
              · refine lv_iconst (v := 1) hx hb d_PictureFile_canBe_49 (by decide) ?_
                refine lv_goto (tgt := 54) hx hb d_PictureFile_canBe_50 (by decide) ?_
                have hP9 := hP.sub (ws' := []) [] rfl
                have hD9 := hD.sub (ws' := []) [] (by decide) rfl
                have hK9 := hK.sub (tys' := []) [] rfl
                exact W.zret (v := 1) hx hb hr (by decide) (fun t ht hW => ⟨⟨1, (), rfl, (show (1 : Int32) = if v0 = (8 : Int32) then (if v1 = (5 : Int32) then 1 else 0) else (if v0 = (9 : Int32) then (if v1 = (5 : Int32) then 1 else 0) else (if v0 = (2 : Int32) then (if v1 = (3 : Int32) then 1 else 0) else (if v0 = (3 : Int32) then (if v1 = (3 : Int32) then 1 else 0) else (if v0 = (4 : Int32) then (if v1 = (3 : Int32) then 1 else 0) else (if v0 = (10 : Int32) then (if v1 = (3 : Int32) then 1 else 0) else (if v1 = (3 : Int32) then 1 else (if v1 = (4 : Int32) then 1 else 0))))))) from (by rw [if_neg c3, if_neg c9, if_neg c25, if_neg c30, if_neg c35, if_pos c41, if_pos c46])), by rw [ht]; exact hP9, va_K.moved hW.alike hK9, hD9⟩, hS.F ht⟩) hS.2.2 d_PictureFile_canBe_54
    · refine lv_iload_n hx hb d_PictureFile_canBe_12 rfl (lv_at hl 1 rfl) ?_
      refine lv_iconst (v := 5) hx hb d_PictureFile_canBe_13 (by decide) ?_
      refine lv_icmp_ne (tgt := 21) hx hb d_PictureFile_canBe_14 (by decide) (fun c14 => ?_) (fun c14 => ?_)
      · refine lv_iconst (v := 0) hx hb d_PictureFile_canBe_21 (by decide) ?_
        have hP9 := hP.sub (ws' := []) [] rfl
        have hD9 := hD.sub (ws' := []) [] (by decide) rfl
        have hK9 := hK.sub (tys' := []) [] rfl
        exact W.zret (v := 0) hx hb hr (by decide) (fun t ht hW => ⟨⟨0, (), rfl, (show (0 : Int32) = if v0 = (8 : Int32) then (if v1 = (5 : Int32) then 1 else 0) else (if v0 = (9 : Int32) then (if v1 = (5 : Int32) then 1 else 0) else (if v0 = (2 : Int32) then (if v1 = (3 : Int32) then 1 else 0) else (if v0 = (3 : Int32) then (if v1 = (3 : Int32) then 1 else 0) else (if v0 = (4 : Int32) then (if v1 = (3 : Int32) then 1 else 0) else (if v0 = (10 : Int32) then (if v1 = (3 : Int32) then 1 else 0) else (if v1 = (3 : Int32) then 1 else (if v1 = (4 : Int32) then 1 else 0))))))) from (by rw [if_neg c3, if_pos c9, if_neg c14])), by rw [ht]; exact hP9, va_K.moved hW.alike hK9, hD9⟩, hS.F ht⟩) hS.2.2 d_PictureFile_canBe_22
      · refine lv_iconst (v := 1) hx hb d_PictureFile_canBe_17 (by decide) ?_
        refine lv_goto (tgt := 22) hx hb d_PictureFile_canBe_18 (by decide) ?_
        have hP9 := hP.sub (ws' := []) [] rfl
        have hD9 := hD.sub (ws' := []) [] (by decide) rfl
        have hK9 := hK.sub (tys' := []) [] rfl
        exact W.zret (v := 1) hx hb hr (by decide) (fun t ht hW => ⟨⟨1, (), rfl, (show (1 : Int32) = if v0 = (8 : Int32) then (if v1 = (5 : Int32) then 1 else 0) else (if v0 = (9 : Int32) then (if v1 = (5 : Int32) then 1 else 0) else (if v0 = (2 : Int32) then (if v1 = (3 : Int32) then 1 else 0) else (if v0 = (3 : Int32) then (if v1 = (3 : Int32) then 1 else 0) else (if v0 = (4 : Int32) then (if v1 = (3 : Int32) then 1 else 0) else (if v0 = (10 : Int32) then (if v1 = (3 : Int32) then 1 else 0) else (if v1 = (3 : Int32) then 1 else (if v1 = (4 : Int32) then 1 else 0))))))) from (by rw [if_neg c3, if_pos c9, if_pos c14])), by rw [ht]; exact hP9, va_K.moved hW.alike hK9, hD9⟩, hS.F ht⟩) hS.2.2 d_PictureFile_canBe_22

abbrev at_g_Raster_setResolution (dC : Nat → ClassId) (dI : Nat → Nat → Nat) (h0 : Nat) (o_dpi : Int32) (o_open : Int32) (o_x : Int32) (o_y : Int32) (o_scale : Int32) (o_row : Int32) (o_width : Int32) (o_height : Int32) (o_rowBytes : Int32) (o_seed : Nat) (o_resolution : Int32) (o_method : Int32) (o_nextWidth : Int32) (o_nextHeight : Int32) (v0 : Int32) (A : Nat → Prop) (u : Int32) (t : State) : Prop := match u with
  | z0 => va_P (dC, dI) vcl [(h0, .inr (11, [.int o_dpi, .int o_open, .int o_x, .int o_y, .int o_scale, .int o_row, .int o_width, .int o_height, .int o_rowBytes, .ref o_seed, .int z0, .int o_method, .int o_nextWidth, .int o_nextHeight]))] t.heap ∧ va_K (dC, dI) vcl [] t ∧ va_D A [(h0, .inr (11, [.int o_dpi, .int o_open, .int o_x, .int o_y, .int o_scale, .int o_row, .int o_width, .int o_height, .int o_rowBytes, .ref o_seed, .int z0, .int o_method, .int o_nextWidth, .int o_nextHeight]))]
abbrev po_g_Raster_setResolution (h0 : Nat) (o_dpi : Int32) (o_open : Int32) (o_x : Int32) (o_y : Int32) (o_scale : Int32) (o_row : Int32) (o_width : Int32) (o_height : Int32) (o_rowBytes : Int32) (o_seed : Nat) (o_resolution : Int32) (o_method : Int32) (o_nextWidth : Int32) (o_nextHeight : Int32) (v0 : Int32) (u : Int32) : Prop := match u with
  | z0 => z0 = if o_open = (0 : Int32) then (if v0 = (75 : Int32) then v0 else (if v0 = (100 : Int32) then v0 else (if v0 = (150 : Int32) then v0 else (if v0 = (300 : Int32) then v0 else o_resolution)))) else o_resolution
abbrev q_g_Raster_setResolution (dC : Nat → ClassId) (dI : Nat → Nat → Nat) (h0 : Nat) (o_dpi : Int32) (o_open : Int32) (o_x : Int32) (o_y : Int32) (o_scale : Int32) (o_row : Int32) (o_width : Int32) (o_height : Int32) (o_rowBytes : Int32) (o_seed : Nat) (o_resolution : Int32) (o_method : Int32) (o_nextWidth : Int32) (o_nextHeight : Int32) (v0 : Int32) (A : Nat → Prop) : Array Value → State → Outcome → State → Prop := va_Qv (po_g_Raster_setResolution h0 o_dpi o_open o_x o_y o_scale o_row o_width o_height o_rowBytes o_seed o_resolution o_method o_nextWidth o_nextHeight v0) (at_g_Raster_setResolution dC dI h0 o_dpi o_open o_x o_y o_scale o_row o_width o_height o_rowBytes o_seed o_resolution o_method o_nextWidth o_nextHeight v0 A) A
abbrev rm_g_Raster_setResolution : Room := { frames := 0, cells := 0, slots := 0, locals := 0 }
set_option maxHeartbeats 4000000 in
set_option maxRecDepth 100000 in
theorem g_Raster_setResolution (l : Launch) (dC : Nat → ClassId) (dI : Nat → Nat → Nat) (tt : Nat → Nat) (h0 : Nat) (o_dpi : Int32) (o_open : Int32) (o_x : Int32) (o_y : Int32) (o_scale : Int32) (o_row : Int32) (o_width : Int32) (o_height : Int32) (o_rowBytes : Int32) (o_seed : Nat) (o_resolution : Int32) (o_method : Int32) (o_nextWidth : Int32) (o_nextHeight : Int32) (v0 : Int32) (sz : Nat)  : Met l y_Raster_setResolution w_Raster_setResolution rm_g_Raster_setResolution (va_Pc [.ref h0, .int v0] (fun U => U.heap.size = sz ∧ va_P (dC, dI) vcl [(h0, .inr (11, [.int o_dpi, .int o_open, .int o_x, .int o_y, .int o_scale, .int o_row, .int o_width, .int o_height, .int o_rowBytes, .ref o_seed, .int o_resolution, .int o_method, .int o_nextWidth, .int o_nextHeight]))] U.heap ∧ va_K (dC, dI) vcl [] U ∧ va_D (fun _ => True) [(h0, .inr (11, [.int o_dpi, .int o_open, .int o_x, .int o_y, .int o_scale, .int o_row, .int o_width, .int o_height, .int o_rowBytes, .ref o_seed, .int o_resolution, .int o_method, .int o_nextWidth, .int o_nextHeight]))] ∧ SF tt (va_A [(h0, .inr (11, [.int o_dpi, .int o_open, .int o_x, .int o_y, .int o_scale, .int o_row, .int o_width, .int o_height, .int o_rowBytes, .ref o_seed, .int o_resolution, .int o_method, .int o_nextWidth, .int o_nextHeight]))] sz) U U.heap)) (q_g_Raster_setResolution dC dI h0 o_dpi o_open o_x o_y o_scale o_row o_width o_height o_rowBytes o_seed o_resolution o_method o_nextWidth o_nextHeight v0 (va_A [(h0, .inr (11, [.int o_dpi, .int o_open, .int o_x, .int o_y, .int o_scale, .int o_row, .int o_width, .int o_height, .int o_rowBytes, .ref o_seed, .int o_resolution, .int o_method, .int o_nextWidth, .int o_nextHeight]))] sz)) 0 0 (va_A [(h0, .inr (11, [.int o_dpi, .int o_open, .int o_x, .int o_y, .int o_scale, .int o_row, .int o_width, .int o_height, .int o_rowBytes, .ref o_seed, .int o_resolution, .int o_method, .int o_nextWidth, .int o_nextHeight]))] sz) := by
  refine Met.ofW (cc := b_Raster_setResolution) (maxL := 2) (ret := none) (by decide) rfl ?_
  intro p e s m args below meth c s₁ B hml hv
  obtain ⟨rfl, hsz, hP, hK, hD0, hF⟩ := hv
  have hx := B.exec
  have hb := B.bytes
  have hr := B.returns
  have hwd : ∀ w ∈ gT, w.before _ s = true := fun w h => atoms_spec (ws := w_Raster_setResolution) B.pre w (List.mem_cons_of_mem _ h)
  have hown : s.vm.findClass R_Raster = some m.cls := findClass_of_methodNamed B.named
  have hlocks := B.notSynchronized
  subst hsz
  have hD := hD0.self (sz := s.heap.size)
  generalize hAe : va_A [(h0, .inr (11, [.int o_dpi, .int o_open, .int o_x, .int o_y, .int o_scale, .int o_row, .int o_width, .int o_height, .int o_rowBytes, .ref o_seed, .int o_resolution, .int o_method, .int o_nextWidth, .int o_nextHeight]))] s.heap.size = A at hD hF ⊢
  have hA : ∀ q : Nat, s.heap.size ≤ q → A q := fun q h => by rw [← hAe]; exact Or.inr h
  have hS : va_S A s.heap s.heap [] := va_S.rf
  have hP : va_P (dC, dI) vcl [(h0, .inr (11, [.int o_dpi, .int o_open, .int o_x, .int o_y, .int o_scale, .int o_row, .int o_width, .int o_height, .int o_rowBytes, .ref o_seed, .int o_resolution, .int o_method, .int o_nextWidth, .int o_nextHeight]))] s.heap := hP
  have hl := lv_entry ([.ref h0, .int v0]) (n := 2) (Nat.le_of_ble_eq_true rfl)
  rw [lg_entry_eq]
  generalize (lg_sl ([.ref h0, .int v0]) ++ List.replicate (2 - (lg_sl ([.ref h0, .int v0])).length) Slot.unset).toArray = ls at hl ⊢
  have hl : lv_has ls 2 [(0, .ref h0), (1, .int v0)] := hl
  refine lv_aload_n hx hb d_Raster_setResolution_0 rfl (lv_at hl 0 rfl) ?_
  refine va_get (D := (dC, dI)) (ci := 11) (v := .int o_open) (C := R_Raster) (T := F_Raster) (N := 14) hx hb hwd i_Raster hown hK hP 0 rfl rfl 1 (by decide) (hwd _ wd_2_230) (fun _ h9 => h9) rfl d_Raster_setResolution_1 ?_
  refine lv_if_ne (tgt := 38) hx hb d_Raster_setResolution_4 (by decide) (fun c4 => ?_) (fun c4 => ?_)
  · have hP9 := hP.sub (ws' := [(h0, .inr (11, [.int o_dpi, .int o_open, .int o_x, .int o_y, .int o_scale, .int o_row, .int o_width, .int o_height, .int o_rowBytes, .ref o_seed, .int o_resolution, .int o_method, .int o_nextWidth, .int o_nextHeight]))]) [0] rfl
    have hD9 := hD.sub (ws' := [(h0, .inr (11, [.int o_dpi, .int o_open, .int o_x, .int o_y, .int o_scale, .int o_row, .int o_width, .int o_height, .int o_rowBytes, .ref o_seed, .int o_resolution, .int o_method, .int o_nextWidth, .int o_nextHeight]))]) [0] (by decide) rfl
    have hK9 := hK.sub (tys' := []) [] rfl
    exact W.vret hx hb hr (fun t ht hW => ⟨⟨(o_resolution), rfl, (show (o_resolution : Int32) = if o_open = (0 : Int32) then (if v0 = (75 : Int32) then v0 else (if v0 = (100 : Int32) then v0 else (if v0 = (150 : Int32) then v0 else (if v0 = (300 : Int32) then v0 else o_resolution)))) else o_resolution from (by rw [if_neg c4])), by rw [ht]; exact hP9, va_K.moved hW.alike hK9, hD9⟩, hS.F ht⟩) hS.2.2 d_Raster_setResolution_38
  · refine lv_iload_n hx hb d_Raster_setResolution_7 rfl (lv_at hl 1 rfl) ?_
    refine lv_bipush (v := 75) hx hb d_Raster_setResolution_8 (by decide) ?_
    refine lv_icmp_eq (tgt := 33) hx hb d_Raster_setResolution_10 (by decide) (fun c10 => ?_) (fun c10 => ?_)
    · refine lv_aload_n hx hb d_Raster_setResolution_33 rfl (lv_at hl 0 rfl) ?_
      refine lv_iload_n hx hb d_Raster_setResolution_34 rfl (lv_at hl 1 rfl) ?_
      refine va_put (D := (dC, dI)) (ci := 11) (v := .int v0) (ty := .int) (C := R_Raster) (T := F_Raster) (N := 14) hx hb hwd i_Raster t_Raster to_Raster no_Raster hown hK hP hD hS 0 rfl rfl 10 (by decide) (hwd _ wd_3_8) (fun _ h9 => h9) rfl (by decide +kernel) rfl rfl (Nat.le_of_ble_eq_true rfl) d_Raster_setResolution_35 ?_
      clear hP hD hS
      intro H locs hP hD hS
      replace hP : va_P (dC, dI) vcl [(h0, .inr (11, [.int o_dpi, .int o_open, .int o_x, .int o_y, .int o_scale, .int o_row, .int o_width, .int o_height, .int o_rowBytes, .ref o_seed, .int v0, .int o_method, .int o_nextWidth, .int o_nextHeight]))] H := hP
      replace hD : va_D A [(h0, .inr (11, [.int o_dpi, .int o_open, .int o_x, .int o_y, .int o_scale, .int o_row, .int o_width, .int o_height, .int o_rowBytes, .ref o_seed, .int v0, .int o_method, .int o_nextWidth, .int o_nextHeight]))] := hD
      have hP9 := hP.sub (ws' := [(h0, .inr (11, [.int o_dpi, .int o_open, .int o_x, .int o_y, .int o_scale, .int o_row, .int o_width, .int o_height, .int o_rowBytes, .ref o_seed, .int v0, .int o_method, .int o_nextWidth, .int o_nextHeight]))]) [0] rfl
      have hD9 := hD.sub (ws' := [(h0, .inr (11, [.int o_dpi, .int o_open, .int o_x, .int o_y, .int o_scale, .int o_row, .int o_width, .int o_height, .int o_rowBytes, .ref o_seed, .int v0, .int o_method, .int o_nextWidth, .int o_nextHeight]))]) [0] (by decide) rfl
      have hK9 := hK.sub (tys' := []) [] rfl
      exact W.vret hx hb hr (fun t ht hW => ⟨⟨(v0), rfl, (show (v0 : Int32) = if o_open = (0 : Int32) then (if v0 = (75 : Int32) then v0 else (if v0 = (100 : Int32) then v0 else (if v0 = (150 : Int32) then v0 else (if v0 = (300 : Int32) then v0 else o_resolution)))) else o_resolution from (by rw [if_pos c4, if_pos c10])), by rw [ht]; exact hP9, va_K.moved hW.alike hK9, hD9⟩, hS.F ht⟩) hS.2.2 d_Raster_setResolution_38
    · refine lv_iload_n hx hb d_Raster_setResolution_13 rfl (lv_at hl 1 rfl) ?_
      refine lv_bipush (v := 100) hx hb d_Raster_setResolution_14 (by decide) ?_
      refine lv_icmp_eq (tgt := 33) hx hb d_Raster_setResolution_16 (by decide) (fun c16 => ?_) (fun c16 => ?_)
      · refine lv_aload_n hx hb d_Raster_setResolution_33 rfl (lv_at hl 0 rfl) ?_
        refine lv_iload_n hx hb d_Raster_setResolution_34 rfl (lv_at hl 1 rfl) ?_
        refine va_put (D := (dC, dI)) (ci := 11) (v := .int v0) (ty := .int) (C := R_Raster) (T := F_Raster) (N := 14) hx hb hwd i_Raster t_Raster to_Raster no_Raster hown hK hP hD hS 0 rfl rfl 10 (by decide) (hwd _ wd_3_8) (fun _ h9 => h9) rfl (by decide +kernel) rfl rfl (Nat.le_of_ble_eq_true rfl) d_Raster_setResolution_35 ?_
        clear hP hD hS
        intro H locs hP hD hS
        replace hP : va_P (dC, dI) vcl [(h0, .inr (11, [.int o_dpi, .int o_open, .int o_x, .int o_y, .int o_scale, .int o_row, .int o_width, .int o_height, .int o_rowBytes, .ref o_seed, .int v0, .int o_method, .int o_nextWidth, .int o_nextHeight]))] H := hP
        replace hD : va_D A [(h0, .inr (11, [.int o_dpi, .int o_open, .int o_x, .int o_y, .int o_scale, .int o_row, .int o_width, .int o_height, .int o_rowBytes, .ref o_seed, .int v0, .int o_method, .int o_nextWidth, .int o_nextHeight]))] := hD
        have hP9 := hP.sub (ws' := [(h0, .inr (11, [.int o_dpi, .int o_open, .int o_x, .int o_y, .int o_scale, .int o_row, .int o_width, .int o_height, .int o_rowBytes, .ref o_seed, .int v0, .int o_method, .int o_nextWidth, .int o_nextHeight]))]) [0] rfl
        have hD9 := hD.sub (ws' := [(h0, .inr (11, [.int o_dpi, .int o_open, .int o_x, .int o_y, .int o_scale, .int o_row, .int o_width, .int o_height, .int o_rowBytes, .ref o_seed, .int v0, .int o_method, .int o_nextWidth, .int o_nextHeight]))]) [0] (by decide) rfl
        have hK9 := hK.sub (tys' := []) [] rfl
        exact W.vret hx hb hr (fun t ht hW => ⟨⟨(v0), rfl, (show (v0 : Int32) = if o_open = (0 : Int32) then (if v0 = (75 : Int32) then v0 else (if v0 = (100 : Int32) then v0 else (if v0 = (150 : Int32) then v0 else (if v0 = (300 : Int32) then v0 else o_resolution)))) else o_resolution from (by rw [if_pos c4, if_neg c10, if_pos c16])), by rw [ht]; exact hP9, va_K.moved hW.alike hK9, hD9⟩, hS.F ht⟩) hS.2.2 d_Raster_setResolution_38
      · refine lv_iload_n hx hb d_Raster_setResolution_19 rfl (lv_at hl 1 rfl) ?_
        refine lv_sipush (v := 150) hx hb d_Raster_setResolution_20 (by decide) ?_
        refine lv_icmp_eq (tgt := 33) hx hb d_Raster_setResolution_23 (by decide) (fun c23 => ?_) (fun c23 => ?_)
        · refine lv_aload_n hx hb d_Raster_setResolution_33 rfl (lv_at hl 0 rfl) ?_
          refine lv_iload_n hx hb d_Raster_setResolution_34 rfl (lv_at hl 1 rfl) ?_
          refine va_put (D := (dC, dI)) (ci := 11) (v := .int v0) (ty := .int) (C := R_Raster) (T := F_Raster) (N := 14) hx hb hwd i_Raster t_Raster to_Raster no_Raster hown hK hP hD hS 0 rfl rfl 10 (by decide) (hwd _ wd_3_8) (fun _ h9 => h9) rfl (by decide +kernel) rfl rfl (Nat.le_of_ble_eq_true rfl) d_Raster_setResolution_35 ?_
          clear hP hD hS
          intro H locs hP hD hS
          replace hP : va_P (dC, dI) vcl [(h0, .inr (11, [.int o_dpi, .int o_open, .int o_x, .int o_y, .int o_scale, .int o_row, .int o_width, .int o_height, .int o_rowBytes, .ref o_seed, .int v0, .int o_method, .int o_nextWidth, .int o_nextHeight]))] H := hP
          replace hD : va_D A [(h0, .inr (11, [.int o_dpi, .int o_open, .int o_x, .int o_y, .int o_scale, .int o_row, .int o_width, .int o_height, .int o_rowBytes, .ref o_seed, .int v0, .int o_method, .int o_nextWidth, .int o_nextHeight]))] := hD
          have hP9 := hP.sub (ws' := [(h0, .inr (11, [.int o_dpi, .int o_open, .int o_x, .int o_y, .int o_scale, .int o_row, .int o_width, .int o_height, .int o_rowBytes, .ref o_seed, .int v0, .int o_method, .int o_nextWidth, .int o_nextHeight]))]) [0] rfl
          have hD9 := hD.sub (ws' := [(h0, .inr (11, [.int o_dpi, .int o_open, .int o_x, .int o_y, .int o_scale, .int o_row, .int o_width, .int o_height, .int o_rowBytes, .ref o_seed, .int v0, .int o_method, .int o_nextWidth, .int o_nextHeight]))]) [0] (by decide) rfl
          have hK9 := hK.sub (tys' := []) [] rfl
          exact W.vret hx hb hr (fun t ht hW => ⟨⟨(v0), rfl, (show (v0 : Int32) = if o_open = (0 : Int32) then (if v0 = (75 : Int32) then v0 else (if v0 = (100 : Int32) then v0 else (if v0 = (150 : Int32) then v0 else (if v0 = (300 : Int32) then v0 else o_resolution)))) else o_resolution from (by rw [if_pos c4, if_neg c10, if_neg c16, if_pos c23])), by rw [ht]; exact hP9, va_K.moved hW.alike hK9, hD9⟩, hS.F ht⟩) hS.2.2 d_Raster_setResolution_38
        · refine lv_iload_n hx hb d_Raster_setResolution_26 rfl (lv_at hl 1 rfl) ?_
          refine lv_sipush (v := 300) hx hb d_Raster_setResolution_27 (by decide) ?_
          refine lv_icmp_ne (tgt := 38) hx hb d_Raster_setResolution_30 (by decide) (fun c30 => ?_) (fun c30 => ?_)
          · have hP9 := hP.sub (ws' := [(h0, .inr (11, [.int o_dpi, .int o_open, .int o_x, .int o_y, .int o_scale, .int o_row, .int o_width, .int o_height, .int o_rowBytes, .ref o_seed, .int o_resolution, .int o_method, .int o_nextWidth, .int o_nextHeight]))]) [0] rfl
            have hD9 := hD.sub (ws' := [(h0, .inr (11, [.int o_dpi, .int o_open, .int o_x, .int o_y, .int o_scale, .int o_row, .int o_width, .int o_height, .int o_rowBytes, .ref o_seed, .int o_resolution, .int o_method, .int o_nextWidth, .int o_nextHeight]))]) [0] (by decide) rfl
            have hK9 := hK.sub (tys' := []) [] rfl
            exact W.vret hx hb hr (fun t ht hW => ⟨⟨(o_resolution), rfl, (show (o_resolution : Int32) = if o_open = (0 : Int32) then (if v0 = (75 : Int32) then v0 else (if v0 = (100 : Int32) then v0 else (if v0 = (150 : Int32) then v0 else (if v0 = (300 : Int32) then v0 else o_resolution)))) else o_resolution from (by rw [if_pos c4, if_neg c10, if_neg c16, if_neg c23, if_neg c30])), by rw [ht]; exact hP9, va_K.moved hW.alike hK9, hD9⟩, hS.F ht⟩) hS.2.2 d_Raster_setResolution_38
          · refine lv_aload_n hx hb d_Raster_setResolution_33 rfl (lv_at hl 0 rfl) ?_
            refine lv_iload_n hx hb d_Raster_setResolution_34 rfl (lv_at hl 1 rfl) ?_
            refine va_put (D := (dC, dI)) (ci := 11) (v := .int v0) (ty := .int) (C := R_Raster) (T := F_Raster) (N := 14) hx hb hwd i_Raster t_Raster to_Raster no_Raster hown hK hP hD hS 0 rfl rfl 10 (by decide) (hwd _ wd_3_8) (fun _ h9 => h9) rfl (by decide +kernel) rfl rfl (Nat.le_of_ble_eq_true rfl) d_Raster_setResolution_35 ?_
            clear hP hD hS
            intro H locs hP hD hS
            replace hP : va_P (dC, dI) vcl [(h0, .inr (11, [.int o_dpi, .int o_open, .int o_x, .int o_y, .int o_scale, .int o_row, .int o_width, .int o_height, .int o_rowBytes, .ref o_seed, .int v0, .int o_method, .int o_nextWidth, .int o_nextHeight]))] H := hP
            replace hD : va_D A [(h0, .inr (11, [.int o_dpi, .int o_open, .int o_x, .int o_y, .int o_scale, .int o_row, .int o_width, .int o_height, .int o_rowBytes, .ref o_seed, .int v0, .int o_method, .int o_nextWidth, .int o_nextHeight]))] := hD
            have hP9 := hP.sub (ws' := [(h0, .inr (11, [.int o_dpi, .int o_open, .int o_x, .int o_y, .int o_scale, .int o_row, .int o_width, .int o_height, .int o_rowBytes, .ref o_seed, .int v0, .int o_method, .int o_nextWidth, .int o_nextHeight]))]) [0] rfl
            have hD9 := hD.sub (ws' := [(h0, .inr (11, [.int o_dpi, .int o_open, .int o_x, .int o_y, .int o_scale, .int o_row, .int o_width, .int o_height, .int o_rowBytes, .ref o_seed, .int v0, .int o_method, .int o_nextWidth, .int o_nextHeight]))]) [0] (by decide) rfl
            have hK9 := hK.sub (tys' := []) [] rfl
            exact W.vret hx hb hr (fun t ht hW => ⟨⟨(v0), rfl, (show (v0 : Int32) = if o_open = (0 : Int32) then (if v0 = (75 : Int32) then v0 else (if v0 = (100 : Int32) then v0 else (if v0 = (150 : Int32) then v0 else (if v0 = (300 : Int32) then v0 else o_resolution)))) else o_resolution from (by rw [if_pos c4, if_neg c10, if_neg c16, if_neg c23, if_pos c30])), by rw [ht]; exact hP9, va_K.moved hW.alike hK9, hD9⟩, hS.F ht⟩) hS.2.2 d_Raster_setResolution_38

abbrev at_g_Raster_setNextWidth (dC : Nat → ClassId) (dI : Nat → Nat → Nat) (h0 : Nat) (o_dpi : Int32) (o_open : Int32) (o_x : Int32) (o_y : Int32) (o_scale : Int32) (o_row : Int32) (o_width : Int32) (o_height : Int32) (o_rowBytes : Int32) (o_seed : Nat) (o_resolution : Int32) (o_method : Int32) (o_nextWidth : Int32) (o_nextHeight : Int32) (v0 : Int32) (A : Nat → Prop) (u : Int32) (t : State) : Prop := match u with
  | z0 => va_P (dC, dI) vcl [(h0, .inr (11, [.int o_dpi, .int o_open, .int o_x, .int o_y, .int o_scale, .int o_row, .int o_width, .int o_height, .int o_rowBytes, .ref o_seed, .int o_resolution, .int o_method, .int z0, .int o_nextHeight]))] t.heap ∧ va_K (dC, dI) vcl [] t ∧ va_D A [(h0, .inr (11, [.int o_dpi, .int o_open, .int o_x, .int o_y, .int o_scale, .int o_row, .int o_width, .int o_height, .int o_rowBytes, .ref o_seed, .int o_resolution, .int o_method, .int z0, .int o_nextHeight]))]
abbrev po_g_Raster_setNextWidth (h0 : Nat) (o_dpi : Int32) (o_open : Int32) (o_x : Int32) (o_y : Int32) (o_scale : Int32) (o_row : Int32) (o_width : Int32) (o_height : Int32) (o_rowBytes : Int32) (o_seed : Nat) (o_resolution : Int32) (o_method : Int32) (o_nextWidth : Int32) (o_nextHeight : Int32) (v0 : Int32) (u : Int32) : Prop := match u with
  | z0 => z0 = if (5119 : Int32) < v0 then o_nextWidth else v0
abbrev q_g_Raster_setNextWidth (dC : Nat → ClassId) (dI : Nat → Nat → Nat) (h0 : Nat) (o_dpi : Int32) (o_open : Int32) (o_x : Int32) (o_y : Int32) (o_scale : Int32) (o_row : Int32) (o_width : Int32) (o_height : Int32) (o_rowBytes : Int32) (o_seed : Nat) (o_resolution : Int32) (o_method : Int32) (o_nextWidth : Int32) (o_nextHeight : Int32) (v0 : Int32) (A : Nat → Prop) : Array Value → State → Outcome → State → Prop := va_Qv (po_g_Raster_setNextWidth h0 o_dpi o_open o_x o_y o_scale o_row o_width o_height o_rowBytes o_seed o_resolution o_method o_nextWidth o_nextHeight v0) (at_g_Raster_setNextWidth dC dI h0 o_dpi o_open o_x o_y o_scale o_row o_width o_height o_rowBytes o_seed o_resolution o_method o_nextWidth o_nextHeight v0 A) A
abbrev rm_g_Raster_setNextWidth : Room := { frames := 0, cells := 0, slots := 0, locals := 0 }
set_option maxHeartbeats 4000000 in
set_option maxRecDepth 100000 in
theorem g_Raster_setNextWidth (l : Launch) (dC : Nat → ClassId) (dI : Nat → Nat → Nat) (tt : Nat → Nat) (h0 : Nat) (o_dpi : Int32) (o_open : Int32) (o_x : Int32) (o_y : Int32) (o_scale : Int32) (o_row : Int32) (o_width : Int32) (o_height : Int32) (o_rowBytes : Int32) (o_seed : Nat) (o_resolution : Int32) (o_method : Int32) (o_nextWidth : Int32) (o_nextHeight : Int32) (v0 : Int32) (sz : Nat)  : Met l y_Raster_setNextWidth w_Raster_setNextWidth rm_g_Raster_setNextWidth (va_Pc [.ref h0, .int v0] (fun U => U.heap.size = sz ∧ va_P (dC, dI) vcl [(h0, .inr (11, [.int o_dpi, .int o_open, .int o_x, .int o_y, .int o_scale, .int o_row, .int o_width, .int o_height, .int o_rowBytes, .ref o_seed, .int o_resolution, .int o_method, .int o_nextWidth, .int o_nextHeight]))] U.heap ∧ va_K (dC, dI) vcl [] U ∧ va_D (fun _ => True) [(h0, .inr (11, [.int o_dpi, .int o_open, .int o_x, .int o_y, .int o_scale, .int o_row, .int o_width, .int o_height, .int o_rowBytes, .ref o_seed, .int o_resolution, .int o_method, .int o_nextWidth, .int o_nextHeight]))] ∧ SF tt (va_A [(h0, .inr (11, [.int o_dpi, .int o_open, .int o_x, .int o_y, .int o_scale, .int o_row, .int o_width, .int o_height, .int o_rowBytes, .ref o_seed, .int o_resolution, .int o_method, .int o_nextWidth, .int o_nextHeight]))] sz) U U.heap)) (q_g_Raster_setNextWidth dC dI h0 o_dpi o_open o_x o_y o_scale o_row o_width o_height o_rowBytes o_seed o_resolution o_method o_nextWidth o_nextHeight v0 (va_A [(h0, .inr (11, [.int o_dpi, .int o_open, .int o_x, .int o_y, .int o_scale, .int o_row, .int o_width, .int o_height, .int o_rowBytes, .ref o_seed, .int o_resolution, .int o_method, .int o_nextWidth, .int o_nextHeight]))] sz)) 0 0 (va_A [(h0, .inr (11, [.int o_dpi, .int o_open, .int o_x, .int o_y, .int o_scale, .int o_row, .int o_width, .int o_height, .int o_rowBytes, .ref o_seed, .int o_resolution, .int o_method, .int o_nextWidth, .int o_nextHeight]))] sz) := by
  refine Met.ofW (cc := b_Raster_setNextWidth) (maxL := 2) (ret := none) (by decide) rfl ?_
  intro p e s m args below meth c s₁ B hml hv
  obtain ⟨rfl, hsz, hP, hK, hD0, hF⟩ := hv
  have hx := B.exec
  have hb := B.bytes
  have hr := B.returns
  have hwd : ∀ w ∈ gT, w.before _ s = true := fun w h => atoms_spec (ws := w_Raster_setNextWidth) B.pre w (List.mem_cons_of_mem _ h)
  have hown : s.vm.findClass R_Raster = some m.cls := findClass_of_methodNamed B.named
  have hlocks := B.notSynchronized
  subst hsz
  have hD := hD0.self (sz := s.heap.size)
  generalize hAe : va_A [(h0, .inr (11, [.int o_dpi, .int o_open, .int o_x, .int o_y, .int o_scale, .int o_row, .int o_width, .int o_height, .int o_rowBytes, .ref o_seed, .int o_resolution, .int o_method, .int o_nextWidth, .int o_nextHeight]))] s.heap.size = A at hD hF ⊢
  have hA : ∀ q : Nat, s.heap.size ≤ q → A q := fun q h => by rw [← hAe]; exact Or.inr h
  have hS : va_S A s.heap s.heap [] := va_S.rf
  have hP : va_P (dC, dI) vcl [(h0, .inr (11, [.int o_dpi, .int o_open, .int o_x, .int o_y, .int o_scale, .int o_row, .int o_width, .int o_height, .int o_rowBytes, .ref o_seed, .int o_resolution, .int o_method, .int o_nextWidth, .int o_nextHeight]))] s.heap := hP
  have hl := lv_entry ([.ref h0, .int v0]) (n := 2) (Nat.le_of_ble_eq_true rfl)
  rw [lg_entry_eq]
  generalize (lg_sl ([.ref h0, .int v0]) ++ List.replicate (2 - (lg_sl ([.ref h0, .int v0])).length) Slot.unset).toArray = ls at hl ⊢
  have hl : lv_has ls 2 [(0, .ref h0), (1, .int v0)] := hl
  refine lv_aload_n hx hb d_Raster_setNextWidth_0 rfl (lv_at hl 0 rfl) ?_
  refine lv_iload_n hx hb d_Raster_setNextWidth_1 rfl (lv_at hl 1 rfl) ?_
  refine lv_sipush (v := 5119) hx hb d_Raster_setNextWidth_2 (by decide) ?_
  refine lv_icmp_gt (tgt := 12) hx hb d_Raster_setNextWidth_5 (by decide) (fun c5 => ?_) (fun c5 => ?_)
  · refine lv_aload_n hx hb d_Raster_setNextWidth_12 rfl (lv_at hl 0 rfl) ?_
    refine va_get (D := (dC, dI)) (ci := 11) (v := .int o_nextWidth) (C := R_Raster) (T := F_Raster) (N := 14) hx hb hwd i_Raster hown hK hP 0 rfl rfl 12 (by decide) (hwd _ wd_3_10) (fun _ h9 => h9) rfl d_Raster_setNextWidth_13 ?_
    refine va_put (D := (dC, dI)) (ci := 11) (v := .int o_nextWidth) (ty := .int) (C := R_Raster) (T := F_Raster) (N := 14) hx hb hwd i_Raster t_Raster to_Raster no_Raster hown hK hP hD hS 0 rfl rfl 12 (by decide) (hwd _ wd_3_10) (fun _ h9 => h9) rfl (by decide +kernel) rfl rfl (Nat.le_of_ble_eq_true rfl) d_Raster_setNextWidth_16 ?_
    clear hP hD hS
    intro H locs hP hD hS
    replace hP : va_P (dC, dI) vcl [(h0, .inr (11, [.int o_dpi, .int o_open, .int o_x, .int o_y, .int o_scale, .int o_row, .int o_width, .int o_height, .int o_rowBytes, .ref o_seed, .int o_resolution, .int o_method, .int o_nextWidth, .int o_nextHeight]))] H := hP
    replace hD : va_D A [(h0, .inr (11, [.int o_dpi, .int o_open, .int o_x, .int o_y, .int o_scale, .int o_row, .int o_width, .int o_height, .int o_rowBytes, .ref o_seed, .int o_resolution, .int o_method, .int o_nextWidth, .int o_nextHeight]))] := hD
    have hP9 := hP.sub (ws' := [(h0, .inr (11, [.int o_dpi, .int o_open, .int o_x, .int o_y, .int o_scale, .int o_row, .int o_width, .int o_height, .int o_rowBytes, .ref o_seed, .int o_resolution, .int o_method, .int o_nextWidth, .int o_nextHeight]))]) [0] rfl
    have hD9 := hD.sub (ws' := [(h0, .inr (11, [.int o_dpi, .int o_open, .int o_x, .int o_y, .int o_scale, .int o_row, .int o_width, .int o_height, .int o_rowBytes, .ref o_seed, .int o_resolution, .int o_method, .int o_nextWidth, .int o_nextHeight]))]) [0] (by decide) rfl
    have hK9 := hK.sub (tys' := []) [] rfl
    exact W.vret hx hb hr (fun t ht hW => ⟨⟨(o_nextWidth), rfl, (show (o_nextWidth : Int32) = if (5119 : Int32) < v0 then o_nextWidth else v0 from (by rw [if_pos c5])), by rw [ht]; exact hP9, va_K.moved hW.alike hK9, hD9⟩, hS.F ht⟩) hS.2.2 d_Raster_setNextWidth_19
  · refine lv_iload_n hx hb d_Raster_setNextWidth_8 rfl (lv_at hl 1 rfl) ?_
    refine lv_goto (tgt := 16) hx hb d_Raster_setNextWidth_9 (by decide) ?_
    refine va_put (D := (dC, dI)) (ci := 11) (v := .int v0) (ty := .int) (C := R_Raster) (T := F_Raster) (N := 14) hx hb hwd i_Raster t_Raster to_Raster no_Raster hown hK hP hD hS 0 rfl rfl 12 (by decide) (hwd _ wd_3_10) (fun _ h9 => h9) rfl (by decide +kernel) rfl rfl (Nat.le_of_ble_eq_true rfl) d_Raster_setNextWidth_16 ?_
    clear hP hD hS
    intro H locs hP hD hS
    replace hP : va_P (dC, dI) vcl [(h0, .inr (11, [.int o_dpi, .int o_open, .int o_x, .int o_y, .int o_scale, .int o_row, .int o_width, .int o_height, .int o_rowBytes, .ref o_seed, .int o_resolution, .int o_method, .int v0, .int o_nextHeight]))] H := hP
    replace hD : va_D A [(h0, .inr (11, [.int o_dpi, .int o_open, .int o_x, .int o_y, .int o_scale, .int o_row, .int o_width, .int o_height, .int o_rowBytes, .ref o_seed, .int o_resolution, .int o_method, .int v0, .int o_nextHeight]))] := hD
    have hP9 := hP.sub (ws' := [(h0, .inr (11, [.int o_dpi, .int o_open, .int o_x, .int o_y, .int o_scale, .int o_row, .int o_width, .int o_height, .int o_rowBytes, .ref o_seed, .int o_resolution, .int o_method, .int v0, .int o_nextHeight]))]) [0] rfl
    have hD9 := hD.sub (ws' := [(h0, .inr (11, [.int o_dpi, .int o_open, .int o_x, .int o_y, .int o_scale, .int o_row, .int o_width, .int o_height, .int o_rowBytes, .ref o_seed, .int o_resolution, .int o_method, .int v0, .int o_nextHeight]))]) [0] (by decide) rfl
    have hK9 := hK.sub (tys' := []) [] rfl
    exact W.vret hx hb hr (fun t ht hW => ⟨⟨(v0), rfl, (show (v0 : Int32) = if (5119 : Int32) < v0 then o_nextWidth else v0 from (by rw [if_neg c5])), by rw [ht]; exact hP9, va_K.moved hW.alike hK9, hD9⟩, hS.F ht⟩) hS.2.2 d_Raster_setNextWidth_19

abbrev at_g_Raster_setNextHeight (dC : Nat → ClassId) (dI : Nat → Nat → Nat) (h0 : Nat) (o_dpi : Int32) (o_open : Int32) (o_x : Int32) (o_y : Int32) (o_scale : Int32) (o_row : Int32) (o_width : Int32) (o_height : Int32) (o_rowBytes : Int32) (o_seed : Nat) (o_resolution : Int32) (o_method : Int32) (o_nextWidth : Int32) (o_nextHeight : Int32) (v0 : Int32) (A : Nat → Prop) (u : Int32) (t : State) : Prop := match u with
  | z0 => va_P (dC, dI) vcl [(h0, .inr (11, [.int o_dpi, .int o_open, .int o_x, .int o_y, .int o_scale, .int o_row, .int o_width, .int o_height, .int o_rowBytes, .ref o_seed, .int o_resolution, .int o_method, .int o_nextWidth, .int z0]))] t.heap ∧ va_K (dC, dI) vcl [] t ∧ va_D A [(h0, .inr (11, [.int o_dpi, .int o_open, .int o_x, .int o_y, .int o_scale, .int o_row, .int o_width, .int o_height, .int o_rowBytes, .ref o_seed, .int o_resolution, .int o_method, .int o_nextWidth, .int z0]))]
abbrev po_g_Raster_setNextHeight (h0 : Nat) (o_dpi : Int32) (o_open : Int32) (o_x : Int32) (o_y : Int32) (o_scale : Int32) (o_row : Int32) (o_width : Int32) (o_height : Int32) (o_rowBytes : Int32) (o_seed : Nat) (o_resolution : Int32) (o_method : Int32) (o_nextWidth : Int32) (o_nextHeight : Int32) (v0 : Int32) (u : Int32) : Prop := match u with
  | z0 => z0 = if (5119 : Int32) < v0 then o_nextHeight else v0
abbrev q_g_Raster_setNextHeight (dC : Nat → ClassId) (dI : Nat → Nat → Nat) (h0 : Nat) (o_dpi : Int32) (o_open : Int32) (o_x : Int32) (o_y : Int32) (o_scale : Int32) (o_row : Int32) (o_width : Int32) (o_height : Int32) (o_rowBytes : Int32) (o_seed : Nat) (o_resolution : Int32) (o_method : Int32) (o_nextWidth : Int32) (o_nextHeight : Int32) (v0 : Int32) (A : Nat → Prop) : Array Value → State → Outcome → State → Prop := va_Qv (po_g_Raster_setNextHeight h0 o_dpi o_open o_x o_y o_scale o_row o_width o_height o_rowBytes o_seed o_resolution o_method o_nextWidth o_nextHeight v0) (at_g_Raster_setNextHeight dC dI h0 o_dpi o_open o_x o_y o_scale o_row o_width o_height o_rowBytes o_seed o_resolution o_method o_nextWidth o_nextHeight v0 A) A
abbrev rm_g_Raster_setNextHeight : Room := { frames := 0, cells := 0, slots := 0, locals := 0 }
set_option maxHeartbeats 4000000 in
set_option maxRecDepth 100000 in
theorem g_Raster_setNextHeight (l : Launch) (dC : Nat → ClassId) (dI : Nat → Nat → Nat) (tt : Nat → Nat) (h0 : Nat) (o_dpi : Int32) (o_open : Int32) (o_x : Int32) (o_y : Int32) (o_scale : Int32) (o_row : Int32) (o_width : Int32) (o_height : Int32) (o_rowBytes : Int32) (o_seed : Nat) (o_resolution : Int32) (o_method : Int32) (o_nextWidth : Int32) (o_nextHeight : Int32) (v0 : Int32) (sz : Nat)  : Met l y_Raster_setNextHeight w_Raster_setNextHeight rm_g_Raster_setNextHeight (va_Pc [.ref h0, .int v0] (fun U => U.heap.size = sz ∧ va_P (dC, dI) vcl [(h0, .inr (11, [.int o_dpi, .int o_open, .int o_x, .int o_y, .int o_scale, .int o_row, .int o_width, .int o_height, .int o_rowBytes, .ref o_seed, .int o_resolution, .int o_method, .int o_nextWidth, .int o_nextHeight]))] U.heap ∧ va_K (dC, dI) vcl [] U ∧ va_D (fun _ => True) [(h0, .inr (11, [.int o_dpi, .int o_open, .int o_x, .int o_y, .int o_scale, .int o_row, .int o_width, .int o_height, .int o_rowBytes, .ref o_seed, .int o_resolution, .int o_method, .int o_nextWidth, .int o_nextHeight]))] ∧ SF tt (va_A [(h0, .inr (11, [.int o_dpi, .int o_open, .int o_x, .int o_y, .int o_scale, .int o_row, .int o_width, .int o_height, .int o_rowBytes, .ref o_seed, .int o_resolution, .int o_method, .int o_nextWidth, .int o_nextHeight]))] sz) U U.heap)) (q_g_Raster_setNextHeight dC dI h0 o_dpi o_open o_x o_y o_scale o_row o_width o_height o_rowBytes o_seed o_resolution o_method o_nextWidth o_nextHeight v0 (va_A [(h0, .inr (11, [.int o_dpi, .int o_open, .int o_x, .int o_y, .int o_scale, .int o_row, .int o_width, .int o_height, .int o_rowBytes, .ref o_seed, .int o_resolution, .int o_method, .int o_nextWidth, .int o_nextHeight]))] sz)) 0 0 (va_A [(h0, .inr (11, [.int o_dpi, .int o_open, .int o_x, .int o_y, .int o_scale, .int o_row, .int o_width, .int o_height, .int o_rowBytes, .ref o_seed, .int o_resolution, .int o_method, .int o_nextWidth, .int o_nextHeight]))] sz) := by
  refine Met.ofW (cc := b_Raster_setNextHeight) (maxL := 2) (ret := none) (by decide) rfl ?_
  intro p e s m args below meth c s₁ B hml hv
  obtain ⟨rfl, hsz, hP, hK, hD0, hF⟩ := hv
  have hx := B.exec
  have hb := B.bytes
  have hr := B.returns
  have hwd : ∀ w ∈ gT, w.before _ s = true := fun w h => atoms_spec (ws := w_Raster_setNextHeight) B.pre w (List.mem_cons_of_mem _ h)
  have hown : s.vm.findClass R_Raster = some m.cls := findClass_of_methodNamed B.named
  have hlocks := B.notSynchronized
  subst hsz
  have hD := hD0.self (sz := s.heap.size)
  generalize hAe : va_A [(h0, .inr (11, [.int o_dpi, .int o_open, .int o_x, .int o_y, .int o_scale, .int o_row, .int o_width, .int o_height, .int o_rowBytes, .ref o_seed, .int o_resolution, .int o_method, .int o_nextWidth, .int o_nextHeight]))] s.heap.size = A at hD hF ⊢
  have hA : ∀ q : Nat, s.heap.size ≤ q → A q := fun q h => by rw [← hAe]; exact Or.inr h
  have hS : va_S A s.heap s.heap [] := va_S.rf
  have hP : va_P (dC, dI) vcl [(h0, .inr (11, [.int o_dpi, .int o_open, .int o_x, .int o_y, .int o_scale, .int o_row, .int o_width, .int o_height, .int o_rowBytes, .ref o_seed, .int o_resolution, .int o_method, .int o_nextWidth, .int o_nextHeight]))] s.heap := hP
  have hl := lv_entry ([.ref h0, .int v0]) (n := 2) (Nat.le_of_ble_eq_true rfl)
  rw [lg_entry_eq]
  generalize (lg_sl ([.ref h0, .int v0]) ++ List.replicate (2 - (lg_sl ([.ref h0, .int v0])).length) Slot.unset).toArray = ls at hl ⊢
  have hl : lv_has ls 2 [(0, .ref h0), (1, .int v0)] := hl
  refine lv_aload_n hx hb d_Raster_setNextHeight_0 rfl (lv_at hl 0 rfl) ?_
  refine lv_iload_n hx hb d_Raster_setNextHeight_1 rfl (lv_at hl 1 rfl) ?_
  refine lv_sipush (v := 5119) hx hb d_Raster_setNextHeight_2 (by decide) ?_
  refine lv_icmp_gt (tgt := 12) hx hb d_Raster_setNextHeight_5 (by decide) (fun c5 => ?_) (fun c5 => ?_)
  · refine lv_aload_n hx hb d_Raster_setNextHeight_12 rfl (lv_at hl 0 rfl) ?_
    refine va_get (D := (dC, dI)) (ci := 11) (v := .int o_nextHeight) (C := R_Raster) (T := F_Raster) (N := 14) hx hb hwd i_Raster hown hK hP 0 rfl rfl 13 (by decide) (hwd _ wd_3_11) (fun _ h9 => h9) rfl d_Raster_setNextHeight_13 ?_
    refine va_put (D := (dC, dI)) (ci := 11) (v := .int o_nextHeight) (ty := .int) (C := R_Raster) (T := F_Raster) (N := 14) hx hb hwd i_Raster t_Raster to_Raster no_Raster hown hK hP hD hS 0 rfl rfl 13 (by decide) (hwd _ wd_3_11) (fun _ h9 => h9) rfl (by decide +kernel) rfl rfl (Nat.le_of_ble_eq_true rfl) d_Raster_setNextHeight_16 ?_
    clear hP hD hS
    intro H locs hP hD hS
    replace hP : va_P (dC, dI) vcl [(h0, .inr (11, [.int o_dpi, .int o_open, .int o_x, .int o_y, .int o_scale, .int o_row, .int o_width, .int o_height, .int o_rowBytes, .ref o_seed, .int o_resolution, .int o_method, .int o_nextWidth, .int o_nextHeight]))] H := hP
    replace hD : va_D A [(h0, .inr (11, [.int o_dpi, .int o_open, .int o_x, .int o_y, .int o_scale, .int o_row, .int o_width, .int o_height, .int o_rowBytes, .ref o_seed, .int o_resolution, .int o_method, .int o_nextWidth, .int o_nextHeight]))] := hD
    have hP9 := hP.sub (ws' := [(h0, .inr (11, [.int o_dpi, .int o_open, .int o_x, .int o_y, .int o_scale, .int o_row, .int o_width, .int o_height, .int o_rowBytes, .ref o_seed, .int o_resolution, .int o_method, .int o_nextWidth, .int o_nextHeight]))]) [0] rfl
    have hD9 := hD.sub (ws' := [(h0, .inr (11, [.int o_dpi, .int o_open, .int o_x, .int o_y, .int o_scale, .int o_row, .int o_width, .int o_height, .int o_rowBytes, .ref o_seed, .int o_resolution, .int o_method, .int o_nextWidth, .int o_nextHeight]))]) [0] (by decide) rfl
    have hK9 := hK.sub (tys' := []) [] rfl
    exact W.vret hx hb hr (fun t ht hW => ⟨⟨(o_nextHeight), rfl, (show (o_nextHeight : Int32) = if (5119 : Int32) < v0 then o_nextHeight else v0 from (by rw [if_pos c5])), by rw [ht]; exact hP9, va_K.moved hW.alike hK9, hD9⟩, hS.F ht⟩) hS.2.2 d_Raster_setNextHeight_19
  · refine lv_iload_n hx hb d_Raster_setNextHeight_8 rfl (lv_at hl 1 rfl) ?_
    refine lv_goto (tgt := 16) hx hb d_Raster_setNextHeight_9 (by decide) ?_
    refine va_put (D := (dC, dI)) (ci := 11) (v := .int v0) (ty := .int) (C := R_Raster) (T := F_Raster) (N := 14) hx hb hwd i_Raster t_Raster to_Raster no_Raster hown hK hP hD hS 0 rfl rfl 13 (by decide) (hwd _ wd_3_11) (fun _ h9 => h9) rfl (by decide +kernel) rfl rfl (Nat.le_of_ble_eq_true rfl) d_Raster_setNextHeight_16 ?_
    clear hP hD hS
    intro H locs hP hD hS
    replace hP : va_P (dC, dI) vcl [(h0, .inr (11, [.int o_dpi, .int o_open, .int o_x, .int o_y, .int o_scale, .int o_row, .int o_width, .int o_height, .int o_rowBytes, .ref o_seed, .int o_resolution, .int o_method, .int o_nextWidth, .int v0]))] H := hP
    replace hD : va_D A [(h0, .inr (11, [.int o_dpi, .int o_open, .int o_x, .int o_y, .int o_scale, .int o_row, .int o_width, .int o_height, .int o_rowBytes, .ref o_seed, .int o_resolution, .int o_method, .int o_nextWidth, .int v0]))] := hD
    have hP9 := hP.sub (ws' := [(h0, .inr (11, [.int o_dpi, .int o_open, .int o_x, .int o_y, .int o_scale, .int o_row, .int o_width, .int o_height, .int o_rowBytes, .ref o_seed, .int o_resolution, .int o_method, .int o_nextWidth, .int v0]))]) [0] rfl
    have hD9 := hD.sub (ws' := [(h0, .inr (11, [.int o_dpi, .int o_open, .int o_x, .int o_y, .int o_scale, .int o_row, .int o_width, .int o_height, .int o_rowBytes, .ref o_seed, .int o_resolution, .int o_method, .int o_nextWidth, .int v0]))]) [0] (by decide) rfl
    have hK9 := hK.sub (tys' := []) [] rfl
    exact W.vret hx hb hr (fun t ht hW => ⟨⟨(v0), rfl, (show (v0 : Int32) = if (5119 : Int32) < v0 then o_nextHeight else v0 from (by rw [if_neg c5])), by rw [ht]; exact hP9, va_K.moved hW.alike hK9, hD9⟩, hS.F ht⟩) hS.2.2 d_Raster_setNextHeight_19

abbrev at_g_Raster_setMethod (dC : Nat → ClassId) (dI : Nat → Nat → Nat) (h0 : Nat) (o_dpi : Int32) (o_open : Int32) (o_x : Int32) (o_y : Int32) (o_scale : Int32) (o_row : Int32) (o_width : Int32) (o_height : Int32) (o_rowBytes : Int32) (o_seed : Nat) (o_resolution : Int32) (o_method : Int32) (o_nextWidth : Int32) (o_nextHeight : Int32) (v0 : Int32) (A : Nat → Prop) (u : Int32) (t : State) : Prop := match u with
  | z0 => va_P (dC, dI) vcl [(h0, .inr (11, [.int o_dpi, .int o_open, .int o_x, .int o_y, .int o_scale, .int o_row, .int o_width, .int o_height, .int o_rowBytes, .ref o_seed, .int o_resolution, .int z0, .int o_nextWidth, .int o_nextHeight]))] t.heap ∧ va_K (dC, dI) vcl [] t ∧ va_D A [(h0, .inr (11, [.int o_dpi, .int o_open, .int o_x, .int o_y, .int o_scale, .int o_row, .int o_width, .int o_height, .int o_rowBytes, .ref o_seed, .int o_resolution, .int z0, .int o_nextWidth, .int o_nextHeight]))]
abbrev po_g_Raster_setMethod (h0 : Nat) (o_dpi : Int32) (o_open : Int32) (o_x : Int32) (o_y : Int32) (o_scale : Int32) (o_row : Int32) (o_width : Int32) (o_height : Int32) (o_rowBytes : Int32) (o_seed : Nat) (o_resolution : Int32) (o_method : Int32) (o_nextWidth : Int32) (o_nextHeight : Int32) (v0 : Int32) (u : Int32) : Prop := match u with
  | z0 => z0 = if v0 < (0 : Int32) then o_method else (if (3 : Int32) < v0 then o_method else v0)
abbrev q_g_Raster_setMethod (dC : Nat → ClassId) (dI : Nat → Nat → Nat) (h0 : Nat) (o_dpi : Int32) (o_open : Int32) (o_x : Int32) (o_y : Int32) (o_scale : Int32) (o_row : Int32) (o_width : Int32) (o_height : Int32) (o_rowBytes : Int32) (o_seed : Nat) (o_resolution : Int32) (o_method : Int32) (o_nextWidth : Int32) (o_nextHeight : Int32) (v0 : Int32) (A : Nat → Prop) : Array Value → State → Outcome → State → Prop := va_Qv (po_g_Raster_setMethod h0 o_dpi o_open o_x o_y o_scale o_row o_width o_height o_rowBytes o_seed o_resolution o_method o_nextWidth o_nextHeight v0) (at_g_Raster_setMethod dC dI h0 o_dpi o_open o_x o_y o_scale o_row o_width o_height o_rowBytes o_seed o_resolution o_method o_nextWidth o_nextHeight v0 A) A
abbrev rm_g_Raster_setMethod : Room := { frames := 0, cells := 0, slots := 0, locals := 0 }
set_option maxHeartbeats 4000000 in
set_option maxRecDepth 100000 in
theorem g_Raster_setMethod (l : Launch) (dC : Nat → ClassId) (dI : Nat → Nat → Nat) (tt : Nat → Nat) (h0 : Nat) (o_dpi : Int32) (o_open : Int32) (o_x : Int32) (o_y : Int32) (o_scale : Int32) (o_row : Int32) (o_width : Int32) (o_height : Int32) (o_rowBytes : Int32) (o_seed : Nat) (o_resolution : Int32) (o_method : Int32) (o_nextWidth : Int32) (o_nextHeight : Int32) (v0 : Int32) (sz : Nat)  : Met l y_Raster_setMethod w_Raster_setMethod rm_g_Raster_setMethod (va_Pc [.ref h0, .int v0] (fun U => U.heap.size = sz ∧ va_P (dC, dI) vcl [(h0, .inr (11, [.int o_dpi, .int o_open, .int o_x, .int o_y, .int o_scale, .int o_row, .int o_width, .int o_height, .int o_rowBytes, .ref o_seed, .int o_resolution, .int o_method, .int o_nextWidth, .int o_nextHeight]))] U.heap ∧ va_K (dC, dI) vcl [] U ∧ va_D (fun _ => True) [(h0, .inr (11, [.int o_dpi, .int o_open, .int o_x, .int o_y, .int o_scale, .int o_row, .int o_width, .int o_height, .int o_rowBytes, .ref o_seed, .int o_resolution, .int o_method, .int o_nextWidth, .int o_nextHeight]))] ∧ SF tt (va_A [(h0, .inr (11, [.int o_dpi, .int o_open, .int o_x, .int o_y, .int o_scale, .int o_row, .int o_width, .int o_height, .int o_rowBytes, .ref o_seed, .int o_resolution, .int o_method, .int o_nextWidth, .int o_nextHeight]))] sz) U U.heap)) (q_g_Raster_setMethod dC dI h0 o_dpi o_open o_x o_y o_scale o_row o_width o_height o_rowBytes o_seed o_resolution o_method o_nextWidth o_nextHeight v0 (va_A [(h0, .inr (11, [.int o_dpi, .int o_open, .int o_x, .int o_y, .int o_scale, .int o_row, .int o_width, .int o_height, .int o_rowBytes, .ref o_seed, .int o_resolution, .int o_method, .int o_nextWidth, .int o_nextHeight]))] sz)) 0 0 (va_A [(h0, .inr (11, [.int o_dpi, .int o_open, .int o_x, .int o_y, .int o_scale, .int o_row, .int o_width, .int o_height, .int o_rowBytes, .ref o_seed, .int o_resolution, .int o_method, .int o_nextWidth, .int o_nextHeight]))] sz) := by
  refine Met.ofW (cc := b_Raster_setMethod) (maxL := 2) (ret := none) (by decide) rfl ?_
  intro p e s m args below meth c s₁ B hml hv
  obtain ⟨rfl, hsz, hP, hK, hD0, hF⟩ := hv
  have hx := B.exec
  have hb := B.bytes
  have hr := B.returns
  have hwd : ∀ w ∈ gT, w.before _ s = true := fun w h => atoms_spec (ws := w_Raster_setMethod) B.pre w (List.mem_cons_of_mem _ h)
  have hown : s.vm.findClass R_Raster = some m.cls := findClass_of_methodNamed B.named
  have hlocks := B.notSynchronized
  subst hsz
  have hD := hD0.self (sz := s.heap.size)
  generalize hAe : va_A [(h0, .inr (11, [.int o_dpi, .int o_open, .int o_x, .int o_y, .int o_scale, .int o_row, .int o_width, .int o_height, .int o_rowBytes, .ref o_seed, .int o_resolution, .int o_method, .int o_nextWidth, .int o_nextHeight]))] s.heap.size = A at hD hF ⊢
  have hA : ∀ q : Nat, s.heap.size ≤ q → A q := fun q h => by rw [← hAe]; exact Or.inr h
  have hS : va_S A s.heap s.heap [] := va_S.rf
  have hP : va_P (dC, dI) vcl [(h0, .inr (11, [.int o_dpi, .int o_open, .int o_x, .int o_y, .int o_scale, .int o_row, .int o_width, .int o_height, .int o_rowBytes, .ref o_seed, .int o_resolution, .int o_method, .int o_nextWidth, .int o_nextHeight]))] s.heap := hP
  have hl := lv_entry ([.ref h0, .int v0]) (n := 2) (Nat.le_of_ble_eq_true rfl)
  rw [lg_entry_eq]
  generalize (lg_sl ([.ref h0, .int v0]) ++ List.replicate (2 - (lg_sl ([.ref h0, .int v0])).length) Slot.unset).toArray = ls at hl ⊢
  have hl : lv_has ls 2 [(0, .ref h0), (1, .int v0)] := hl
  refine lv_aload_n hx hb d_Raster_setMethod_0 rfl (lv_at hl 0 rfl) ?_
  refine lv_iload_n hx hb d_Raster_setMethod_1 rfl (lv_at hl 1 rfl) ?_
  refine lv_if_lt (tgt := 14) hx hb d_Raster_setMethod_2 (by decide) (fun c2 => ?_) (fun c2 => ?_)
  · refine lv_aload_n hx hb d_Raster_setMethod_14 rfl (lv_at hl 0 rfl) ?_
    refine va_get (D := (dC, dI)) (ci := 11) (v := .int o_method) (C := R_Raster) (T := F_Raster) (N := 14) hx hb hwd i_Raster hown hK hP 0 rfl rfl 11 (by decide) (hwd _ wd_3_9) (fun _ h9 => h9) rfl d_Raster_setMethod_15 ?_
    refine va_put (D := (dC, dI)) (ci := 11) (v := .int o_method) (ty := .int) (C := R_Raster) (T := F_Raster) (N := 14) hx hb hwd i_Raster t_Raster to_Raster no_Raster hown hK hP hD hS 0 rfl rfl 11 (by decide) (hwd _ wd_3_9) (fun _ h9 => h9) rfl (by decide +kernel) rfl rfl (Nat.le_of_ble_eq_true rfl) d_Raster_setMethod_18 ?_
    clear hP hD hS
    intro H locs hP hD hS
    replace hP : va_P (dC, dI) vcl [(h0, .inr (11, [.int o_dpi, .int o_open, .int o_x, .int o_y, .int o_scale, .int o_row, .int o_width, .int o_height, .int o_rowBytes, .ref o_seed, .int o_resolution, .int o_method, .int o_nextWidth, .int o_nextHeight]))] H := hP
    replace hD : va_D A [(h0, .inr (11, [.int o_dpi, .int o_open, .int o_x, .int o_y, .int o_scale, .int o_row, .int o_width, .int o_height, .int o_rowBytes, .ref o_seed, .int o_resolution, .int o_method, .int o_nextWidth, .int o_nextHeight]))] := hD
    have hP9 := hP.sub (ws' := [(h0, .inr (11, [.int o_dpi, .int o_open, .int o_x, .int o_y, .int o_scale, .int o_row, .int o_width, .int o_height, .int o_rowBytes, .ref o_seed, .int o_resolution, .int o_method, .int o_nextWidth, .int o_nextHeight]))]) [0] rfl
    have hD9 := hD.sub (ws' := [(h0, .inr (11, [.int o_dpi, .int o_open, .int o_x, .int o_y, .int o_scale, .int o_row, .int o_width, .int o_height, .int o_rowBytes, .ref o_seed, .int o_resolution, .int o_method, .int o_nextWidth, .int o_nextHeight]))]) [0] (by decide) rfl
    have hK9 := hK.sub (tys' := []) [] rfl
    exact W.vret hx hb hr (fun t ht hW => ⟨⟨(o_method), rfl, (show (o_method : Int32) = if v0 < (0 : Int32) then o_method else (if (3 : Int32) < v0 then o_method else v0) from (by rw [if_pos c2])), by rw [ht]; exact hP9, va_K.moved hW.alike hK9, hD9⟩, hS.F ht⟩) hS.2.2 d_Raster_setMethod_21
  · refine lv_iload_n hx hb d_Raster_setMethod_5 rfl (lv_at hl 1 rfl) ?_
    refine lv_iconst (v := 3) hx hb d_Raster_setMethod_6 (by decide) ?_
    refine lv_icmp_gt (tgt := 14) hx hb d_Raster_setMethod_7 (by decide) (fun c7 => ?_) (fun c7 => ?_)
    · refine lv_aload_n hx hb d_Raster_setMethod_14 rfl (lv_at hl 0 rfl) ?_
      refine va_get (D := (dC, dI)) (ci := 11) (v := .int o_method) (C := R_Raster) (T := F_Raster) (N := 14) hx hb hwd i_Raster hown hK hP 0 rfl rfl 11 (by decide) (hwd _ wd_3_9) (fun _ h9 => h9) rfl d_Raster_setMethod_15 ?_
      refine va_put (D := (dC, dI)) (ci := 11) (v := .int o_method) (ty := .int) (C := R_Raster) (T := F_Raster) (N := 14) hx hb hwd i_Raster t_Raster to_Raster no_Raster hown hK hP hD hS 0 rfl rfl 11 (by decide) (hwd _ wd_3_9) (fun _ h9 => h9) rfl (by decide +kernel) rfl rfl (Nat.le_of_ble_eq_true rfl) d_Raster_setMethod_18 ?_
      clear hP hD hS
      intro H locs hP hD hS
      replace hP : va_P (dC, dI) vcl [(h0, .inr (11, [.int o_dpi, .int o_open, .int o_x, .int o_y, .int o_scale, .int o_row, .int o_width, .int o_height, .int o_rowBytes, .ref o_seed, .int o_resolution, .int o_method, .int o_nextWidth, .int o_nextHeight]))] H := hP
      replace hD : va_D A [(h0, .inr (11, [.int o_dpi, .int o_open, .int o_x, .int o_y, .int o_scale, .int o_row, .int o_width, .int o_height, .int o_rowBytes, .ref o_seed, .int o_resolution, .int o_method, .int o_nextWidth, .int o_nextHeight]))] := hD
      have hP9 := hP.sub (ws' := [(h0, .inr (11, [.int o_dpi, .int o_open, .int o_x, .int o_y, .int o_scale, .int o_row, .int o_width, .int o_height, .int o_rowBytes, .ref o_seed, .int o_resolution, .int o_method, .int o_nextWidth, .int o_nextHeight]))]) [0] rfl
      have hD9 := hD.sub (ws' := [(h0, .inr (11, [.int o_dpi, .int o_open, .int o_x, .int o_y, .int o_scale, .int o_row, .int o_width, .int o_height, .int o_rowBytes, .ref o_seed, .int o_resolution, .int o_method, .int o_nextWidth, .int o_nextHeight]))]) [0] (by decide) rfl
      have hK9 := hK.sub (tys' := []) [] rfl
      exact W.vret hx hb hr (fun t ht hW => ⟨⟨(o_method), rfl, (show (o_method : Int32) = if v0 < (0 : Int32) then o_method else (if (3 : Int32) < v0 then o_method else v0) from (by rw [if_neg c2, if_pos c7])), by rw [ht]; exact hP9, va_K.moved hW.alike hK9, hD9⟩, hS.F ht⟩) hS.2.2 d_Raster_setMethod_21
    · refine lv_iload_n hx hb d_Raster_setMethod_10 rfl (lv_at hl 1 rfl) ?_
      refine lv_goto (tgt := 18) hx hb d_Raster_setMethod_11 (by decide) ?_
      refine va_put (D := (dC, dI)) (ci := 11) (v := .int v0) (ty := .int) (C := R_Raster) (T := F_Raster) (N := 14) hx hb hwd i_Raster t_Raster to_Raster no_Raster hown hK hP hD hS 0 rfl rfl 11 (by decide) (hwd _ wd_3_9) (fun _ h9 => h9) rfl (by decide +kernel) rfl rfl (Nat.le_of_ble_eq_true rfl) d_Raster_setMethod_18 ?_
      clear hP hD hS
      intro H locs hP hD hS
      replace hP : va_P (dC, dI) vcl [(h0, .inr (11, [.int o_dpi, .int o_open, .int o_x, .int o_y, .int o_scale, .int o_row, .int o_width, .int o_height, .int o_rowBytes, .ref o_seed, .int o_resolution, .int v0, .int o_nextWidth, .int o_nextHeight]))] H := hP
      replace hD : va_D A [(h0, .inr (11, [.int o_dpi, .int o_open, .int o_x, .int o_y, .int o_scale, .int o_row, .int o_width, .int o_height, .int o_rowBytes, .ref o_seed, .int o_resolution, .int v0, .int o_nextWidth, .int o_nextHeight]))] := hD
      have hP9 := hP.sub (ws' := [(h0, .inr (11, [.int o_dpi, .int o_open, .int o_x, .int o_y, .int o_scale, .int o_row, .int o_width, .int o_height, .int o_rowBytes, .ref o_seed, .int o_resolution, .int v0, .int o_nextWidth, .int o_nextHeight]))]) [0] rfl
      have hD9 := hD.sub (ws' := [(h0, .inr (11, [.int o_dpi, .int o_open, .int o_x, .int o_y, .int o_scale, .int o_row, .int o_width, .int o_height, .int o_rowBytes, .ref o_seed, .int o_resolution, .int v0, .int o_nextWidth, .int o_nextHeight]))]) [0] (by decide) rfl
      have hK9 := hK.sub (tys' := []) [] rfl
      exact W.vret hx hb hr (fun t ht hW => ⟨⟨(v0), rfl, (show (v0 : Int32) = if v0 < (0 : Int32) then o_method else (if (3 : Int32) < v0 then o_method else v0) from (by rw [if_neg c2, if_neg c7])), by rw [ht]; exact hP9, va_K.moved hW.alike hK9, hD9⟩, hS.F ht⟩) hS.2.2 d_Raster_setMethod_21

abbrev at_g_Raster_close (dC : Nat → ClassId) (dI : Nat → Nat → Nat) (h0 : Nat) (o_dpi : Int32) (o_open : Int32) (o_x : Int32) (o_y : Int32) (o_scale : Int32) (o_row : Int32) (o_width : Int32) (o_height : Int32) (o_rowBytes : Int32) (o_seed : Nat) (o_resolution : Int32) (o_method : Int32) (o_nextWidth : Int32) (o_nextHeight : Int32) (A : Nat → Prop) (u : Int32) (t : State) : Prop := match u with
  | z0 => va_P (dC, dI) vcl [(h0, .inr (11, [.int o_dpi, .int 0, .int o_x, .int o_y, .int o_scale, .int z0, .int o_width, .int o_height, .int o_rowBytes, .ref o_seed, .int o_resolution, .int 0, .int o_nextWidth, .int o_nextHeight]))] t.heap ∧ va_K (dC, dI) vcl [] t ∧ va_D A [(h0, .inr (11, [.int o_dpi, .int 0, .int o_x, .int o_y, .int o_scale, .int z0, .int o_width, .int o_height, .int o_rowBytes, .ref o_seed, .int o_resolution, .int 0, .int o_nextWidth, .int o_nextHeight]))]
abbrev po_g_Raster_close (h0 : Nat) (o_dpi : Int32) (o_open : Int32) (o_x : Int32) (o_y : Int32) (o_scale : Int32) (o_row : Int32) (o_width : Int32) (o_height : Int32) (o_rowBytes : Int32) (o_seed : Nat) (o_resolution : Int32) (o_method : Int32) (o_nextWidth : Int32) (o_nextHeight : Int32) (r : Int32) (u : Int32) : Prop := match u with
  | z0 => (z0 = if o_height = (0 : Int32) then o_row else o_height) ∧ (r = if o_height = (0 : Int32) then (o_scale * o_row) else (o_scale * o_height))
abbrev q_g_Raster_close (dC : Nat → ClassId) (dI : Nat → Nat → Nat) (h0 : Nat) (o_dpi : Int32) (o_open : Int32) (o_x : Int32) (o_y : Int32) (o_scale : Int32) (o_row : Int32) (o_width : Int32) (o_height : Int32) (o_rowBytes : Int32) (o_seed : Nat) (o_resolution : Int32) (o_method : Int32) (o_nextWidth : Int32) (o_nextHeight : Int32) (A : Nat → Prop) : Array Value → State → Outcome → State → Prop := va_Qi (po_g_Raster_close h0 o_dpi o_open o_x o_y o_scale o_row o_width o_height o_rowBytes o_seed o_resolution o_method o_nextWidth o_nextHeight) (at_g_Raster_close dC dI h0 o_dpi o_open o_x o_y o_scale o_row o_width o_height o_rowBytes o_seed o_resolution o_method o_nextWidth o_nextHeight A) A
abbrev rm_g_Raster_close : Room := { frames := 0, cells := 0, slots := 0, locals := 0 }
set_option maxHeartbeats 4000000 in
set_option maxRecDepth 100000 in
theorem g_Raster_close (l : Launch) (dC : Nat → ClassId) (dI : Nat → Nat → Nat) (tt : Nat → Nat) (h0 : Nat) (o_dpi : Int32) (o_open : Int32) (o_x : Int32) (o_y : Int32) (o_scale : Int32) (o_row : Int32) (o_width : Int32) (o_height : Int32) (o_rowBytes : Int32) (o_seed : Nat) (o_resolution : Int32) (o_method : Int32) (o_nextWidth : Int32) (o_nextHeight : Int32) (sz : Nat)  : Met l y_Raster_close w_Raster_close rm_g_Raster_close (va_Pc [.ref h0] (fun U => U.heap.size = sz ∧ va_P (dC, dI) vcl [(h0, .inr (11, [.int o_dpi, .int o_open, .int o_x, .int o_y, .int o_scale, .int o_row, .int o_width, .int o_height, .int o_rowBytes, .ref o_seed, .int o_resolution, .int o_method, .int o_nextWidth, .int o_nextHeight]))] U.heap ∧ va_K (dC, dI) vcl [] U ∧ va_D (fun _ => True) [(h0, .inr (11, [.int o_dpi, .int o_open, .int o_x, .int o_y, .int o_scale, .int o_row, .int o_width, .int o_height, .int o_rowBytes, .ref o_seed, .int o_resolution, .int o_method, .int o_nextWidth, .int o_nextHeight]))] ∧ SF tt (va_A [(h0, .inr (11, [.int o_dpi, .int o_open, .int o_x, .int o_y, .int o_scale, .int o_row, .int o_width, .int o_height, .int o_rowBytes, .ref o_seed, .int o_resolution, .int o_method, .int o_nextWidth, .int o_nextHeight]))] sz) U U.heap)) (q_g_Raster_close dC dI h0 o_dpi o_open o_x o_y o_scale o_row o_width o_height o_rowBytes o_seed o_resolution o_method o_nextWidth o_nextHeight (va_A [(h0, .inr (11, [.int o_dpi, .int o_open, .int o_x, .int o_y, .int o_scale, .int o_row, .int o_width, .int o_height, .int o_rowBytes, .ref o_seed, .int o_resolution, .int o_method, .int o_nextWidth, .int o_nextHeight]))] sz)) 0 0 (va_A [(h0, .inr (11, [.int o_dpi, .int o_open, .int o_x, .int o_y, .int o_scale, .int o_row, .int o_width, .int o_height, .int o_rowBytes, .ref o_seed, .int o_resolution, .int o_method, .int o_nextWidth, .int o_nextHeight]))] sz) := by
  refine Met.ofW (cc := b_Raster_close) (maxL := 1) (ret := (some .int)) (by decide) rfl ?_
  intro p e s m args below meth c s₁ B hml hv
  obtain ⟨rfl, hsz, hP, hK, hD0, hF⟩ := hv
  have hx := B.exec
  have hb := B.bytes
  have hr := B.returns
  have hwd : ∀ w ∈ gT, w.before _ s = true := fun w h => atoms_spec (ws := w_Raster_close) B.pre w (List.mem_cons_of_mem _ h)
  have hown : s.vm.findClass R_Raster = some m.cls := findClass_of_methodNamed B.named
  have hlocks := B.notSynchronized
  subst hsz
  have hD := hD0.self (sz := s.heap.size)
  generalize hAe : va_A [(h0, .inr (11, [.int o_dpi, .int o_open, .int o_x, .int o_y, .int o_scale, .int o_row, .int o_width, .int o_height, .int o_rowBytes, .ref o_seed, .int o_resolution, .int o_method, .int o_nextWidth, .int o_nextHeight]))] s.heap.size = A at hD hF ⊢
  have hA : ∀ q : Nat, s.heap.size ≤ q → A q := fun q h => by rw [← hAe]; exact Or.inr h
  have hS : va_S A s.heap s.heap [] := va_S.rf
  have hP : va_P (dC, dI) vcl [(h0, .inr (11, [.int o_dpi, .int o_open, .int o_x, .int o_y, .int o_scale, .int o_row, .int o_width, .int o_height, .int o_rowBytes, .ref o_seed, .int o_resolution, .int o_method, .int o_nextWidth, .int o_nextHeight]))] s.heap := hP
  have hl := lv_entry ([.ref h0]) (n := 1) (Nat.le_of_ble_eq_true rfl)
  rw [lg_entry_eq]
  generalize (lg_sl ([.ref h0]) ++ List.replicate (1 - (lg_sl ([.ref h0])).length) Slot.unset).toArray = ls at hl ⊢
  have hl : lv_has ls 1 [(0, .ref h0)] := hl
  refine lv_aload_n hx hb d_Raster_close_0 rfl (lv_at hl 0 rfl) ?_
  refine lv_iconst (v := 0) hx hb d_Raster_close_1 (by decide) ?_
  refine va_put (D := (dC, dI)) (ci := 11) (v := .int 0) (ty := .boolean) (C := R_Raster) (T := F_Raster) (N := 14) hx hb hwd i_Raster t_Raster to_Raster no_Raster hown hK hP hD hS 0 rfl rfl 1 (by decide) (hwd _ wd_2_230) (fun _ h9 => h9) rfl (by decide +kernel) (by decide) rfl (Nat.le_of_ble_eq_true rfl) d_Raster_close_2 ?_
  clear hP hD hS
  intro H locs hP hD hS
  replace hP : va_P (dC, dI) vcl [(h0, .inr (11, [.int o_dpi, .int 0, .int o_x, .int o_y, .int o_scale, .int o_row, .int o_width, .int o_height, .int o_rowBytes, .ref o_seed, .int o_resolution, .int o_method, .int o_nextWidth, .int o_nextHeight]))] H := hP
  replace hD : va_D A [(h0, .inr (11, [.int o_dpi, .int 0, .int o_x, .int o_y, .int o_scale, .int o_row, .int o_width, .int o_height, .int o_rowBytes, .ref o_seed, .int o_resolution, .int o_method, .int o_nextWidth, .int o_nextHeight]))] := hD
  refine lv_aload_n hx hb d_Raster_close_5 rfl (lv_at hl 0 rfl) ?_
  refine lv_iconst (v := 0) hx hb d_Raster_close_6 (by decide) ?_
  refine va_put (D := (dC, dI)) (ci := 11) (v := .int 0) (ty := .int) (C := R_Raster) (T := F_Raster) (N := 14) hx hb hwd i_Raster t_Raster to_Raster no_Raster hown hK hP hD hS 0 rfl rfl 11 (by decide) (hwd _ wd_3_9) (fun _ h9 => h9) rfl (by decide +kernel) rfl rfl (Nat.le_of_ble_eq_true rfl) d_Raster_close_7 ?_
  clear hP hD hS
  intro H locs hP hD hS
  replace hP : va_P (dC, dI) vcl [(h0, .inr (11, [.int o_dpi, .int 0, .int o_x, .int o_y, .int o_scale, .int o_row, .int o_width, .int o_height, .int o_rowBytes, .ref o_seed, .int o_resolution, .int 0, .int o_nextWidth, .int o_nextHeight]))] H := hP
  replace hD : va_D A [(h0, .inr (11, [.int o_dpi, .int 0, .int o_x, .int o_y, .int o_scale, .int o_row, .int o_width, .int o_height, .int o_rowBytes, .ref o_seed, .int o_resolution, .int 0, .int o_nextWidth, .int o_nextHeight]))] := hD
  refine lv_aload_n hx hb d_Raster_close_10 rfl (lv_at hl 0 rfl) ?_
  refine lv_aload_n hx hb d_Raster_close_11 rfl (lv_at hl 0 rfl) ?_
  refine va_get (D := (dC, dI)) (ci := 11) (v := .int o_height) (C := R_Raster) (T := F_Raster) (N := 14) hx hb hwd i_Raster hown hK hP 0 rfl rfl 7 (by decide) (hwd _ wd_3_4) (fun _ h9 => h9) rfl d_Raster_close_12 ?_
  refine lv_if_ne (tgt := 25) hx hb d_Raster_close_15 (by decide) (fun c15 => ?_) (fun c15 => ?_)
  · refine lv_aload_n hx hb d_Raster_close_25 rfl (lv_at hl 0 rfl) ?_
    refine va_get (D := (dC, dI)) (ci := 11) (v := .int o_height) (C := R_Raster) (T := F_Raster) (N := 14) hx hb hwd i_Raster hown hK hP 0 rfl rfl 7 (by decide) (hwd _ wd_3_4) (fun _ h9 => h9) rfl d_Raster_close_26 ?_
    refine va_put (D := (dC, dI)) (ci := 11) (v := .int o_height) (ty := .int) (C := R_Raster) (T := F_Raster) (N := 14) hx hb hwd i_Raster t_Raster to_Raster no_Raster hown hK hP hD hS 0 rfl rfl 5 (by decide) (hwd _ wd_3_0) (fun _ h9 => h9) rfl (by decide +kernel) rfl rfl (Nat.le_of_ble_eq_true rfl) d_Raster_close_29 ?_
    clear hP hD hS
    intro H locs hP hD hS
    replace hP : va_P (dC, dI) vcl [(h0, .inr (11, [.int o_dpi, .int 0, .int o_x, .int o_y, .int o_scale, .int o_height, .int o_width, .int o_height, .int o_rowBytes, .ref o_seed, .int o_resolution, .int 0, .int o_nextWidth, .int o_nextHeight]))] H := hP
    replace hD : va_D A [(h0, .inr (11, [.int o_dpi, .int 0, .int o_x, .int o_y, .int o_scale, .int o_height, .int o_width, .int o_height, .int o_rowBytes, .ref o_seed, .int o_resolution, .int 0, .int o_nextWidth, .int o_nextHeight]))] := hD
    refine lv_aload_n hx hb d_Raster_close_32 rfl (lv_at hl 0 rfl) ?_
    refine va_get (D := (dC, dI)) (ci := 11) (v := .int o_scale) (C := R_Raster) (T := F_Raster) (N := 14) hx hb hwd i_Raster hown hK hP 0 rfl rfl 4 (by decide) (hwd _ wd_2_238) (fun _ h9 => h9) rfl d_Raster_close_33 ?_
    refine lv_aload_n hx hb d_Raster_close_36 rfl (lv_at hl 0 rfl) ?_
    refine va_get (D := (dC, dI)) (ci := 11) (v := .int o_height) (C := R_Raster) (T := F_Raster) (N := 14) hx hb hwd i_Raster hown hK hP 0 rfl rfl 5 (by decide) (hwd _ wd_3_0) (fun _ h9 => h9) rfl d_Raster_close_37 ?_
    refine lv_imul hx hb d_Raster_close_40 ?_
    have hP9 := hP.sub (ws' := [(h0, .inr (11, [.int o_dpi, .int 0, .int o_x, .int o_y, .int o_scale, .int o_height, .int o_width, .int o_height, .int o_rowBytes, .ref o_seed, .int o_resolution, .int 0, .int o_nextWidth, .int o_nextHeight]))]) [0] rfl
    have hD9 := hD.sub (ws' := [(h0, .inr (11, [.int o_dpi, .int 0, .int o_x, .int o_y, .int o_scale, .int o_height, .int o_width, .int o_height, .int o_rowBytes, .ref o_seed, .int o_resolution, .int 0, .int o_nextWidth, .int o_nextHeight]))]) [0] (by decide) rfl
    have hK9 := hK.sub (tys' := []) [] rfl
    exact W.iret (v := o_scale * o_height) hx hb hr (fun t ht hW => ⟨⟨(o_scale * o_height), (o_height), rfl, (show ((o_height : Int32) = if o_height = (0 : Int32) then o_row else o_height) ∧ ((o_scale * o_height : Int32) = if o_height = (0 : Int32) then (o_scale * o_row) else (o_scale * o_height)) from (⟨by rw [if_neg c15], by rw [if_neg c15]⟩)), by rw [ht]; exact hP9, va_K.moved hW.alike hK9, hD9⟩, hS.F ht⟩) hS.2.2 d_Raster_close_41
  · refine lv_aload_n hx hb d_Raster_close_18 rfl (lv_at hl 0 rfl) ?_
    refine va_get (D := (dC, dI)) (ci := 11) (v := .int o_row) (C := R_Raster) (T := F_Raster) (N := 14) hx hb hwd i_Raster hown hK hP 0 rfl rfl 5 (by decide) (hwd _ wd_3_0) (fun _ h9 => h9) rfl d_Raster_close_19 ?_
    refine lv_goto (tgt := 29) hx hb d_Raster_close_22 (by decide) ?_
    refine va_put (D := (dC, dI)) (ci := 11) (v := .int o_row) (ty := .int) (C := R_Raster) (T := F_Raster) (N := 14) hx hb hwd i_Raster t_Raster to_Raster no_Raster hown hK hP hD hS 0 rfl rfl 5 (by decide) (hwd _ wd_3_0) (fun _ h9 => h9) rfl (by decide +kernel) rfl rfl (Nat.le_of_ble_eq_true rfl) d_Raster_close_29 ?_
    clear hP hD hS
    intro H locs hP hD hS
    replace hP : va_P (dC, dI) vcl [(h0, .inr (11, [.int o_dpi, .int 0, .int o_x, .int o_y, .int o_scale, .int o_row, .int o_width, .int o_height, .int o_rowBytes, .ref o_seed, .int o_resolution, .int 0, .int o_nextWidth, .int o_nextHeight]))] H := hP
    replace hD : va_D A [(h0, .inr (11, [.int o_dpi, .int 0, .int o_x, .int o_y, .int o_scale, .int o_row, .int o_width, .int o_height, .int o_rowBytes, .ref o_seed, .int o_resolution, .int 0, .int o_nextWidth, .int o_nextHeight]))] := hD
    refine lv_aload_n hx hb d_Raster_close_32 rfl (lv_at hl 0 rfl) ?_
    refine va_get (D := (dC, dI)) (ci := 11) (v := .int o_scale) (C := R_Raster) (T := F_Raster) (N := 14) hx hb hwd i_Raster hown hK hP 0 rfl rfl 4 (by decide) (hwd _ wd_2_238) (fun _ h9 => h9) rfl d_Raster_close_33 ?_
    refine lv_aload_n hx hb d_Raster_close_36 rfl (lv_at hl 0 rfl) ?_
    refine va_get (D := (dC, dI)) (ci := 11) (v := .int o_row) (C := R_Raster) (T := F_Raster) (N := 14) hx hb hwd i_Raster hown hK hP 0 rfl rfl 5 (by decide) (hwd _ wd_3_0) (fun _ h9 => h9) rfl d_Raster_close_37 ?_
    refine lv_imul hx hb d_Raster_close_40 ?_
    have hP9 := hP.sub (ws' := [(h0, .inr (11, [.int o_dpi, .int 0, .int o_x, .int o_y, .int o_scale, .int o_row, .int o_width, .int o_height, .int o_rowBytes, .ref o_seed, .int o_resolution, .int 0, .int o_nextWidth, .int o_nextHeight]))]) [0] rfl
    have hD9 := hD.sub (ws' := [(h0, .inr (11, [.int o_dpi, .int 0, .int o_x, .int o_y, .int o_scale, .int o_row, .int o_width, .int o_height, .int o_rowBytes, .ref o_seed, .int o_resolution, .int 0, .int o_nextWidth, .int o_nextHeight]))]) [0] (by decide) rfl
    have hK9 := hK.sub (tys' := []) [] rfl
    exact W.iret (v := o_scale * o_row) hx hb hr (fun t ht hW => ⟨⟨(o_scale * o_row), (o_row), rfl, (show ((o_row : Int32) = if o_height = (0 : Int32) then o_row else o_height) ∧ ((o_scale * o_row : Int32) = if o_height = (0 : Int32) then (o_scale * o_row) else (o_scale * o_height)) from (⟨by rw [if_pos c15], by rw [if_pos c15]⟩)), by rw [ht]; exact hP9, va_K.moved hW.alike hK9, hD9⟩, hS.F ht⟩) hS.2.2 d_Raster_close_41

abbrev at_g_Raster_isFull (dC : Nat → ClassId) (dI : Nat → Nat → Nat) (h0 : Nat) (o_dpi : Int32) (o_open : Int32) (o_x : Int32) (o_y : Int32) (o_scale : Int32) (o_row : Int32) (o_width : Int32) (o_height : Int32) (o_rowBytes : Int32) (o_seed : Nat) (o_resolution : Int32) (o_method : Int32) (o_nextWidth : Int32) (o_nextHeight : Int32) (A : Nat → Prop) (u : Unit) (t : State) : Prop := match u with
  | _ => va_P (dC, dI) vcl [(h0, .inr (11, [.int o_dpi, .int o_open, .int o_x, .int o_y, .int o_scale, .int o_row, .int o_width, .int o_height, .int o_rowBytes, .ref o_seed, .int o_resolution, .int o_method, .int o_nextWidth, .int o_nextHeight]))] t.heap ∧ va_K (dC, dI) vcl [] t ∧ va_D A [(h0, .inr (11, [.int o_dpi, .int o_open, .int o_x, .int o_y, .int o_scale, .int o_row, .int o_width, .int o_height, .int o_rowBytes, .ref o_seed, .int o_resolution, .int o_method, .int o_nextWidth, .int o_nextHeight]))]
abbrev po_g_Raster_isFull (h0 : Nat) (o_dpi : Int32) (o_open : Int32) (o_x : Int32) (o_y : Int32) (o_scale : Int32) (o_row : Int32) (o_width : Int32) (o_height : Int32) (o_rowBytes : Int32) (o_seed : Nat) (o_resolution : Int32) (o_method : Int32) (o_nextWidth : Int32) (o_nextHeight : Int32) (r : Int32) (u : Unit) : Prop := match u with
  | _ => r = if o_height = (0 : Int32) then 0 else (if o_row < o_height then 0 else 1)
abbrev q_g_Raster_isFull (dC : Nat → ClassId) (dI : Nat → Nat → Nat) (h0 : Nat) (o_dpi : Int32) (o_open : Int32) (o_x : Int32) (o_y : Int32) (o_scale : Int32) (o_row : Int32) (o_width : Int32) (o_height : Int32) (o_rowBytes : Int32) (o_seed : Nat) (o_resolution : Int32) (o_method : Int32) (o_nextWidth : Int32) (o_nextHeight : Int32) (A : Nat → Prop) : Array Value → State → Outcome → State → Prop := va_Qi (po_g_Raster_isFull h0 o_dpi o_open o_x o_y o_scale o_row o_width o_height o_rowBytes o_seed o_resolution o_method o_nextWidth o_nextHeight) (at_g_Raster_isFull dC dI h0 o_dpi o_open o_x o_y o_scale o_row o_width o_height o_rowBytes o_seed o_resolution o_method o_nextWidth o_nextHeight A) A
abbrev rm_g_Raster_isFull : Room := { frames := 0, cells := 0, slots := 0, locals := 0 }
set_option maxHeartbeats 4000000 in
set_option maxRecDepth 100000 in
theorem g_Raster_isFull (l : Launch) (dC : Nat → ClassId) (dI : Nat → Nat → Nat) (tt : Nat → Nat) (h0 : Nat) (o_dpi : Int32) (o_open : Int32) (o_x : Int32) (o_y : Int32) (o_scale : Int32) (o_row : Int32) (o_width : Int32) (o_height : Int32) (o_rowBytes : Int32) (o_seed : Nat) (o_resolution : Int32) (o_method : Int32) (o_nextWidth : Int32) (o_nextHeight : Int32) (sz : Nat)  : Met l y_Raster_isFull w_Raster_isFull rm_g_Raster_isFull (va_Pc [.ref h0] (fun U => U.heap.size = sz ∧ va_P (dC, dI) vcl [(h0, .inr (11, [.int o_dpi, .int o_open, .int o_x, .int o_y, .int o_scale, .int o_row, .int o_width, .int o_height, .int o_rowBytes, .ref o_seed, .int o_resolution, .int o_method, .int o_nextWidth, .int o_nextHeight]))] U.heap ∧ va_K (dC, dI) vcl [] U ∧ va_D (fun _ => True) [(h0, .inr (11, [.int o_dpi, .int o_open, .int o_x, .int o_y, .int o_scale, .int o_row, .int o_width, .int o_height, .int o_rowBytes, .ref o_seed, .int o_resolution, .int o_method, .int o_nextWidth, .int o_nextHeight]))] ∧ SF tt (va_A [(h0, .inr (11, [.int o_dpi, .int o_open, .int o_x, .int o_y, .int o_scale, .int o_row, .int o_width, .int o_height, .int o_rowBytes, .ref o_seed, .int o_resolution, .int o_method, .int o_nextWidth, .int o_nextHeight]))] sz) U U.heap)) (q_g_Raster_isFull dC dI h0 o_dpi o_open o_x o_y o_scale o_row o_width o_height o_rowBytes o_seed o_resolution o_method o_nextWidth o_nextHeight (va_A [(h0, .inr (11, [.int o_dpi, .int o_open, .int o_x, .int o_y, .int o_scale, .int o_row, .int o_width, .int o_height, .int o_rowBytes, .ref o_seed, .int o_resolution, .int o_method, .int o_nextWidth, .int o_nextHeight]))] sz)) 0 0 (va_A [(h0, .inr (11, [.int o_dpi, .int o_open, .int o_x, .int o_y, .int o_scale, .int o_row, .int o_width, .int o_height, .int o_rowBytes, .ref o_seed, .int o_resolution, .int o_method, .int o_nextWidth, .int o_nextHeight]))] sz) := by
  refine Met.ofW (cc := b_Raster_isFull) (maxL := 1) (ret := (some .boolean)) (by decide) rfl ?_
  intro p e s m args below meth c s₁ B hml hv
  obtain ⟨rfl, hsz, hP, hK, hD0, hF⟩ := hv
  have hx := B.exec
  have hb := B.bytes
  have hr := B.returns
  have hwd : ∀ w ∈ gT, w.before _ s = true := fun w h => atoms_spec (ws := w_Raster_isFull) B.pre w (List.mem_cons_of_mem _ h)
  have hown : s.vm.findClass R_Raster = some m.cls := findClass_of_methodNamed B.named
  have hlocks := B.notSynchronized
  subst hsz
  have hD := hD0.self (sz := s.heap.size)
  generalize hAe : va_A [(h0, .inr (11, [.int o_dpi, .int o_open, .int o_x, .int o_y, .int o_scale, .int o_row, .int o_width, .int o_height, .int o_rowBytes, .ref o_seed, .int o_resolution, .int o_method, .int o_nextWidth, .int o_nextHeight]))] s.heap.size = A at hD hF ⊢
  have hA : ∀ q : Nat, s.heap.size ≤ q → A q := fun q h => by rw [← hAe]; exact Or.inr h
  have hS : va_S A s.heap s.heap [] := va_S.rf
  have hP : va_P (dC, dI) vcl [(h0, .inr (11, [.int o_dpi, .int o_open, .int o_x, .int o_y, .int o_scale, .int o_row, .int o_width, .int o_height, .int o_rowBytes, .ref o_seed, .int o_resolution, .int o_method, .int o_nextWidth, .int o_nextHeight]))] s.heap := hP
  have hl := lv_entry ([.ref h0]) (n := 1) (Nat.le_of_ble_eq_true rfl)
  rw [lg_entry_eq]
  generalize (lg_sl ([.ref h0]) ++ List.replicate (1 - (lg_sl ([.ref h0])).length) Slot.unset).toArray = ls at hl ⊢
  have hl : lv_has ls 1 [(0, .ref h0)] := hl
  refine lv_aload_n hx hb d_Raster_isFull_0 rfl (lv_at hl 0 rfl) ?_
  refine va_get (D := (dC, dI)) (ci := 11) (v := .int o_height) (C := R_Raster) (T := F_Raster) (N := 14) hx hb hwd i_Raster hown hK hP 0 rfl rfl 7 (by decide) (hwd _ wd_3_4) (fun _ h9 => h9) rfl d_Raster_isFull_1 ?_
  refine lv_if_eq (tgt := 22) hx hb d_Raster_isFull_4 (by decide) (fun c4 => ?_) (fun c4 => ?_)
  · refine lv_iconst (v := 0) hx hb d_Raster_isFull_22 (by decide) ?_
    have hP9 := hP.sub (ws' := [(h0, .inr (11, [.int o_dpi, .int o_open, .int o_x, .int o_y, .int o_scale, .int o_row, .int o_width, .int o_height, .int o_rowBytes, .ref o_seed, .int o_resolution, .int o_method, .int o_nextWidth, .int o_nextHeight]))]) [0] rfl
    have hD9 := hD.sub (ws' := [(h0, .inr (11, [.int o_dpi, .int o_open, .int o_x, .int o_y, .int o_scale, .int o_row, .int o_width, .int o_height, .int o_rowBytes, .ref o_seed, .int o_resolution, .int o_method, .int o_nextWidth, .int o_nextHeight]))]) [0] (by decide) rfl
    have hK9 := hK.sub (tys' := []) [] rfl
    exact W.zret (v := 0) hx hb hr (by decide) (fun t ht hW => ⟨⟨0, (), rfl, (show (0 : Int32) = if o_height = (0 : Int32) then 0 else (if o_row < o_height then 0 else 1) from (by rw [if_pos c4])), by rw [ht]; exact hP9, va_K.moved hW.alike hK9, hD9⟩, hS.F ht⟩) hS.2.2 d_Raster_isFull_23
  · refine lv_aload_n hx hb d_Raster_isFull_7 rfl (lv_at hl 0 rfl) ?_
    refine va_get (D := (dC, dI)) (ci := 11) (v := .int o_row) (C := R_Raster) (T := F_Raster) (N := 14) hx hb hwd i_Raster hown hK hP 0 rfl rfl 5 (by decide) (hwd _ wd_3_0) (fun _ h9 => h9) rfl d_Raster_isFull_8 ?_
    refine lv_aload_n hx hb d_Raster_isFull_11 rfl (lv_at hl 0 rfl) ?_
    refine va_get (D := (dC, dI)) (ci := 11) (v := .int o_height) (C := R_Raster) (T := F_Raster) (N := 14) hx hb hwd i_Raster hown hK hP 0 rfl rfl 7 (by decide) (hwd _ wd_3_4) (fun _ h9 => h9) rfl d_Raster_isFull_12 ?_
    refine lv_icmp_lt (tgt := 22) hx hb d_Raster_isFull_15 (by decide) (fun c15 => ?_) (fun c15 => ?_)
    · refine lv_iconst (v := 0) hx hb d_Raster_isFull_22 (by decide) ?_
      have hP9 := hP.sub (ws' := [(h0, .inr (11, [.int o_dpi, .int o_open, .int o_x, .int o_y, .int o_scale, .int o_row, .int o_width, .int o_height, .int o_rowBytes, .ref o_seed, .int o_resolution, .int o_method, .int o_nextWidth, .int o_nextHeight]))]) [0] rfl
      have hD9 := hD.sub (ws' := [(h0, .inr (11, [.int o_dpi, .int o_open, .int o_x, .int o_y, .int o_scale, .int o_row, .int o_width, .int o_height, .int o_rowBytes, .ref o_seed, .int o_resolution, .int o_method, .int o_nextWidth, .int o_nextHeight]))]) [0] (by decide) rfl
      have hK9 := hK.sub (tys' := []) [] rfl
      exact W.zret (v := 0) hx hb hr (by decide) (fun t ht hW => ⟨⟨0, (), rfl, (show (0 : Int32) = if o_height = (0 : Int32) then 0 else (if o_row < o_height then 0 else 1) from (by rw [if_neg c4, if_pos c15])), by rw [ht]; exact hP9, va_K.moved hW.alike hK9, hD9⟩, hS.F ht⟩) hS.2.2 d_Raster_isFull_23
    · refine lv_iconst (v := 1) hx hb d_Raster_isFull_18 (by decide) ?_
      refine lv_goto (tgt := 23) hx hb d_Raster_isFull_19 (by decide) ?_
      have hP9 := hP.sub (ws' := [(h0, .inr (11, [.int o_dpi, .int o_open, .int o_x, .int o_y, .int o_scale, .int o_row, .int o_width, .int o_height, .int o_rowBytes, .ref o_seed, .int o_resolution, .int o_method, .int o_nextWidth, .int o_nextHeight]))]) [0] rfl
      have hD9 := hD.sub (ws' := [(h0, .inr (11, [.int o_dpi, .int o_open, .int o_x, .int o_y, .int o_scale, .int o_row, .int o_width, .int o_height, .int o_rowBytes, .ref o_seed, .int o_resolution, .int o_method, .int o_nextWidth, .int o_nextHeight]))]) [0] (by decide) rfl
      have hK9 := hK.sub (tys' := []) [] rfl
      exact W.zret (v := 1) hx hb hr (by decide) (fun t ht hW => ⟨⟨1, (), rfl, (show (1 : Int32) = if o_height = (0 : Int32) then 0 else (if o_row < o_height then 0 else 1) from (by rw [if_neg c4, if_neg c15])), by rw [ht]; exact hP9, va_K.moved hW.alike hK9, hD9⟩, hS.F ht⟩) hS.2.2 d_Raster_isFull_23

abbrev at_g_Sheet_setRuleWidth (dC : Nat → ClassId) (dI : Nat → Nat → Nat) (h0 : Nat) (o_page : Nat) (o_marks : Nat) (o_count : Int32) (o_dots : Nat) (o_used : Int32) (o_overrun : Int32) (o_due : Int32) (o_band : Nat) (o_bandLines : Int32) (o_bandWords : Int32) (o_ink : Int32) (o_inkNumber : Int32) (o_inkOpaque : Int32) (o_sourceOpaque : Int32) (o_ruleWidth : Int32) (o_ruleHeight : Int32) (o_pattern : Int32) (v0 : Int64) (A : Nat → Prop) (u : Unit) (t : State) : Prop := match u with
  | _ => va_P (dC, dI) vcl [(h0, .inr (12, [.ref o_page, .ref o_marks, .int o_count, .ref o_dots, .int o_used, .int o_overrun, .int o_due, .ref o_band, .int o_bandLines, .int o_bandWords, .int o_ink, .int o_inkNumber, .int o_inkOpaque, .int o_sourceOpaque, .int v0.toInt32, .int o_ruleHeight, .int o_pattern]))] t.heap ∧ va_K (dC, dI) vcl [] t ∧ va_D A [(h0, .inr (12, [.ref o_page, .ref o_marks, .int o_count, .ref o_dots, .int o_used, .int o_overrun, .int o_due, .ref o_band, .int o_bandLines, .int o_bandWords, .int o_ink, .int o_inkNumber, .int o_inkOpaque, .int o_sourceOpaque, .int v0.toInt32, .int o_ruleHeight, .int o_pattern]))]
abbrev po_g_Sheet_setRuleWidth (h0 : Nat) (o_page : Nat) (o_marks : Nat) (o_count : Int32) (o_dots : Nat) (o_used : Int32) (o_overrun : Int32) (o_due : Int32) (o_band : Nat) (o_bandLines : Int32) (o_bandWords : Int32) (o_ink : Int32) (o_inkNumber : Int32) (o_inkOpaque : Int32) (o_sourceOpaque : Int32) (o_ruleWidth : Int32) (o_ruleHeight : Int32) (o_pattern : Int32) (v0 : Int64) (u : Unit) : Prop := match u with
  | _ => True
abbrev q_g_Sheet_setRuleWidth (dC : Nat → ClassId) (dI : Nat → Nat → Nat) (h0 : Nat) (o_page : Nat) (o_marks : Nat) (o_count : Int32) (o_dots : Nat) (o_used : Int32) (o_overrun : Int32) (o_due : Int32) (o_band : Nat) (o_bandLines : Int32) (o_bandWords : Int32) (o_ink : Int32) (o_inkNumber : Int32) (o_inkOpaque : Int32) (o_sourceOpaque : Int32) (o_ruleWidth : Int32) (o_ruleHeight : Int32) (o_pattern : Int32) (v0 : Int64) (A : Nat → Prop) : Array Value → State → Outcome → State → Prop := va_Qv (po_g_Sheet_setRuleWidth h0 o_page o_marks o_count o_dots o_used o_overrun o_due o_band o_bandLines o_bandWords o_ink o_inkNumber o_inkOpaque o_sourceOpaque o_ruleWidth o_ruleHeight o_pattern v0) (at_g_Sheet_setRuleWidth dC dI h0 o_page o_marks o_count o_dots o_used o_overrun o_due o_band o_bandLines o_bandWords o_ink o_inkNumber o_inkOpaque o_sourceOpaque o_ruleWidth o_ruleHeight o_pattern v0 A) A
abbrev rm_g_Sheet_setRuleWidth : Room := { frames := 0, cells := 0, slots := 0, locals := 0 }
set_option maxHeartbeats 4000000 in
set_option maxRecDepth 100000 in
theorem g_Sheet_setRuleWidth (l : Launch) (dC : Nat → ClassId) (dI : Nat → Nat → Nat) (tt : Nat → Nat) (h0 : Nat) (o_page : Nat) (o_marks : Nat) (o_count : Int32) (o_dots : Nat) (o_used : Int32) (o_overrun : Int32) (o_due : Int32) (o_band : Nat) (o_bandLines : Int32) (o_bandWords : Int32) (o_ink : Int32) (o_inkNumber : Int32) (o_inkOpaque : Int32) (o_sourceOpaque : Int32) (o_ruleWidth : Int32) (o_ruleHeight : Int32) (o_pattern : Int32) (v0 : Int64) (sz : Nat)  : Met l y_Sheet_setRuleWidth w_Sheet_setRuleWidth rm_g_Sheet_setRuleWidth (va_Pc [.ref h0, .long v0] (fun U => U.heap.size = sz ∧ va_P (dC, dI) vcl [(h0, .inr (12, [.ref o_page, .ref o_marks, .int o_count, .ref o_dots, .int o_used, .int o_overrun, .int o_due, .ref o_band, .int o_bandLines, .int o_bandWords, .int o_ink, .int o_inkNumber, .int o_inkOpaque, .int o_sourceOpaque, .int o_ruleWidth, .int o_ruleHeight, .int o_pattern]))] U.heap ∧ va_K (dC, dI) vcl [] U ∧ va_D (fun _ => True) [(h0, .inr (12, [.ref o_page, .ref o_marks, .int o_count, .ref o_dots, .int o_used, .int o_overrun, .int o_due, .ref o_band, .int o_bandLines, .int o_bandWords, .int o_ink, .int o_inkNumber, .int o_inkOpaque, .int o_sourceOpaque, .int o_ruleWidth, .int o_ruleHeight, .int o_pattern]))] ∧ SF tt (va_A [(h0, .inr (12, [.ref o_page, .ref o_marks, .int o_count, .ref o_dots, .int o_used, .int o_overrun, .int o_due, .ref o_band, .int o_bandLines, .int o_bandWords, .int o_ink, .int o_inkNumber, .int o_inkOpaque, .int o_sourceOpaque, .int o_ruleWidth, .int o_ruleHeight, .int o_pattern]))] sz) U U.heap)) (q_g_Sheet_setRuleWidth dC dI h0 o_page o_marks o_count o_dots o_used o_overrun o_due o_band o_bandLines o_bandWords o_ink o_inkNumber o_inkOpaque o_sourceOpaque o_ruleWidth o_ruleHeight o_pattern v0 (va_A [(h0, .inr (12, [.ref o_page, .ref o_marks, .int o_count, .ref o_dots, .int o_used, .int o_overrun, .int o_due, .ref o_band, .int o_bandLines, .int o_bandWords, .int o_ink, .int o_inkNumber, .int o_inkOpaque, .int o_sourceOpaque, .int o_ruleWidth, .int o_ruleHeight, .int o_pattern]))] sz)) 0 0 (va_A [(h0, .inr (12, [.ref o_page, .ref o_marks, .int o_count, .ref o_dots, .int o_used, .int o_overrun, .int o_due, .ref o_band, .int o_bandLines, .int o_bandWords, .int o_ink, .int o_inkNumber, .int o_inkOpaque, .int o_sourceOpaque, .int o_ruleWidth, .int o_ruleHeight, .int o_pattern]))] sz) := by
  refine Met.ofW (cc := b_Sheet_setRuleWidth) (maxL := 3) (ret := none) (by decide) rfl ?_
  intro p e s m args below meth c s₁ B hml hv
  obtain ⟨rfl, hsz, hP, hK, hD0, hF⟩ := hv
  have hx := B.exec
  have hb := B.bytes
  have hr := B.returns
  have hwd : ∀ w ∈ gT, w.before _ s = true := fun w h => atoms_spec (ws := w_Sheet_setRuleWidth) B.pre w (List.mem_cons_of_mem _ h)
  have hown : s.vm.findClass R_Sheet = some m.cls := findClass_of_methodNamed B.named
  have hlocks := B.notSynchronized
  subst hsz
  have hD := hD0.self (sz := s.heap.size)
  generalize hAe : va_A [(h0, .inr (12, [.ref o_page, .ref o_marks, .int o_count, .ref o_dots, .int o_used, .int o_overrun, .int o_due, .ref o_band, .int o_bandLines, .int o_bandWords, .int o_ink, .int o_inkNumber, .int o_inkOpaque, .int o_sourceOpaque, .int o_ruleWidth, .int o_ruleHeight, .int o_pattern]))] s.heap.size = A at hD hF ⊢
  have hA : ∀ q : Nat, s.heap.size ≤ q → A q := fun q h => by rw [← hAe]; exact Or.inr h
  have hS : va_S A s.heap s.heap [] := va_S.rf
  have hP : va_P (dC, dI) vcl [(h0, .inr (12, [.ref o_page, .ref o_marks, .int o_count, .ref o_dots, .int o_used, .int o_overrun, .int o_due, .ref o_band, .int o_bandLines, .int o_bandWords, .int o_ink, .int o_inkNumber, .int o_inkOpaque, .int o_sourceOpaque, .int o_ruleWidth, .int o_ruleHeight, .int o_pattern]))] s.heap := hP
  have hl := lv_entry ([.ref h0, .long v0]) (n := 3) (Nat.le_of_ble_eq_true rfl)
  rw [lg_entry_eq]
  generalize (lg_sl ([.ref h0, .long v0]) ++ List.replicate (3 - (lg_sl ([.ref h0, .long v0])).length) Slot.unset).toArray = ls at hl ⊢
  have hl : lv_has ls 3 [(0, .ref h0), (1, .long v0)] := hl
  refine lv_aload_n hx hb d_Sheet_setRuleWidth_0 rfl (lv_at hl 0 rfl) ?_
  refine lv_lload_n hx hb d_Sheet_setRuleWidth_1 rfl (lv_at hl 1 rfl) ?_
  refine lv_l2i (v := v0.toInt32) hx hb d_Sheet_setRuleWidth_2 rfl ?_
  refine va_put (D := (dC, dI)) (ci := 12) (v := .int v0.toInt32) (ty := .int) (C := R_Sheet) (T := F_Sheet) (N := 17) hx hb hwd i_Sheet t_Sheet to_Sheet no_Sheet hown hK hP hD hS 0 rfl rfl 14 (by decide) (hwd _ wd_1_207) (fun _ h9 => h9) rfl (by decide +kernel) rfl rfl (Nat.le_of_ble_eq_true rfl) d_Sheet_setRuleWidth_3 ?_
  clear hP hD hS
  intro H locs hP hD hS
  replace hP : va_P (dC, dI) vcl [(h0, .inr (12, [.ref o_page, .ref o_marks, .int o_count, .ref o_dots, .int o_used, .int o_overrun, .int o_due, .ref o_band, .int o_bandLines, .int o_bandWords, .int o_ink, .int o_inkNumber, .int o_inkOpaque, .int o_sourceOpaque, .int v0.toInt32, .int o_ruleHeight, .int o_pattern]))] H := hP
  replace hD : va_D A [(h0, .inr (12, [.ref o_page, .ref o_marks, .int o_count, .ref o_dots, .int o_used, .int o_overrun, .int o_due, .ref o_band, .int o_bandLines, .int o_bandWords, .int o_ink, .int o_inkNumber, .int o_inkOpaque, .int o_sourceOpaque, .int v0.toInt32, .int o_ruleHeight, .int o_pattern]))] := hD
  have hP9 := hP.sub (ws' := [(h0, .inr (12, [.ref o_page, .ref o_marks, .int o_count, .ref o_dots, .int o_used, .int o_overrun, .int o_due, .ref o_band, .int o_bandLines, .int o_bandWords, .int o_ink, .int o_inkNumber, .int o_inkOpaque, .int o_sourceOpaque, .int v0.toInt32, .int o_ruleHeight, .int o_pattern]))]) [0] rfl
  have hD9 := hD.sub (ws' := [(h0, .inr (12, [.ref o_page, .ref o_marks, .int o_count, .ref o_dots, .int o_used, .int o_overrun, .int o_due, .ref o_band, .int o_bandLines, .int o_bandWords, .int o_ink, .int o_inkNumber, .int o_inkOpaque, .int o_sourceOpaque, .int v0.toInt32, .int o_ruleHeight, .int o_pattern]))]) [0] (by decide) rfl
  have hK9 := hK.sub (tys' := []) [] rfl
  exact W.vret hx hb hr (fun t ht hW => ⟨⟨(), rfl, (trivial), by rw [ht]; exact hP9, va_K.moved hW.alike hK9, hD9⟩, hS.F ht⟩) hS.2.2 d_Sheet_setRuleWidth_6

abbrev at_g_Sheet_setRuleHeight (dC : Nat → ClassId) (dI : Nat → Nat → Nat) (h0 : Nat) (o_page : Nat) (o_marks : Nat) (o_count : Int32) (o_dots : Nat) (o_used : Int32) (o_overrun : Int32) (o_due : Int32) (o_band : Nat) (o_bandLines : Int32) (o_bandWords : Int32) (o_ink : Int32) (o_inkNumber : Int32) (o_inkOpaque : Int32) (o_sourceOpaque : Int32) (o_ruleWidth : Int32) (o_ruleHeight : Int32) (o_pattern : Int32) (v0 : Int64) (A : Nat → Prop) (u : Unit) (t : State) : Prop := match u with
  | _ => va_P (dC, dI) vcl [(h0, .inr (12, [.ref o_page, .ref o_marks, .int o_count, .ref o_dots, .int o_used, .int o_overrun, .int o_due, .ref o_band, .int o_bandLines, .int o_bandWords, .int o_ink, .int o_inkNumber, .int o_inkOpaque, .int o_sourceOpaque, .int o_ruleWidth, .int v0.toInt32, .int o_pattern]))] t.heap ∧ va_K (dC, dI) vcl [] t ∧ va_D A [(h0, .inr (12, [.ref o_page, .ref o_marks, .int o_count, .ref o_dots, .int o_used, .int o_overrun, .int o_due, .ref o_band, .int o_bandLines, .int o_bandWords, .int o_ink, .int o_inkNumber, .int o_inkOpaque, .int o_sourceOpaque, .int o_ruleWidth, .int v0.toInt32, .int o_pattern]))]
abbrev po_g_Sheet_setRuleHeight (h0 : Nat) (o_page : Nat) (o_marks : Nat) (o_count : Int32) (o_dots : Nat) (o_used : Int32) (o_overrun : Int32) (o_due : Int32) (o_band : Nat) (o_bandLines : Int32) (o_bandWords : Int32) (o_ink : Int32) (o_inkNumber : Int32) (o_inkOpaque : Int32) (o_sourceOpaque : Int32) (o_ruleWidth : Int32) (o_ruleHeight : Int32) (o_pattern : Int32) (v0 : Int64) (u : Unit) : Prop := match u with
  | _ => True
abbrev q_g_Sheet_setRuleHeight (dC : Nat → ClassId) (dI : Nat → Nat → Nat) (h0 : Nat) (o_page : Nat) (o_marks : Nat) (o_count : Int32) (o_dots : Nat) (o_used : Int32) (o_overrun : Int32) (o_due : Int32) (o_band : Nat) (o_bandLines : Int32) (o_bandWords : Int32) (o_ink : Int32) (o_inkNumber : Int32) (o_inkOpaque : Int32) (o_sourceOpaque : Int32) (o_ruleWidth : Int32) (o_ruleHeight : Int32) (o_pattern : Int32) (v0 : Int64) (A : Nat → Prop) : Array Value → State → Outcome → State → Prop := va_Qv (po_g_Sheet_setRuleHeight h0 o_page o_marks o_count o_dots o_used o_overrun o_due o_band o_bandLines o_bandWords o_ink o_inkNumber o_inkOpaque o_sourceOpaque o_ruleWidth o_ruleHeight o_pattern v0) (at_g_Sheet_setRuleHeight dC dI h0 o_page o_marks o_count o_dots o_used o_overrun o_due o_band o_bandLines o_bandWords o_ink o_inkNumber o_inkOpaque o_sourceOpaque o_ruleWidth o_ruleHeight o_pattern v0 A) A
abbrev rm_g_Sheet_setRuleHeight : Room := { frames := 0, cells := 0, slots := 0, locals := 0 }
set_option maxHeartbeats 4000000 in
set_option maxRecDepth 100000 in
theorem g_Sheet_setRuleHeight (l : Launch) (dC : Nat → ClassId) (dI : Nat → Nat → Nat) (tt : Nat → Nat) (h0 : Nat) (o_page : Nat) (o_marks : Nat) (o_count : Int32) (o_dots : Nat) (o_used : Int32) (o_overrun : Int32) (o_due : Int32) (o_band : Nat) (o_bandLines : Int32) (o_bandWords : Int32) (o_ink : Int32) (o_inkNumber : Int32) (o_inkOpaque : Int32) (o_sourceOpaque : Int32) (o_ruleWidth : Int32) (o_ruleHeight : Int32) (o_pattern : Int32) (v0 : Int64) (sz : Nat)  : Met l y_Sheet_setRuleHeight w_Sheet_setRuleHeight rm_g_Sheet_setRuleHeight (va_Pc [.ref h0, .long v0] (fun U => U.heap.size = sz ∧ va_P (dC, dI) vcl [(h0, .inr (12, [.ref o_page, .ref o_marks, .int o_count, .ref o_dots, .int o_used, .int o_overrun, .int o_due, .ref o_band, .int o_bandLines, .int o_bandWords, .int o_ink, .int o_inkNumber, .int o_inkOpaque, .int o_sourceOpaque, .int o_ruleWidth, .int o_ruleHeight, .int o_pattern]))] U.heap ∧ va_K (dC, dI) vcl [] U ∧ va_D (fun _ => True) [(h0, .inr (12, [.ref o_page, .ref o_marks, .int o_count, .ref o_dots, .int o_used, .int o_overrun, .int o_due, .ref o_band, .int o_bandLines, .int o_bandWords, .int o_ink, .int o_inkNumber, .int o_inkOpaque, .int o_sourceOpaque, .int o_ruleWidth, .int o_ruleHeight, .int o_pattern]))] ∧ SF tt (va_A [(h0, .inr (12, [.ref o_page, .ref o_marks, .int o_count, .ref o_dots, .int o_used, .int o_overrun, .int o_due, .ref o_band, .int o_bandLines, .int o_bandWords, .int o_ink, .int o_inkNumber, .int o_inkOpaque, .int o_sourceOpaque, .int o_ruleWidth, .int o_ruleHeight, .int o_pattern]))] sz) U U.heap)) (q_g_Sheet_setRuleHeight dC dI h0 o_page o_marks o_count o_dots o_used o_overrun o_due o_band o_bandLines o_bandWords o_ink o_inkNumber o_inkOpaque o_sourceOpaque o_ruleWidth o_ruleHeight o_pattern v0 (va_A [(h0, .inr (12, [.ref o_page, .ref o_marks, .int o_count, .ref o_dots, .int o_used, .int o_overrun, .int o_due, .ref o_band, .int o_bandLines, .int o_bandWords, .int o_ink, .int o_inkNumber, .int o_inkOpaque, .int o_sourceOpaque, .int o_ruleWidth, .int o_ruleHeight, .int o_pattern]))] sz)) 0 0 (va_A [(h0, .inr (12, [.ref o_page, .ref o_marks, .int o_count, .ref o_dots, .int o_used, .int o_overrun, .int o_due, .ref o_band, .int o_bandLines, .int o_bandWords, .int o_ink, .int o_inkNumber, .int o_inkOpaque, .int o_sourceOpaque, .int o_ruleWidth, .int o_ruleHeight, .int o_pattern]))] sz) := by
  refine Met.ofW (cc := b_Sheet_setRuleHeight) (maxL := 3) (ret := none) (by decide) rfl ?_
  intro p e s m args below meth c s₁ B hml hv
  obtain ⟨rfl, hsz, hP, hK, hD0, hF⟩ := hv
  have hx := B.exec
  have hb := B.bytes
  have hr := B.returns
  have hwd : ∀ w ∈ gT, w.before _ s = true := fun w h => atoms_spec (ws := w_Sheet_setRuleHeight) B.pre w (List.mem_cons_of_mem _ h)
  have hown : s.vm.findClass R_Sheet = some m.cls := findClass_of_methodNamed B.named
  have hlocks := B.notSynchronized
  subst hsz
  have hD := hD0.self (sz := s.heap.size)
  generalize hAe : va_A [(h0, .inr (12, [.ref o_page, .ref o_marks, .int o_count, .ref o_dots, .int o_used, .int o_overrun, .int o_due, .ref o_band, .int o_bandLines, .int o_bandWords, .int o_ink, .int o_inkNumber, .int o_inkOpaque, .int o_sourceOpaque, .int o_ruleWidth, .int o_ruleHeight, .int o_pattern]))] s.heap.size = A at hD hF ⊢
  have hA : ∀ q : Nat, s.heap.size ≤ q → A q := fun q h => by rw [← hAe]; exact Or.inr h
  have hS : va_S A s.heap s.heap [] := va_S.rf
  have hP : va_P (dC, dI) vcl [(h0, .inr (12, [.ref o_page, .ref o_marks, .int o_count, .ref o_dots, .int o_used, .int o_overrun, .int o_due, .ref o_band, .int o_bandLines, .int o_bandWords, .int o_ink, .int o_inkNumber, .int o_inkOpaque, .int o_sourceOpaque, .int o_ruleWidth, .int o_ruleHeight, .int o_pattern]))] s.heap := hP
  have hl := lv_entry ([.ref h0, .long v0]) (n := 3) (Nat.le_of_ble_eq_true rfl)
  rw [lg_entry_eq]
  generalize (lg_sl ([.ref h0, .long v0]) ++ List.replicate (3 - (lg_sl ([.ref h0, .long v0])).length) Slot.unset).toArray = ls at hl ⊢
  have hl : lv_has ls 3 [(0, .ref h0), (1, .long v0)] := hl
  refine lv_aload_n hx hb d_Sheet_setRuleHeight_0 rfl (lv_at hl 0 rfl) ?_
  refine lv_lload_n hx hb d_Sheet_setRuleHeight_1 rfl (lv_at hl 1 rfl) ?_
  refine lv_l2i (v := v0.toInt32) hx hb d_Sheet_setRuleHeight_2 rfl ?_
  refine va_put (D := (dC, dI)) (ci := 12) (v := .int v0.toInt32) (ty := .int) (C := R_Sheet) (T := F_Sheet) (N := 17) hx hb hwd i_Sheet t_Sheet to_Sheet no_Sheet hown hK hP hD hS 0 rfl rfl 15 (by decide) (hwd _ wd_1_208) (fun _ h9 => h9) rfl (by decide +kernel) rfl rfl (Nat.le_of_ble_eq_true rfl) d_Sheet_setRuleHeight_3 ?_
  clear hP hD hS
  intro H locs hP hD hS
  replace hP : va_P (dC, dI) vcl [(h0, .inr (12, [.ref o_page, .ref o_marks, .int o_count, .ref o_dots, .int o_used, .int o_overrun, .int o_due, .ref o_band, .int o_bandLines, .int o_bandWords, .int o_ink, .int o_inkNumber, .int o_inkOpaque, .int o_sourceOpaque, .int o_ruleWidth, .int v0.toInt32, .int o_pattern]))] H := hP
  replace hD : va_D A [(h0, .inr (12, [.ref o_page, .ref o_marks, .int o_count, .ref o_dots, .int o_used, .int o_overrun, .int o_due, .ref o_band, .int o_bandLines, .int o_bandWords, .int o_ink, .int o_inkNumber, .int o_inkOpaque, .int o_sourceOpaque, .int o_ruleWidth, .int v0.toInt32, .int o_pattern]))] := hD
  have hP9 := hP.sub (ws' := [(h0, .inr (12, [.ref o_page, .ref o_marks, .int o_count, .ref o_dots, .int o_used, .int o_overrun, .int o_due, .ref o_band, .int o_bandLines, .int o_bandWords, .int o_ink, .int o_inkNumber, .int o_inkOpaque, .int o_sourceOpaque, .int o_ruleWidth, .int v0.toInt32, .int o_pattern]))]) [0] rfl
  have hD9 := hD.sub (ws' := [(h0, .inr (12, [.ref o_page, .ref o_marks, .int o_count, .ref o_dots, .int o_used, .int o_overrun, .int o_due, .ref o_band, .int o_bandLines, .int o_bandWords, .int o_ink, .int o_inkNumber, .int o_inkOpaque, .int o_sourceOpaque, .int o_ruleWidth, .int v0.toInt32, .int o_pattern]))]) [0] (by decide) rfl
  have hK9 := hK.sub (tys' := []) [] rfl
  exact W.vret hx hb hr (fun t ht hW => ⟨⟨(), rfl, (trivial), by rw [ht]; exact hP9, va_K.moved hW.alike hK9, hD9⟩, hS.F ht⟩) hS.2.2 d_Sheet_setRuleHeight_6

abbrev at_g_Sheet_setPattern (dC : Nat → ClassId) (dI : Nat → Nat → Nat) (h0 : Nat) (o_page : Nat) (o_marks : Nat) (o_count : Int32) (o_dots : Nat) (o_used : Int32) (o_overrun : Int32) (o_due : Int32) (o_band : Nat) (o_bandLines : Int32) (o_bandWords : Int32) (o_ink : Int32) (o_inkNumber : Int32) (o_inkOpaque : Int32) (o_sourceOpaque : Int32) (o_ruleWidth : Int32) (o_ruleHeight : Int32) (o_pattern : Int32) (v0 : Int32) (A : Nat → Prop) (u : Unit) (t : State) : Prop := match u with
  | _ => va_P (dC, dI) vcl [(h0, .inr (12, [.ref o_page, .ref o_marks, .int o_count, .ref o_dots, .int o_used, .int o_overrun, .int o_due, .ref o_band, .int o_bandLines, .int o_bandWords, .int o_ink, .int o_inkNumber, .int o_inkOpaque, .int o_sourceOpaque, .int o_ruleWidth, .int o_ruleHeight, .int v0]))] t.heap ∧ va_K (dC, dI) vcl [] t ∧ va_D A [(h0, .inr (12, [.ref o_page, .ref o_marks, .int o_count, .ref o_dots, .int o_used, .int o_overrun, .int o_due, .ref o_band, .int o_bandLines, .int o_bandWords, .int o_ink, .int o_inkNumber, .int o_inkOpaque, .int o_sourceOpaque, .int o_ruleWidth, .int o_ruleHeight, .int v0]))]
abbrev po_g_Sheet_setPattern (h0 : Nat) (o_page : Nat) (o_marks : Nat) (o_count : Int32) (o_dots : Nat) (o_used : Int32) (o_overrun : Int32) (o_due : Int32) (o_band : Nat) (o_bandLines : Int32) (o_bandWords : Int32) (o_ink : Int32) (o_inkNumber : Int32) (o_inkOpaque : Int32) (o_sourceOpaque : Int32) (o_ruleWidth : Int32) (o_ruleHeight : Int32) (o_pattern : Int32) (v0 : Int32) (u : Unit) : Prop := match u with
  | _ => True
abbrev q_g_Sheet_setPattern (dC : Nat → ClassId) (dI : Nat → Nat → Nat) (h0 : Nat) (o_page : Nat) (o_marks : Nat) (o_count : Int32) (o_dots : Nat) (o_used : Int32) (o_overrun : Int32) (o_due : Int32) (o_band : Nat) (o_bandLines : Int32) (o_bandWords : Int32) (o_ink : Int32) (o_inkNumber : Int32) (o_inkOpaque : Int32) (o_sourceOpaque : Int32) (o_ruleWidth : Int32) (o_ruleHeight : Int32) (o_pattern : Int32) (v0 : Int32) (A : Nat → Prop) : Array Value → State → Outcome → State → Prop := va_Qv (po_g_Sheet_setPattern h0 o_page o_marks o_count o_dots o_used o_overrun o_due o_band o_bandLines o_bandWords o_ink o_inkNumber o_inkOpaque o_sourceOpaque o_ruleWidth o_ruleHeight o_pattern v0) (at_g_Sheet_setPattern dC dI h0 o_page o_marks o_count o_dots o_used o_overrun o_due o_band o_bandLines o_bandWords o_ink o_inkNumber o_inkOpaque o_sourceOpaque o_ruleWidth o_ruleHeight o_pattern v0 A) A
abbrev rm_g_Sheet_setPattern : Room := { frames := 0, cells := 0, slots := 0, locals := 0 }
set_option maxHeartbeats 4000000 in
set_option maxRecDepth 100000 in
theorem g_Sheet_setPattern (l : Launch) (dC : Nat → ClassId) (dI : Nat → Nat → Nat) (tt : Nat → Nat) (h0 : Nat) (o_page : Nat) (o_marks : Nat) (o_count : Int32) (o_dots : Nat) (o_used : Int32) (o_overrun : Int32) (o_due : Int32) (o_band : Nat) (o_bandLines : Int32) (o_bandWords : Int32) (o_ink : Int32) (o_inkNumber : Int32) (o_inkOpaque : Int32) (o_sourceOpaque : Int32) (o_ruleWidth : Int32) (o_ruleHeight : Int32) (o_pattern : Int32) (v0 : Int32) (sz : Nat)  : Met l y_Sheet_setPattern w_Sheet_setPattern rm_g_Sheet_setPattern (va_Pc [.ref h0, .int v0] (fun U => U.heap.size = sz ∧ va_P (dC, dI) vcl [(h0, .inr (12, [.ref o_page, .ref o_marks, .int o_count, .ref o_dots, .int o_used, .int o_overrun, .int o_due, .ref o_band, .int o_bandLines, .int o_bandWords, .int o_ink, .int o_inkNumber, .int o_inkOpaque, .int o_sourceOpaque, .int o_ruleWidth, .int o_ruleHeight, .int o_pattern]))] U.heap ∧ va_K (dC, dI) vcl [] U ∧ va_D (fun _ => True) [(h0, .inr (12, [.ref o_page, .ref o_marks, .int o_count, .ref o_dots, .int o_used, .int o_overrun, .int o_due, .ref o_band, .int o_bandLines, .int o_bandWords, .int o_ink, .int o_inkNumber, .int o_inkOpaque, .int o_sourceOpaque, .int o_ruleWidth, .int o_ruleHeight, .int o_pattern]))] ∧ SF tt (va_A [(h0, .inr (12, [.ref o_page, .ref o_marks, .int o_count, .ref o_dots, .int o_used, .int o_overrun, .int o_due, .ref o_band, .int o_bandLines, .int o_bandWords, .int o_ink, .int o_inkNumber, .int o_inkOpaque, .int o_sourceOpaque, .int o_ruleWidth, .int o_ruleHeight, .int o_pattern]))] sz) U U.heap)) (q_g_Sheet_setPattern dC dI h0 o_page o_marks o_count o_dots o_used o_overrun o_due o_band o_bandLines o_bandWords o_ink o_inkNumber o_inkOpaque o_sourceOpaque o_ruleWidth o_ruleHeight o_pattern v0 (va_A [(h0, .inr (12, [.ref o_page, .ref o_marks, .int o_count, .ref o_dots, .int o_used, .int o_overrun, .int o_due, .ref o_band, .int o_bandLines, .int o_bandWords, .int o_ink, .int o_inkNumber, .int o_inkOpaque, .int o_sourceOpaque, .int o_ruleWidth, .int o_ruleHeight, .int o_pattern]))] sz)) 0 0 (va_A [(h0, .inr (12, [.ref o_page, .ref o_marks, .int o_count, .ref o_dots, .int o_used, .int o_overrun, .int o_due, .ref o_band, .int o_bandLines, .int o_bandWords, .int o_ink, .int o_inkNumber, .int o_inkOpaque, .int o_sourceOpaque, .int o_ruleWidth, .int o_ruleHeight, .int o_pattern]))] sz) := by
  refine Met.ofW (cc := b_Sheet_setPattern) (maxL := 2) (ret := none) (by decide) rfl ?_
  intro p e s m args below meth c s₁ B hml hv
  obtain ⟨rfl, hsz, hP, hK, hD0, hF⟩ := hv
  have hx := B.exec
  have hb := B.bytes
  have hr := B.returns
  have hwd : ∀ w ∈ gT, w.before _ s = true := fun w h => atoms_spec (ws := w_Sheet_setPattern) B.pre w (List.mem_cons_of_mem _ h)
  have hown : s.vm.findClass R_Sheet = some m.cls := findClass_of_methodNamed B.named
  have hlocks := B.notSynchronized
  subst hsz
  have hD := hD0.self (sz := s.heap.size)
  generalize hAe : va_A [(h0, .inr (12, [.ref o_page, .ref o_marks, .int o_count, .ref o_dots, .int o_used, .int o_overrun, .int o_due, .ref o_band, .int o_bandLines, .int o_bandWords, .int o_ink, .int o_inkNumber, .int o_inkOpaque, .int o_sourceOpaque, .int o_ruleWidth, .int o_ruleHeight, .int o_pattern]))] s.heap.size = A at hD hF ⊢
  have hA : ∀ q : Nat, s.heap.size ≤ q → A q := fun q h => by rw [← hAe]; exact Or.inr h
  have hS : va_S A s.heap s.heap [] := va_S.rf
  have hP : va_P (dC, dI) vcl [(h0, .inr (12, [.ref o_page, .ref o_marks, .int o_count, .ref o_dots, .int o_used, .int o_overrun, .int o_due, .ref o_band, .int o_bandLines, .int o_bandWords, .int o_ink, .int o_inkNumber, .int o_inkOpaque, .int o_sourceOpaque, .int o_ruleWidth, .int o_ruleHeight, .int o_pattern]))] s.heap := hP
  have hl := lv_entry ([.ref h0, .int v0]) (n := 2) (Nat.le_of_ble_eq_true rfl)
  rw [lg_entry_eq]
  generalize (lg_sl ([.ref h0, .int v0]) ++ List.replicate (2 - (lg_sl ([.ref h0, .int v0])).length) Slot.unset).toArray = ls at hl ⊢
  have hl : lv_has ls 2 [(0, .ref h0), (1, .int v0)] := hl
  refine lv_aload_n hx hb d_Sheet_setPattern_0 rfl (lv_at hl 0 rfl) ?_
  refine lv_iload_n hx hb d_Sheet_setPattern_1 rfl (lv_at hl 1 rfl) ?_
  refine va_put (D := (dC, dI)) (ci := 12) (v := .int v0) (ty := .int) (C := R_Sheet) (T := F_Sheet) (N := 17) hx hb hwd i_Sheet t_Sheet to_Sheet no_Sheet hown hK hP hD hS 0 rfl rfl 16 (by decide) (hwd _ wd_1_209) (fun _ h9 => h9) rfl (by decide +kernel) rfl rfl (Nat.le_of_ble_eq_true rfl) d_Sheet_setPattern_2 ?_
  clear hP hD hS
  intro H locs hP hD hS
  replace hP : va_P (dC, dI) vcl [(h0, .inr (12, [.ref o_page, .ref o_marks, .int o_count, .ref o_dots, .int o_used, .int o_overrun, .int o_due, .ref o_band, .int o_bandLines, .int o_bandWords, .int o_ink, .int o_inkNumber, .int o_inkOpaque, .int o_sourceOpaque, .int o_ruleWidth, .int o_ruleHeight, .int v0]))] H := hP
  replace hD : va_D A [(h0, .inr (12, [.ref o_page, .ref o_marks, .int o_count, .ref o_dots, .int o_used, .int o_overrun, .int o_due, .ref o_band, .int o_bandLines, .int o_bandWords, .int o_ink, .int o_inkNumber, .int o_inkOpaque, .int o_sourceOpaque, .int o_ruleWidth, .int o_ruleHeight, .int v0]))] := hD
  have hP9 := hP.sub (ws' := [(h0, .inr (12, [.ref o_page, .ref o_marks, .int o_count, .ref o_dots, .int o_used, .int o_overrun, .int o_due, .ref o_band, .int o_bandLines, .int o_bandWords, .int o_ink, .int o_inkNumber, .int o_inkOpaque, .int o_sourceOpaque, .int o_ruleWidth, .int o_ruleHeight, .int v0]))]) [0] rfl
  have hD9 := hD.sub (ws' := [(h0, .inr (12, [.ref o_page, .ref o_marks, .int o_count, .ref o_dots, .int o_used, .int o_overrun, .int o_due, .ref o_band, .int o_bandLines, .int o_bandWords, .int o_ink, .int o_inkNumber, .int o_inkOpaque, .int o_sourceOpaque, .int o_ruleWidth, .int o_ruleHeight, .int v0]))]) [0] (by decide) rfl
  have hK9 := hK.sub (tys' := []) [] rfl
  exact W.vret hx hb hr (fun t ht hW => ⟨⟨(), rfl, (trivial), by rw [ht]; exact hP9, va_K.moved hW.alike hK9, hD9⟩, hS.F ht⟩) hS.2.2 d_Sheet_setPattern_5

abbrev at_g_Sheet_isInk (dC : Nat → ClassId) (dI : Nat → Nat → Nat) (v0 : Int32) (v1 : Int32) (A : Nat → Prop) (u : Unit) (t : State) : Prop := match u with
  | _ => va_P (dC, dI) vcl [] t.heap ∧ va_K (dC, dI) vcl [] t ∧ va_D A []
abbrev po_g_Sheet_isInk (v0 : Int32) (v1 : Int32) (r : Int32) (u : Unit) : Prop := match u with
  | _ => r = if v0 = (0 : Int32) then 1 else (if v0 = (1 : Int32) then 1 else (if v0 = (2 : Int32) then (if v1 < (1 : Int32) then (if v0 = (3 : Int32) then (if v1 < (1 : Int32) then 0 else (if (6 : Int32) < v1 then 0 else 1)) else 0) else (if v1 ≤ (100 : Int32) then 1 else (if v0 = (3 : Int32) then (if v1 < (1 : Int32) then 0 else (if (6 : Int32) < v1 then 0 else 1)) else 0))) else (if v0 = (3 : Int32) then (if v1 < (1 : Int32) then 0 else (if (6 : Int32) < v1 then 0 else 1)) else 0)))
abbrev q_g_Sheet_isInk (dC : Nat → ClassId) (dI : Nat → Nat → Nat) (v0 : Int32) (v1 : Int32) (A : Nat → Prop) : Array Value → State → Outcome → State → Prop := va_Qi (po_g_Sheet_isInk v0 v1) (at_g_Sheet_isInk dC dI v0 v1 A) A
abbrev rm_g_Sheet_isInk : Room := { frames := 0, cells := 0, slots := 0, locals := 0 }
set_option maxHeartbeats 4000000 in
set_option maxRecDepth 100000 in
theorem g_Sheet_isInk (l : Launch) (dC : Nat → ClassId) (dI : Nat → Nat → Nat) (tt : Nat → Nat) (v0 : Int32) (v1 : Int32) (sz : Nat)  : Met l y_Sheet_isInk w_Sheet_isInk rm_g_Sheet_isInk (va_Pc [.int v0, .int v1] (fun U => U.heap.size = sz ∧ va_P (dC, dI) vcl [] U.heap ∧ va_K (dC, dI) vcl [] U ∧ va_D (fun _ => True) [] ∧ SF tt (va_A [] sz) U U.heap)) (q_g_Sheet_isInk dC dI v0 v1 (va_A [] sz)) 0 0 (va_A [] sz) := by
  refine Met.ofW (cc := b_Sheet_isInk) (maxL := 2) (ret := (some .boolean)) (by decide) rfl ?_
  intro p e s m args below meth c s₁ B hml hv
  obtain ⟨rfl, hsz, hP, hK, hD0, hF⟩ := hv
  have hx := B.exec
  have hb := B.bytes
  have hr := B.returns
  have hwd : ∀ w ∈ gT, w.before _ s = true := fun w h => atoms_spec (ws := w_Sheet_isInk) B.pre w (List.mem_cons_of_mem _ h)
  have hown : s.vm.findClass R_Sheet = some m.cls := findClass_of_methodNamed B.named
  have hlocks := B.notSynchronized
  subst hsz
  have hD := hD0.self (sz := s.heap.size)
  generalize hAe : va_A [] s.heap.size = A at hD hF ⊢
  have hA : ∀ q : Nat, s.heap.size ≤ q → A q := fun q h => by rw [← hAe]; exact Or.inr h
  have hS : va_S A s.heap s.heap [] := va_S.rf
  have hP : va_P (dC, dI) vcl [] s.heap := hP
  have hl := lv_entry ([.int v0, .int v1]) (n := 2) (Nat.le_of_ble_eq_true rfl)
  rw [lg_entry_eq]
  generalize (lg_sl ([.int v0, .int v1]) ++ List.replicate (2 - (lg_sl ([.int v0, .int v1])).length) Slot.unset).toArray = ls at hl ⊢
  have hl : lv_has ls 2 [(0, .int v0), (1, .int v1)] := hl
  refine lv_iload_n hx hb d_Sheet_isInk_0 rfl (lv_at hl 0 rfl) ?_
  refine lv_if_eq (tgt := 41) hx hb d_Sheet_isInk_1 (by decide) (fun c1 => ?_) (fun c1 => ?_)
  · refine lv_iconst (v := 1) hx hb d_Sheet_isInk_41 (by decide) ?_
    refine lv_goto (tgt := 46) hx hb d_Sheet_isInk_42 (by decide) ?_
    have hP9 := hP.sub (ws' := []) [] rfl
    have hD9 := hD.sub (ws' := []) [] (by decide) rfl
    have hK9 := hK.sub (tys' := []) [] rfl
    exact W.zret (v := 1) hx hb hr (by decide) (fun t ht hW => ⟨⟨1, (), rfl, (show (1 : Int32) = if v0 = (0 : Int32) then 1 else (if v0 = (1 : Int32) then 1 else (if v0 = (2 : Int32) then (if v1 < (1 : Int32) then (if v0 = (3 : Int32) then (if v1 < (1 : Int32) then 0 else (if (6 : Int32) < v1 then 0 else 1)) else 0) else (if v1 ≤ (100 : Int32) then 1 else (if v0 = (3 : Int32) then (if v1 < (1 : Int32) then 0 else (if (6 : Int32) < v1 then 0 else 1)) else 0))) else (if v0 = (3 : Int32) then (if v1 < (1 : Int32) then 0 else (if (6 : Int32) < v1 then 0 else 1)) else 0))) from (by rw [if_pos c1])), by rw [ht]; exact hP9, va_K.moved hW.alike hK9, hD9⟩, hS.F ht⟩) hS.2.2 d_Sheet_isInk_46
  · refine lv_iload_n hx hb d_Sheet_isInk_4 rfl (lv_at hl 0 rfl) ?_
    refine lv_iconst (v := 1) hx hb d_Sheet_isInk_5 (by decide) ?_
    refine lv_icmp_eq (tgt := 41) hx hb d_Sheet_isInk_6 (by decide) (fun c6 => ?_) (fun c6 => ?_)
    · refine lv_iconst (v := 1) hx hb d_Sheet_isInk_41 (by decide) ?_
      refine lv_goto (tgt := 46) hx hb d_Sheet_isInk_42 (by decide) ?_
      have hP9 := hP.sub (ws' := []) [] rfl
      have hD9 := hD.sub (ws' := []) [] (by decide) rfl
      have hK9 := hK.sub (tys' := []) [] rfl
      exact W.zret (v := 1) hx hb hr (by decide) (fun t ht hW => ⟨⟨1, (), rfl, (show (1 : Int32) = if v0 = (0 : Int32) then 1 else (if v0 = (1 : Int32) then 1 else (if v0 = (2 : Int32) then (if v1 < (1 : Int32) then (if v0 = (3 : Int32) then (if v1 < (1 : Int32) then 0 else (if (6 : Int32) < v1 then 0 else 1)) else 0) else (if v1 ≤ (100 : Int32) then 1 else (if v0 = (3 : Int32) then (if v1 < (1 : Int32) then 0 else (if (6 : Int32) < v1 then 0 else 1)) else 0))) else (if v0 = (3 : Int32) then (if v1 < (1 : Int32) then 0 else (if (6 : Int32) < v1 then 0 else 1)) else 0))) from (by rw [if_neg c1, if_pos c6])), by rw [ht]; exact hP9, va_K.moved hW.alike hK9, hD9⟩, hS.F ht⟩) hS.2.2 d_Sheet_isInk_46
    · refine lv_iload_n hx hb d_Sheet_isInk_9 rfl (lv_at hl 0 rfl) ?_
      refine lv_iconst (v := 2) hx hb d_Sheet_isInk_10 (by decide) ?_
      refine lv_icmp_ne (tgt := 25) hx hb d_Sheet_isInk_11 (by decide) (fun c11 => ?_) (fun c11 => ?_)
      · refine lv_iload_n hx hb d_Sheet_isInk_25 rfl (lv_at hl 0 rfl) ?_
        refine lv_iconst (v := 3) hx hb d_Sheet_isInk_26 (by decide) ?_
        refine lv_icmp_ne (tgt := 45) hx hb d_Sheet_isInk_27 (by decide) (fun c27 => ?_) (fun c27 => ?_)
        · refine lv_iconst (v := 0) hx hb d_Sheet_isInk_45 (by decide) ?_
          have hP9 := hP.sub (ws' := []) [] rfl
          have hD9 := hD.sub (ws' := []) [] (by decide) rfl
          have hK9 := hK.sub (tys' := []) [] rfl
          exact W.zret (v := 0) hx hb hr (by decide) (fun t ht hW => ⟨⟨0, (), rfl, (show (0 : Int32) = if v0 = (0 : Int32) then 1 else (if v0 = (1 : Int32) then 1 else (if v0 = (2 : Int32) then (if v1 < (1 : Int32) then (if v0 = (3 : Int32) then (if v1 < (1 : Int32) then 0 else (if (6 : Int32) < v1 then 0 else 1)) else 0) else (if v1 ≤ (100 : Int32) then 1 else (if v0 = (3 : Int32) then (if v1 < (1 : Int32) then 0 else (if (6 : Int32) < v1 then 0 else 1)) else 0))) else (if v0 = (3 : Int32) then (if v1 < (1 : Int32) then 0 else (if (6 : Int32) < v1 then 0 else 1)) else 0))) from (by rw [if_neg c1, if_neg c6, if_neg c11, if_neg c27])), by rw [ht]; exact hP9, va_K.moved hW.alike hK9, hD9⟩, hS.F ht⟩) hS.2.2 d_Sheet_isInk_46
        · refine lv_iload_n hx hb d_Sheet_isInk_30 rfl (lv_at hl 1 rfl) ?_
          refine lv_iconst (v := 1) hx hb d_Sheet_isInk_31 (by decide) ?_
          refine lv_icmp_lt (tgt := 45) hx hb d_Sheet_isInk_32 (by decide) (fun c32 => ?_) (fun c32 => ?_)
          · refine lv_iconst (v := 0) hx hb d_Sheet_isInk_45 (by decide) ?_
            have hP9 := hP.sub (ws' := []) [] rfl
            have hD9 := hD.sub (ws' := []) [] (by decide) rfl
            have hK9 := hK.sub (tys' := []) [] rfl
            exact W.zret (v := 0) hx hb hr (by decide) (fun t ht hW => ⟨⟨0, (), rfl, (show (0 : Int32) = if v0 = (0 : Int32) then 1 else (if v0 = (1 : Int32) then 1 else (if v0 = (2 : Int32) then (if v1 < (1 : Int32) then (if v0 = (3 : Int32) then (if v1 < (1 : Int32) then 0 else (if (6 : Int32) < v1 then 0 else 1)) else 0) else (if v1 ≤ (100 : Int32) then 1 else (if v0 = (3 : Int32) then (if v1 < (1 : Int32) then 0 else (if (6 : Int32) < v1 then 0 else 1)) else 0))) else (if v0 = (3 : Int32) then (if v1 < (1 : Int32) then 0 else (if (6 : Int32) < v1 then 0 else 1)) else 0))) from (by rw [if_neg c1, if_neg c6, if_neg c11, if_pos c27, if_pos c32])), by rw [ht]; exact hP9, va_K.moved hW.alike hK9, hD9⟩, hS.F ht⟩) hS.2.2 d_Sheet_isInk_46
          · refine lv_iload_n hx hb d_Sheet_isInk_35 rfl (lv_at hl 1 rfl) ?_
            refine lv_bipush (v := 6) hx hb d_Sheet_isInk_36 (by decide) ?_
            refine lv_icmp_gt (tgt := 45) hx hb d_Sheet_isInk_38 (by decide) (fun c38 => ?_) (fun c38 => ?_)
            · refine lv_iconst (v := 0) hx hb d_Sheet_isInk_45 (by decide) ?_
              have hP9 := hP.sub (ws' := []) [] rfl
              have hD9 := hD.sub (ws' := []) [] (by decide) rfl
              have hK9 := hK.sub (tys' := []) [] rfl
              exact W.zret (v := 0) hx hb hr (by decide) (fun t ht hW => ⟨⟨0, (), rfl, (show (0 : Int32) = if v0 = (0 : Int32) then 1 else (if v0 = (1 : Int32) then 1 else (if v0 = (2 : Int32) then (if v1 < (1 : Int32) then (if v0 = (3 : Int32) then (if v1 < (1 : Int32) then 0 else (if (6 : Int32) < v1 then 0 else 1)) else 0) else (if v1 ≤ (100 : Int32) then 1 else (if v0 = (3 : Int32) then (if v1 < (1 : Int32) then 0 else (if (6 : Int32) < v1 then 0 else 1)) else 0))) else (if v0 = (3 : Int32) then (if v1 < (1 : Int32) then 0 else (if (6 : Int32) < v1 then 0 else 1)) else 0))) from (by rw [if_neg c1, if_neg c6, if_neg c11, if_pos c27, if_neg c32, if_pos c38])), by rw [ht]; exact hP9, va_K.moved hW.alike hK9, hD9⟩, hS.F ht⟩) hS.2.2 d_Sheet_isInk_46
            · refine lv_iconst (v := 1) hx hb d_Sheet_isInk_41 (by decide) ?_
              refine lv_goto (tgt := 46) hx hb d_Sheet_isInk_42 (by decide) ?_
              have hP9 := hP.sub (ws' := []) [] rfl
              have hD9 := hD.sub (ws' := []) [] (by decide) rfl
              have hK9 := hK.sub (tys' := []) [] rfl
              exact W.zret (v := 1) hx hb hr (by decide) (fun t ht hW => ⟨⟨1, (), rfl, (show (1 : Int32) = if v0 = (0 : Int32) then 1 else (if v0 = (1 : Int32) then 1 else (if v0 = (2 : Int32) then (if v1 < (1 : Int32) then (if v0 = (3 : Int32) then (if v1 < (1 : Int32) then 0 else (if (6 : Int32) < v1 then 0 else 1)) else 0) else (if v1 ≤ (100 : Int32) then 1 else (if v0 = (3 : Int32) then (if v1 < (1 : Int32) then 0 else (if (6 : Int32) < v1 then 0 else 1)) else 0))) else (if v0 = (3 : Int32) then (if v1 < (1 : Int32) then 0 else (if (6 : Int32) < v1 then 0 else 1)) else 0))) from (by rw [if_neg c1, if_neg c6, if_neg c11, if_pos c27, if_neg c32, if_neg c38])), by rw [ht]; exact hP9, va_K.moved hW.alike hK9, hD9⟩, hS.F ht⟩) hS.2.2 d_Sheet_isInk_46
      · refine lv_iload_n hx hb d_Sheet_isInk_14 rfl (lv_at hl 1 rfl) ?_
        refine lv_iconst (v := 1) hx hb d_Sheet_isInk_15 (by decide) ?_
        refine lv_icmp_lt (tgt := 25) hx hb d_Sheet_isInk_16 (by decide) (fun c16 => ?_) (fun c16 => ?_)
        · refine lv_iload_n hx hb d_Sheet_isInk_25 rfl (lv_at hl 0 rfl) ?_
          refine lv_iconst (v := 3) hx hb d_Sheet_isInk_26 (by decide) ?_
          refine lv_icmp_ne (tgt := 45) hx hb d_Sheet_isInk_27 (by decide) (fun c27 => ?_) (fun c27 => ?_)
          · refine lv_iconst (v := 0) hx hb d_Sheet_isInk_45 (by decide) ?_
            have hP9 := hP.sub (ws' := []) [] rfl
            have hD9 := hD.sub (ws' := []) [] (by decide) rfl
            have hK9 := hK.sub (tys' := []) [] rfl
            exact W.zret (v := 0) hx hb hr (by decide) (fun t ht hW => ⟨⟨0, (), rfl, (show (0 : Int32) = if v0 = (0 : Int32) then 1 else (if v0 = (1 : Int32) then 1 else (if v0 = (2 : Int32) then (if v1 < (1 : Int32) then (if v0 = (3 : Int32) then (if v1 < (1 : Int32) then 0 else (if (6 : Int32) < v1 then 0 else 1)) else 0) else (if v1 ≤ (100 : Int32) then 1 else (if v0 = (3 : Int32) then (if v1 < (1 : Int32) then 0 else (if (6 : Int32) < v1 then 0 else 1)) else 0))) else (if v0 = (3 : Int32) then (if v1 < (1 : Int32) then 0 else (if (6 : Int32) < v1 then 0 else 1)) else 0))) from (by rw [if_neg c1, if_neg c6, if_pos c11, if_pos c16, if_neg c27])), by rw [ht]; exact hP9, va_K.moved hW.alike hK9, hD9⟩, hS.F ht⟩) hS.2.2 d_Sheet_isInk_46
          · refine lv_iload_n hx hb d_Sheet_isInk_30 rfl (lv_at hl 1 rfl) ?_
            refine lv_iconst (v := 1) hx hb d_Sheet_isInk_31 (by decide) ?_
            refine lv_icmp_lt (tgt := 45) hx hb d_Sheet_isInk_32 (by decide) (fun c32 => ?_) (fun c32 => ?_)
            · refine lv_iconst (v := 0) hx hb d_Sheet_isInk_45 (by decide) ?_
              have hP9 := hP.sub (ws' := []) [] rfl
              have hD9 := hD.sub (ws' := []) [] (by decide) rfl
              have hK9 := hK.sub (tys' := []) [] rfl
              exact W.zret (v := 0) hx hb hr (by decide) (fun t ht hW => ⟨⟨0, (), rfl, (show (0 : Int32) = if v0 = (0 : Int32) then 1 else (if v0 = (1 : Int32) then 1 else (if v0 = (2 : Int32) then (if v1 < (1 : Int32) then (if v0 = (3 : Int32) then (if v1 < (1 : Int32) then 0 else (if (6 : Int32) < v1 then 0 else 1)) else 0) else (if v1 ≤ (100 : Int32) then 1 else (if v0 = (3 : Int32) then (if v1 < (1 : Int32) then 0 else (if (6 : Int32) < v1 then 0 else 1)) else 0))) else (if v0 = (3 : Int32) then (if v1 < (1 : Int32) then 0 else (if (6 : Int32) < v1 then 0 else 1)) else 0))) from (by rw [if_neg c1, if_neg c6, if_pos c11, if_pos c16, if_pos c27, if_pos c32])), by rw [ht]; exact hP9, va_K.moved hW.alike hK9, hD9⟩, hS.F ht⟩) hS.2.2 d_Sheet_isInk_46
            · refine lv_iload_n hx hb d_Sheet_isInk_35 rfl (lv_at hl 1 rfl) ?_
              refine lv_bipush (v := 6) hx hb d_Sheet_isInk_36 (by decide) ?_
              refine lv_icmp_gt (tgt := 45) hx hb d_Sheet_isInk_38 (by decide) (fun c38 => ?_) (fun c38 => ?_)
              · refine lv_iconst (v := 0) hx hb d_Sheet_isInk_45 (by decide) ?_
                have hP9 := hP.sub (ws' := []) [] rfl
                have hD9 := hD.sub (ws' := []) [] (by decide) rfl
                have hK9 := hK.sub (tys' := []) [] rfl
                exact W.zret (v := 0) hx hb hr (by decide) (fun t ht hW => ⟨⟨0, (), rfl, (show (0 : Int32) = if v0 = (0 : Int32) then 1 else (if v0 = (1 : Int32) then 1 else (if v0 = (2 : Int32) then (if v1 < (1 : Int32) then (if v0 = (3 : Int32) then (if v1 < (1 : Int32) then 0 else (if (6 : Int32) < v1 then 0 else 1)) else 0) else (if v1 ≤ (100 : Int32) then 1 else (if v0 = (3 : Int32) then (if v1 < (1 : Int32) then 0 else (if (6 : Int32) < v1 then 0 else 1)) else 0))) else (if v0 = (3 : Int32) then (if v1 < (1 : Int32) then 0 else (if (6 : Int32) < v1 then 0 else 1)) else 0))) from (by rw [if_neg c1, if_neg c6, if_pos c11, if_pos c16, if_pos c27, if_neg c32, if_pos c38])), by rw [ht]; exact hP9, va_K.moved hW.alike hK9, hD9⟩, hS.F ht⟩) hS.2.2 d_Sheet_isInk_46
              · refine lv_iconst (v := 1) hx hb d_Sheet_isInk_41 (by decide) ?_
                refine lv_goto (tgt := 46) hx hb d_Sheet_isInk_42 (by decide) ?_
                have hP9 := hP.sub (ws' := []) [] rfl
                have hD9 := hD.sub (ws' := []) [] (by decide) rfl
                have hK9 := hK.sub (tys' := []) [] rfl
                exact W.zret (v := 1) hx hb hr (by decide) (fun t ht hW => ⟨⟨1, (), rfl, (show (1 : Int32) = if v0 = (0 : Int32) then 1 else (if v0 = (1 : Int32) then 1 else (if v0 = (2 : Int32) then (if v1 < (1 : Int32) then (if v0 = (3 : Int32) then (if v1 < (1 : Int32) then 0 else (if (6 : Int32) < v1 then 0 else 1)) else 0) else (if v1 ≤ (100 : Int32) then 1 else (if v0 = (3 : Int32) then (if v1 < (1 : Int32) then 0 else (if (6 : Int32) < v1 then 0 else 1)) else 0))) else (if v0 = (3 : Int32) then (if v1 < (1 : Int32) then 0 else (if (6 : Int32) < v1 then 0 else 1)) else 0))) from (by rw [if_neg c1, if_neg c6, if_pos c11, if_pos c16, if_pos c27, if_neg c32, if_neg c38])), by rw [ht]; exact hP9, va_K.moved hW.alike hK9, hD9⟩, hS.F ht⟩) hS.2.2 d_Sheet_isInk_46
        · refine lv_iload_n hx hb d_Sheet_isInk_19 rfl (lv_at hl 1 rfl) ?_
          refine lv_bipush (v := 100) hx hb d_Sheet_isInk_20 (by decide) ?_
          refine lv_icmp_le (tgt := 41) hx hb d_Sheet_isInk_22 (by decide) (fun c22 => ?_) (fun c22 => ?_)
          · refine lv_iconst (v := 1) hx hb d_Sheet_isInk_41 (by decide) ?_
            refine lv_goto (tgt := 46) hx hb d_Sheet_isInk_42 (by decide) ?_
            have hP9 := hP.sub (ws' := []) [] rfl
            have hD9 := hD.sub (ws' := []) [] (by decide) rfl
            have hK9 := hK.sub (tys' := []) [] rfl
            exact W.zret (v := 1) hx hb hr (by decide) (fun t ht hW => ⟨⟨1, (), rfl, (show (1 : Int32) = if v0 = (0 : Int32) then 1 else (if v0 = (1 : Int32) then 1 else (if v0 = (2 : Int32) then (if v1 < (1 : Int32) then (if v0 = (3 : Int32) then (if v1 < (1 : Int32) then 0 else (if (6 : Int32) < v1 then 0 else 1)) else 0) else (if v1 ≤ (100 : Int32) then 1 else (if v0 = (3 : Int32) then (if v1 < (1 : Int32) then 0 else (if (6 : Int32) < v1 then 0 else 1)) else 0))) else (if v0 = (3 : Int32) then (if v1 < (1 : Int32) then 0 else (if (6 : Int32) < v1 then 0 else 1)) else 0))) from (by rw [if_neg c1, if_neg c6, if_pos c11, if_neg c16, if_pos c22])), by rw [ht]; exact hP9, va_K.moved hW.alike hK9, hD9⟩, hS.F ht⟩) hS.2.2 d_Sheet_isInk_46
          · refine lv_iload_n hx hb d_Sheet_isInk_25 rfl (lv_at hl 0 rfl) ?_
            refine lv_iconst (v := 3) hx hb d_Sheet_isInk_26 (by decide) ?_
            refine lv_icmp_ne (tgt := 45) hx hb d_Sheet_isInk_27 (by decide) (fun c27 => ?_) (fun c27 => ?_)
            · refine lv_iconst (v := 0) hx hb d_Sheet_isInk_45 (by decide) ?_
              have hP9 := hP.sub (ws' := []) [] rfl
              have hD9 := hD.sub (ws' := []) [] (by decide) rfl
              have hK9 := hK.sub (tys' := []) [] rfl
              exact W.zret (v := 0) hx hb hr (by decide) (fun t ht hW => ⟨⟨0, (), rfl, (show (0 : Int32) = if v0 = (0 : Int32) then 1 else (if v0 = (1 : Int32) then 1 else (if v0 = (2 : Int32) then (if v1 < (1 : Int32) then (if v0 = (3 : Int32) then (if v1 < (1 : Int32) then 0 else (if (6 : Int32) < v1 then 0 else 1)) else 0) else (if v1 ≤ (100 : Int32) then 1 else (if v0 = (3 : Int32) then (if v1 < (1 : Int32) then 0 else (if (6 : Int32) < v1 then 0 else 1)) else 0))) else (if v0 = (3 : Int32) then (if v1 < (1 : Int32) then 0 else (if (6 : Int32) < v1 then 0 else 1)) else 0))) from (by rw [if_neg c1, if_neg c6, if_pos c11, if_neg c16, if_neg c22, if_neg c27])), by rw [ht]; exact hP9, va_K.moved hW.alike hK9, hD9⟩, hS.F ht⟩) hS.2.2 d_Sheet_isInk_46
            · refine lv_iload_n hx hb d_Sheet_isInk_30 rfl (lv_at hl 1 rfl) ?_
              refine lv_iconst (v := 1) hx hb d_Sheet_isInk_31 (by decide) ?_
              refine lv_icmp_lt (tgt := 45) hx hb d_Sheet_isInk_32 (by decide) (fun c32 => ?_) (fun c32 => ?_)
              · refine lv_iconst (v := 0) hx hb d_Sheet_isInk_45 (by decide) ?_
                have hP9 := hP.sub (ws' := []) [] rfl
                have hD9 := hD.sub (ws' := []) [] (by decide) rfl
                have hK9 := hK.sub (tys' := []) [] rfl
                exact W.zret (v := 0) hx hb hr (by decide) (fun t ht hW => ⟨⟨0, (), rfl, (show (0 : Int32) = if v0 = (0 : Int32) then 1 else (if v0 = (1 : Int32) then 1 else (if v0 = (2 : Int32) then (if v1 < (1 : Int32) then (if v0 = (3 : Int32) then (if v1 < (1 : Int32) then 0 else (if (6 : Int32) < v1 then 0 else 1)) else 0) else (if v1 ≤ (100 : Int32) then 1 else (if v0 = (3 : Int32) then (if v1 < (1 : Int32) then 0 else (if (6 : Int32) < v1 then 0 else 1)) else 0))) else (if v0 = (3 : Int32) then (if v1 < (1 : Int32) then 0 else (if (6 : Int32) < v1 then 0 else 1)) else 0))) from (by rw [if_neg c1, if_neg c6, if_pos c11, if_neg c16, if_neg c22, if_pos c27, if_pos c32])), by rw [ht]; exact hP9, va_K.moved hW.alike hK9, hD9⟩, hS.F ht⟩) hS.2.2 d_Sheet_isInk_46
              · refine lv_iload_n hx hb d_Sheet_isInk_35 rfl (lv_at hl 1 rfl) ?_
                refine lv_bipush (v := 6) hx hb d_Sheet_isInk_36 (by decide) ?_
                refine lv_icmp_gt (tgt := 45) hx hb d_Sheet_isInk_38 (by decide) (fun c38 => ?_) (fun c38 => ?_)
                · refine lv_iconst (v := 0) hx hb d_Sheet_isInk_45 (by decide) ?_
                  have hP9 := hP.sub (ws' := []) [] rfl
                  have hD9 := hD.sub (ws' := []) [] (by decide) rfl
                  have hK9 := hK.sub (tys' := []) [] rfl
                  exact W.zret (v := 0) hx hb hr (by decide) (fun t ht hW => ⟨⟨0, (), rfl, (show (0 : Int32) = if v0 = (0 : Int32) then 1 else (if v0 = (1 : Int32) then 1 else (if v0 = (2 : Int32) then (if v1 < (1 : Int32) then (if v0 = (3 : Int32) then (if v1 < (1 : Int32) then 0 else (if (6 : Int32) < v1 then 0 else 1)) else 0) else (if v1 ≤ (100 : Int32) then 1 else (if v0 = (3 : Int32) then (if v1 < (1 : Int32) then 0 else (if (6 : Int32) < v1 then 0 else 1)) else 0))) else (if v0 = (3 : Int32) then (if v1 < (1 : Int32) then 0 else (if (6 : Int32) < v1 then 0 else 1)) else 0))) from (by rw [if_neg c1, if_neg c6, if_pos c11, if_neg c16, if_neg c22, if_pos c27, if_neg c32, if_pos c38])), by rw [ht]; exact hP9, va_K.moved hW.alike hK9, hD9⟩, hS.F ht⟩) hS.2.2 d_Sheet_isInk_46
                · refine lv_iconst (v := 1) hx hb d_Sheet_isInk_41 (by decide) ?_
                  refine lv_goto (tgt := 46) hx hb d_Sheet_isInk_42 (by decide) ?_
                  have hP9 := hP.sub (ws' := []) [] rfl
                  have hD9 := hD.sub (ws' := []) [] (by decide) rfl
                  have hK9 := hK.sub (tys' := []) [] rfl
                  exact W.zret (v := 1) hx hb hr (by decide) (fun t ht hW => ⟨⟨1, (), rfl, (show (1 : Int32) = if v0 = (0 : Int32) then 1 else (if v0 = (1 : Int32) then 1 else (if v0 = (2 : Int32) then (if v1 < (1 : Int32) then (if v0 = (3 : Int32) then (if v1 < (1 : Int32) then 0 else (if (6 : Int32) < v1 then 0 else 1)) else 0) else (if v1 ≤ (100 : Int32) then 1 else (if v0 = (3 : Int32) then (if v1 < (1 : Int32) then 0 else (if (6 : Int32) < v1 then 0 else 1)) else 0))) else (if v0 = (3 : Int32) then (if v1 < (1 : Int32) then 0 else (if (6 : Int32) < v1 then 0 else 1)) else 0))) from (by rw [if_neg c1, if_neg c6, if_pos c11, if_neg c16, if_neg c22, if_pos c27, if_neg c32, if_neg c38])), by rw [ht]; exact hP9, va_K.moved hW.alike hK9, hD9⟩, hS.F ht⟩) hS.2.2 d_Sheet_isInk_46

abbrev at_g_Sheet_setSourceOpaque (dC : Nat → ClassId) (dI : Nat → Nat → Nat) (h0 : Nat) (o_page : Nat) (o_marks : Nat) (o_count : Int32) (o_dots : Nat) (o_used : Int32) (o_overrun : Int32) (o_due : Int32) (o_band : Nat) (o_bandLines : Int32) (o_bandWords : Int32) (o_ink : Int32) (o_inkNumber : Int32) (o_inkOpaque : Int32) (o_sourceOpaque : Int32) (o_ruleWidth : Int32) (o_ruleHeight : Int32) (o_pattern : Int32) (v0 : Int32) (A : Nat → Prop) (u : Int32) (t : State) : Prop := match u with
  | z0 => va_P (dC, dI) vcl [(h0, .inr (12, [.ref o_page, .ref o_marks, .int o_count, .ref o_dots, .int o_used, .int o_overrun, .int o_due, .ref o_band, .int o_bandLines, .int o_bandWords, .int o_ink, .int o_inkNumber, .int o_inkOpaque, .int z0, .int o_ruleWidth, .int o_ruleHeight, .int o_pattern]))] t.heap ∧ va_K (dC, dI) vcl [] t ∧ va_D A [(h0, .inr (12, [.ref o_page, .ref o_marks, .int o_count, .ref o_dots, .int o_used, .int o_overrun, .int o_due, .ref o_band, .int o_bandLines, .int o_bandWords, .int o_ink, .int o_inkNumber, .int o_inkOpaque, .int z0, .int o_ruleWidth, .int o_ruleHeight, .int o_pattern]))]
abbrev po_g_Sheet_setSourceOpaque (h0 : Nat) (o_page : Nat) (o_marks : Nat) (o_count : Int32) (o_dots : Nat) (o_used : Int32) (o_overrun : Int32) (o_due : Int32) (o_band : Nat) (o_bandLines : Int32) (o_bandWords : Int32) (o_ink : Int32) (o_inkNumber : Int32) (o_inkOpaque : Int32) (o_sourceOpaque : Int32) (o_ruleWidth : Int32) (o_ruleHeight : Int32) (o_pattern : Int32) (v0 : Int32) (u : Int32) : Prop := match u with
  | z0 => z0 = if v0 = (1 : Int32) then 1 else (if v0 = (0 : Int32) then 0 else (if o_sourceOpaque = (0 : Int32) then 0 else 1))
abbrev q_g_Sheet_setSourceOpaque (dC : Nat → ClassId) (dI : Nat → Nat → Nat) (h0 : Nat) (o_page : Nat) (o_marks : Nat) (o_count : Int32) (o_dots : Nat) (o_used : Int32) (o_overrun : Int32) (o_due : Int32) (o_band : Nat) (o_bandLines : Int32) (o_bandWords : Int32) (o_ink : Int32) (o_inkNumber : Int32) (o_inkOpaque : Int32) (o_sourceOpaque : Int32) (o_ruleWidth : Int32) (o_ruleHeight : Int32) (o_pattern : Int32) (v0 : Int32) (A : Nat → Prop) : Array Value → State → Outcome → State → Prop := va_Qv (po_g_Sheet_setSourceOpaque h0 o_page o_marks o_count o_dots o_used o_overrun o_due o_band o_bandLines o_bandWords o_ink o_inkNumber o_inkOpaque o_sourceOpaque o_ruleWidth o_ruleHeight o_pattern v0) (at_g_Sheet_setSourceOpaque dC dI h0 o_page o_marks o_count o_dots o_used o_overrun o_due o_band o_bandLines o_bandWords o_ink o_inkNumber o_inkOpaque o_sourceOpaque o_ruleWidth o_ruleHeight o_pattern v0 A) A
abbrev rm_g_Sheet_setSourceOpaque : Room := { frames := 0, cells := 0, slots := 0, locals := 0 }
set_option maxHeartbeats 4000000 in
set_option maxRecDepth 100000 in
theorem g_Sheet_setSourceOpaque (l : Launch) (dC : Nat → ClassId) (dI : Nat → Nat → Nat) (tt : Nat → Nat) (h0 : Nat) (o_page : Nat) (o_marks : Nat) (o_count : Int32) (o_dots : Nat) (o_used : Int32) (o_overrun : Int32) (o_due : Int32) (o_band : Nat) (o_bandLines : Int32) (o_bandWords : Int32) (o_ink : Int32) (o_inkNumber : Int32) (o_inkOpaque : Int32) (o_sourceOpaque : Int32) (o_ruleWidth : Int32) (o_ruleHeight : Int32) (o_pattern : Int32) (v0 : Int32) (sz : Nat)  : Met l y_Sheet_setSourceOpaque w_Sheet_setSourceOpaque rm_g_Sheet_setSourceOpaque (va_Pc [.ref h0, .int v0] (fun U => U.heap.size = sz ∧ va_P (dC, dI) vcl [(h0, .inr (12, [.ref o_page, .ref o_marks, .int o_count, .ref o_dots, .int o_used, .int o_overrun, .int o_due, .ref o_band, .int o_bandLines, .int o_bandWords, .int o_ink, .int o_inkNumber, .int o_inkOpaque, .int o_sourceOpaque, .int o_ruleWidth, .int o_ruleHeight, .int o_pattern]))] U.heap ∧ va_K (dC, dI) vcl [] U ∧ va_D (fun _ => True) [(h0, .inr (12, [.ref o_page, .ref o_marks, .int o_count, .ref o_dots, .int o_used, .int o_overrun, .int o_due, .ref o_band, .int o_bandLines, .int o_bandWords, .int o_ink, .int o_inkNumber, .int o_inkOpaque, .int o_sourceOpaque, .int o_ruleWidth, .int o_ruleHeight, .int o_pattern]))] ∧ SF tt (va_A [(h0, .inr (12, [.ref o_page, .ref o_marks, .int o_count, .ref o_dots, .int o_used, .int o_overrun, .int o_due, .ref o_band, .int o_bandLines, .int o_bandWords, .int o_ink, .int o_inkNumber, .int o_inkOpaque, .int o_sourceOpaque, .int o_ruleWidth, .int o_ruleHeight, .int o_pattern]))] sz) U U.heap)) (q_g_Sheet_setSourceOpaque dC dI h0 o_page o_marks o_count o_dots o_used o_overrun o_due o_band o_bandLines o_bandWords o_ink o_inkNumber o_inkOpaque o_sourceOpaque o_ruleWidth o_ruleHeight o_pattern v0 (va_A [(h0, .inr (12, [.ref o_page, .ref o_marks, .int o_count, .ref o_dots, .int o_used, .int o_overrun, .int o_due, .ref o_band, .int o_bandLines, .int o_bandWords, .int o_ink, .int o_inkNumber, .int o_inkOpaque, .int o_sourceOpaque, .int o_ruleWidth, .int o_ruleHeight, .int o_pattern]))] sz)) 0 0 (va_A [(h0, .inr (12, [.ref o_page, .ref o_marks, .int o_count, .ref o_dots, .int o_used, .int o_overrun, .int o_due, .ref o_band, .int o_bandLines, .int o_bandWords, .int o_ink, .int o_inkNumber, .int o_inkOpaque, .int o_sourceOpaque, .int o_ruleWidth, .int o_ruleHeight, .int o_pattern]))] sz) := by
  refine Met.ofW (cc := b_Sheet_setSourceOpaque) (maxL := 2) (ret := none) (by decide) rfl ?_
  intro p e s m args below meth c s₁ B hml hv
  obtain ⟨rfl, hsz, hP, hK, hD0, hF⟩ := hv
  have hx := B.exec
  have hb := B.bytes
  have hr := B.returns
  have hwd : ∀ w ∈ gT, w.before _ s = true := fun w h => atoms_spec (ws := w_Sheet_setSourceOpaque) B.pre w (List.mem_cons_of_mem _ h)
  have hown : s.vm.findClass R_Sheet = some m.cls := findClass_of_methodNamed B.named
  have hlocks := B.notSynchronized
  subst hsz
  have hD := hD0.self (sz := s.heap.size)
  generalize hAe : va_A [(h0, .inr (12, [.ref o_page, .ref o_marks, .int o_count, .ref o_dots, .int o_used, .int o_overrun, .int o_due, .ref o_band, .int o_bandLines, .int o_bandWords, .int o_ink, .int o_inkNumber, .int o_inkOpaque, .int o_sourceOpaque, .int o_ruleWidth, .int o_ruleHeight, .int o_pattern]))] s.heap.size = A at hD hF ⊢
  have hA : ∀ q : Nat, s.heap.size ≤ q → A q := fun q h => by rw [← hAe]; exact Or.inr h
  have hS : va_S A s.heap s.heap [] := va_S.rf
  have hP : va_P (dC, dI) vcl [(h0, .inr (12, [.ref o_page, .ref o_marks, .int o_count, .ref o_dots, .int o_used, .int o_overrun, .int o_due, .ref o_band, .int o_bandLines, .int o_bandWords, .int o_ink, .int o_inkNumber, .int o_inkOpaque, .int o_sourceOpaque, .int o_ruleWidth, .int o_ruleHeight, .int o_pattern]))] s.heap := hP
  have hl := lv_entry ([.ref h0, .int v0]) (n := 2) (Nat.le_of_ble_eq_true rfl)
  rw [lg_entry_eq]
  generalize (lg_sl ([.ref h0, .int v0]) ++ List.replicate (2 - (lg_sl ([.ref h0, .int v0])).length) Slot.unset).toArray = ls at hl ⊢
  have hl : lv_has ls 2 [(0, .ref h0), (1, .int v0)] := hl
  refine lv_aload_n hx hb d_Sheet_setSourceOpaque_0 rfl (lv_at hl 0 rfl) ?_
  refine lv_iload_n hx hb d_Sheet_setSourceOpaque_1 rfl (lv_at hl 1 rfl) ?_
  refine lv_iconst (v := 1) hx hb d_Sheet_setSourceOpaque_2 (by decide) ?_
  refine lv_icmp_eq (tgt := 17) hx hb d_Sheet_setSourceOpaque_3 (by decide) (fun c3 => ?_) (fun c3 => ?_)
  · refine lv_iconst (v := 1) hx hb d_Sheet_setSourceOpaque_17 (by decide) ?_
    refine lv_goto (tgt := 22) hx hb d_Sheet_setSourceOpaque_18 (by decide) ?_
    refine va_put (D := (dC, dI)) (ci := 12) (v := .int 1) (ty := .boolean) (C := R_Sheet) (T := F_Sheet) (N := 17) hx hb hwd i_Sheet t_Sheet to_Sheet no_Sheet hown hK hP hD hS 0 rfl rfl 13 (by decide) (hwd _ wd_1_206) (fun _ h9 => h9) rfl (by decide +kernel) (by decide) rfl (Nat.le_of_ble_eq_true rfl) d_Sheet_setSourceOpaque_22 ?_
    clear hP hD hS
    intro H locs hP hD hS
    replace hP : va_P (dC, dI) vcl [(h0, .inr (12, [.ref o_page, .ref o_marks, .int o_count, .ref o_dots, .int o_used, .int o_overrun, .int o_due, .ref o_band, .int o_bandLines, .int o_bandWords, .int o_ink, .int o_inkNumber, .int o_inkOpaque, .int 1, .int o_ruleWidth, .int o_ruleHeight, .int o_pattern]))] H := hP
    replace hD : va_D A [(h0, .inr (12, [.ref o_page, .ref o_marks, .int o_count, .ref o_dots, .int o_used, .int o_overrun, .int o_due, .ref o_band, .int o_bandLines, .int o_bandWords, .int o_ink, .int o_inkNumber, .int o_inkOpaque, .int 1, .int o_ruleWidth, .int o_ruleHeight, .int o_pattern]))] := hD
    have hP9 := hP.sub (ws' := [(h0, .inr (12, [.ref o_page, .ref o_marks, .int o_count, .ref o_dots, .int o_used, .int o_overrun, .int o_due, .ref o_band, .int o_bandLines, .int o_bandWords, .int o_ink, .int o_inkNumber, .int o_inkOpaque, .int 1, .int o_ruleWidth, .int o_ruleHeight, .int o_pattern]))]) [0] rfl
    have hD9 := hD.sub (ws' := [(h0, .inr (12, [.ref o_page, .ref o_marks, .int o_count, .ref o_dots, .int o_used, .int o_overrun, .int o_due, .ref o_band, .int o_bandLines, .int o_bandWords, .int o_ink, .int o_inkNumber, .int o_inkOpaque, .int 1, .int o_ruleWidth, .int o_ruleHeight, .int o_pattern]))]) [0] (by decide) rfl
    have hK9 := hK.sub (tys' := []) [] rfl
    exact W.vret hx hb hr (fun t ht hW => ⟨⟨(1), rfl, (show (1 : Int32) = if v0 = (1 : Int32) then 1 else (if v0 = (0 : Int32) then 0 else (if o_sourceOpaque = (0 : Int32) then 0 else 1)) from (by rw [if_pos c3])), by rw [ht]; exact hP9, va_K.moved hW.alike hK9, hD9⟩, hS.F ht⟩) hS.2.2 d_Sheet_setSourceOpaque_25
  · refine lv_iload_n hx hb d_Sheet_setSourceOpaque_6 rfl (lv_at hl 1 rfl) ?_
    refine lv_if_eq (tgt := 21) hx hb d_Sheet_setSourceOpaque_7 (by decide) (fun c7 => ?_) (fun c7 => ?_)
    · refine lv_iconst (v := 0) hx hb d_Sheet_setSourceOpaque_21 (by decide) ?_
      refine va_put (D := (dC, dI)) (ci := 12) (v := .int 0) (ty := .boolean) (C := R_Sheet) (T := F_Sheet) (N := 17) hx hb hwd i_Sheet t_Sheet to_Sheet no_Sheet hown hK hP hD hS 0 rfl rfl 13 (by decide) (hwd _ wd_1_206) (fun _ h9 => h9) rfl (by decide +kernel) (by decide) rfl (Nat.le_of_ble_eq_true rfl) d_Sheet_setSourceOpaque_22 ?_
      clear hP hD hS
      intro H locs hP hD hS
      replace hP : va_P (dC, dI) vcl [(h0, .inr (12, [.ref o_page, .ref o_marks, .int o_count, .ref o_dots, .int o_used, .int o_overrun, .int o_due, .ref o_band, .int o_bandLines, .int o_bandWords, .int o_ink, .int o_inkNumber, .int o_inkOpaque, .int 0, .int o_ruleWidth, .int o_ruleHeight, .int o_pattern]))] H := hP
      replace hD : va_D A [(h0, .inr (12, [.ref o_page, .ref o_marks, .int o_count, .ref o_dots, .int o_used, .int o_overrun, .int o_due, .ref o_band, .int o_bandLines, .int o_bandWords, .int o_ink, .int o_inkNumber, .int o_inkOpaque, .int 0, .int o_ruleWidth, .int o_ruleHeight, .int o_pattern]))] := hD
      have hP9 := hP.sub (ws' := [(h0, .inr (12, [.ref o_page, .ref o_marks, .int o_count, .ref o_dots, .int o_used, .int o_overrun, .int o_due, .ref o_band, .int o_bandLines, .int o_bandWords, .int o_ink, .int o_inkNumber, .int o_inkOpaque, .int 0, .int o_ruleWidth, .int o_ruleHeight, .int o_pattern]))]) [0] rfl
      have hD9 := hD.sub (ws' := [(h0, .inr (12, [.ref o_page, .ref o_marks, .int o_count, .ref o_dots, .int o_used, .int o_overrun, .int o_due, .ref o_band, .int o_bandLines, .int o_bandWords, .int o_ink, .int o_inkNumber, .int o_inkOpaque, .int 0, .int o_ruleWidth, .int o_ruleHeight, .int o_pattern]))]) [0] (by decide) rfl
      have hK9 := hK.sub (tys' := []) [] rfl
      exact W.vret hx hb hr (fun t ht hW => ⟨⟨(0), rfl, (show (0 : Int32) = if v0 = (1 : Int32) then 1 else (if v0 = (0 : Int32) then 0 else (if o_sourceOpaque = (0 : Int32) then 0 else 1)) from (by rw [if_neg c3, if_pos c7])), by rw [ht]; exact hP9, va_K.moved hW.alike hK9, hD9⟩, hS.F ht⟩) hS.2.2 d_Sheet_setSourceOpaque_25
    · refine lv_aload_n hx hb d_Sheet_setSourceOpaque_10 rfl (lv_at hl 0 rfl) ?_
      refine va_get (D := (dC, dI)) (ci := 12) (v := .int o_sourceOpaque) (C := R_Sheet) (T := F_Sheet) (N := 17) hx hb hwd i_Sheet hown hK hP 0 rfl rfl 13 (by decide) (hwd _ wd_1_206) (fun _ h9 => h9) rfl d_Sheet_setSourceOpaque_11 ?_
      refine lv_if_eq (tgt := 21) hx hb d_Sheet_setSourceOpaque_14 (by decide) (fun c14 => ?_) (fun c14 => ?_)
      · refine lv_iconst (v := 0) hx hb d_Sheet_setSourceOpaque_21 (by decide) ?_
        refine va_put (D := (dC, dI)) (ci := 12) (v := .int 0) (ty := .boolean) (C := R_Sheet) (T := F_Sheet) (N := 17) hx hb hwd i_Sheet t_Sheet to_Sheet no_Sheet hown hK hP hD hS 0 rfl rfl 13 (by decide) (hwd _ wd_1_206) (fun _ h9 => h9) rfl (by decide +kernel) (by decide) rfl (Nat.le_of_ble_eq_true rfl) d_Sheet_setSourceOpaque_22 ?_
        clear hP hD hS
        intro H locs hP hD hS
        replace hP : va_P (dC, dI) vcl [(h0, .inr (12, [.ref o_page, .ref o_marks, .int o_count, .ref o_dots, .int o_used, .int o_overrun, .int o_due, .ref o_band, .int o_bandLines, .int o_bandWords, .int o_ink, .int o_inkNumber, .int o_inkOpaque, .int 0, .int o_ruleWidth, .int o_ruleHeight, .int o_pattern]))] H := hP
        replace hD : va_D A [(h0, .inr (12, [.ref o_page, .ref o_marks, .int o_count, .ref o_dots, .int o_used, .int o_overrun, .int o_due, .ref o_band, .int o_bandLines, .int o_bandWords, .int o_ink, .int o_inkNumber, .int o_inkOpaque, .int 0, .int o_ruleWidth, .int o_ruleHeight, .int o_pattern]))] := hD
        have hP9 := hP.sub (ws' := [(h0, .inr (12, [.ref o_page, .ref o_marks, .int o_count, .ref o_dots, .int o_used, .int o_overrun, .int o_due, .ref o_band, .int o_bandLines, .int o_bandWords, .int o_ink, .int o_inkNumber, .int o_inkOpaque, .int 0, .int o_ruleWidth, .int o_ruleHeight, .int o_pattern]))]) [0] rfl
        have hD9 := hD.sub (ws' := [(h0, .inr (12, [.ref o_page, .ref o_marks, .int o_count, .ref o_dots, .int o_used, .int o_overrun, .int o_due, .ref o_band, .int o_bandLines, .int o_bandWords, .int o_ink, .int o_inkNumber, .int o_inkOpaque, .int 0, .int o_ruleWidth, .int o_ruleHeight, .int o_pattern]))]) [0] (by decide) rfl
        have hK9 := hK.sub (tys' := []) [] rfl
        exact W.vret hx hb hr (fun t ht hW => ⟨⟨(0), rfl, (show (0 : Int32) = if v0 = (1 : Int32) then 1 else (if v0 = (0 : Int32) then 0 else (if o_sourceOpaque = (0 : Int32) then 0 else 1)) from (by rw [if_neg c3, if_neg c7, if_pos c14])), by rw [ht]; exact hP9, va_K.moved hW.alike hK9, hD9⟩, hS.F ht⟩) hS.2.2 d_Sheet_setSourceOpaque_25
      · refine lv_iconst (v := 1) hx hb d_Sheet_setSourceOpaque_17 (by decide) ?_
        refine lv_goto (tgt := 22) hx hb d_Sheet_setSourceOpaque_18 (by decide) ?_
        refine va_put (D := (dC, dI)) (ci := 12) (v := .int 1) (ty := .boolean) (C := R_Sheet) (T := F_Sheet) (N := 17) hx hb hwd i_Sheet t_Sheet to_Sheet no_Sheet hown hK hP hD hS 0 rfl rfl 13 (by decide) (hwd _ wd_1_206) (fun _ h9 => h9) rfl (by decide +kernel) (by decide) rfl (Nat.le_of_ble_eq_true rfl) d_Sheet_setSourceOpaque_22 ?_
        clear hP hD hS
        intro H locs hP hD hS
        replace hP : va_P (dC, dI) vcl [(h0, .inr (12, [.ref o_page, .ref o_marks, .int o_count, .ref o_dots, .int o_used, .int o_overrun, .int o_due, .ref o_band, .int o_bandLines, .int o_bandWords, .int o_ink, .int o_inkNumber, .int o_inkOpaque, .int 1, .int o_ruleWidth, .int o_ruleHeight, .int o_pattern]))] H := hP
        replace hD : va_D A [(h0, .inr (12, [.ref o_page, .ref o_marks, .int o_count, .ref o_dots, .int o_used, .int o_overrun, .int o_due, .ref o_band, .int o_bandLines, .int o_bandWords, .int o_ink, .int o_inkNumber, .int o_inkOpaque, .int 1, .int o_ruleWidth, .int o_ruleHeight, .int o_pattern]))] := hD
        have hP9 := hP.sub (ws' := [(h0, .inr (12, [.ref o_page, .ref o_marks, .int o_count, .ref o_dots, .int o_used, .int o_overrun, .int o_due, .ref o_band, .int o_bandLines, .int o_bandWords, .int o_ink, .int o_inkNumber, .int o_inkOpaque, .int 1, .int o_ruleWidth, .int o_ruleHeight, .int o_pattern]))]) [0] rfl
        have hD9 := hD.sub (ws' := [(h0, .inr (12, [.ref o_page, .ref o_marks, .int o_count, .ref o_dots, .int o_used, .int o_overrun, .int o_due, .ref o_band, .int o_bandLines, .int o_bandWords, .int o_ink, .int o_inkNumber, .int o_inkOpaque, .int 1, .int o_ruleWidth, .int o_ruleHeight, .int o_pattern]))]) [0] (by decide) rfl
        have hK9 := hK.sub (tys' := []) [] rfl
        exact W.vret hx hb hr (fun t ht hW => ⟨⟨(1), rfl, (show (1 : Int32) = if v0 = (1 : Int32) then 1 else (if v0 = (0 : Int32) then 0 else (if o_sourceOpaque = (0 : Int32) then 0 else 1)) from (by rw [if_neg c3, if_neg c7, if_neg c14])), by rw [ht]; exact hP9, va_K.moved hW.alike hK9, hD9⟩, hS.F ht⟩) hS.2.2 d_Sheet_setSourceOpaque_25

abbrev at_g_Sheet_setInkOpaque (dC : Nat → ClassId) (dI : Nat → Nat → Nat) (h0 : Nat) (o_page : Nat) (o_marks : Nat) (o_count : Int32) (o_dots : Nat) (o_used : Int32) (o_overrun : Int32) (o_due : Int32) (o_band : Nat) (o_bandLines : Int32) (o_bandWords : Int32) (o_ink : Int32) (o_inkNumber : Int32) (o_inkOpaque : Int32) (o_sourceOpaque : Int32) (o_ruleWidth : Int32) (o_ruleHeight : Int32) (o_pattern : Int32) (v0 : Int32) (A : Nat → Prop) (u : Int32) (t : State) : Prop := match u with
  | z0 => va_P (dC, dI) vcl [(h0, .inr (12, [.ref o_page, .ref o_marks, .int o_count, .ref o_dots, .int o_used, .int o_overrun, .int o_due, .ref o_band, .int o_bandLines, .int o_bandWords, .int o_ink, .int o_inkNumber, .int z0, .int o_sourceOpaque, .int o_ruleWidth, .int o_ruleHeight, .int o_pattern]))] t.heap ∧ va_K (dC, dI) vcl [] t ∧ va_D A [(h0, .inr (12, [.ref o_page, .ref o_marks, .int o_count, .ref o_dots, .int o_used, .int o_overrun, .int o_due, .ref o_band, .int o_bandLines, .int o_bandWords, .int o_ink, .int o_inkNumber, .int z0, .int o_sourceOpaque, .int o_ruleWidth, .int o_ruleHeight, .int o_pattern]))]
abbrev po_g_Sheet_setInkOpaque (h0 : Nat) (o_page : Nat) (o_marks : Nat) (o_count : Int32) (o_dots : Nat) (o_used : Int32) (o_overrun : Int32) (o_due : Int32) (o_band : Nat) (o_bandLines : Int32) (o_bandWords : Int32) (o_ink : Int32) (o_inkNumber : Int32) (o_inkOpaque : Int32) (o_sourceOpaque : Int32) (o_ruleWidth : Int32) (o_ruleHeight : Int32) (o_pattern : Int32) (v0 : Int32) (u : Int32) : Prop := match u with
  | z0 => z0 = if v0 = (1 : Int32) then 1 else (if v0 = (0 : Int32) then 0 else (if o_inkOpaque = (0 : Int32) then 0 else 1))
abbrev q_g_Sheet_setInkOpaque (dC : Nat → ClassId) (dI : Nat → Nat → Nat) (h0 : Nat) (o_page : Nat) (o_marks : Nat) (o_count : Int32) (o_dots : Nat) (o_used : Int32) (o_overrun : Int32) (o_due : Int32) (o_band : Nat) (o_bandLines : Int32) (o_bandWords : Int32) (o_ink : Int32) (o_inkNumber : Int32) (o_inkOpaque : Int32) (o_sourceOpaque : Int32) (o_ruleWidth : Int32) (o_ruleHeight : Int32) (o_pattern : Int32) (v0 : Int32) (A : Nat → Prop) : Array Value → State → Outcome → State → Prop := va_Qv (po_g_Sheet_setInkOpaque h0 o_page o_marks o_count o_dots o_used o_overrun o_due o_band o_bandLines o_bandWords o_ink o_inkNumber o_inkOpaque o_sourceOpaque o_ruleWidth o_ruleHeight o_pattern v0) (at_g_Sheet_setInkOpaque dC dI h0 o_page o_marks o_count o_dots o_used o_overrun o_due o_band o_bandLines o_bandWords o_ink o_inkNumber o_inkOpaque o_sourceOpaque o_ruleWidth o_ruleHeight o_pattern v0 A) A
abbrev rm_g_Sheet_setInkOpaque : Room := { frames := 0, cells := 0, slots := 0, locals := 0 }
set_option maxHeartbeats 4000000 in
set_option maxRecDepth 100000 in
theorem g_Sheet_setInkOpaque (l : Launch) (dC : Nat → ClassId) (dI : Nat → Nat → Nat) (tt : Nat → Nat) (h0 : Nat) (o_page : Nat) (o_marks : Nat) (o_count : Int32) (o_dots : Nat) (o_used : Int32) (o_overrun : Int32) (o_due : Int32) (o_band : Nat) (o_bandLines : Int32) (o_bandWords : Int32) (o_ink : Int32) (o_inkNumber : Int32) (o_inkOpaque : Int32) (o_sourceOpaque : Int32) (o_ruleWidth : Int32) (o_ruleHeight : Int32) (o_pattern : Int32) (v0 : Int32) (sz : Nat)  : Met l y_Sheet_setInkOpaque w_Sheet_setInkOpaque rm_g_Sheet_setInkOpaque (va_Pc [.ref h0, .int v0] (fun U => U.heap.size = sz ∧ va_P (dC, dI) vcl [(h0, .inr (12, [.ref o_page, .ref o_marks, .int o_count, .ref o_dots, .int o_used, .int o_overrun, .int o_due, .ref o_band, .int o_bandLines, .int o_bandWords, .int o_ink, .int o_inkNumber, .int o_inkOpaque, .int o_sourceOpaque, .int o_ruleWidth, .int o_ruleHeight, .int o_pattern]))] U.heap ∧ va_K (dC, dI) vcl [] U ∧ va_D (fun _ => True) [(h0, .inr (12, [.ref o_page, .ref o_marks, .int o_count, .ref o_dots, .int o_used, .int o_overrun, .int o_due, .ref o_band, .int o_bandLines, .int o_bandWords, .int o_ink, .int o_inkNumber, .int o_inkOpaque, .int o_sourceOpaque, .int o_ruleWidth, .int o_ruleHeight, .int o_pattern]))] ∧ SF tt (va_A [(h0, .inr (12, [.ref o_page, .ref o_marks, .int o_count, .ref o_dots, .int o_used, .int o_overrun, .int o_due, .ref o_band, .int o_bandLines, .int o_bandWords, .int o_ink, .int o_inkNumber, .int o_inkOpaque, .int o_sourceOpaque, .int o_ruleWidth, .int o_ruleHeight, .int o_pattern]))] sz) U U.heap)) (q_g_Sheet_setInkOpaque dC dI h0 o_page o_marks o_count o_dots o_used o_overrun o_due o_band o_bandLines o_bandWords o_ink o_inkNumber o_inkOpaque o_sourceOpaque o_ruleWidth o_ruleHeight o_pattern v0 (va_A [(h0, .inr (12, [.ref o_page, .ref o_marks, .int o_count, .ref o_dots, .int o_used, .int o_overrun, .int o_due, .ref o_band, .int o_bandLines, .int o_bandWords, .int o_ink, .int o_inkNumber, .int o_inkOpaque, .int o_sourceOpaque, .int o_ruleWidth, .int o_ruleHeight, .int o_pattern]))] sz)) 0 0 (va_A [(h0, .inr (12, [.ref o_page, .ref o_marks, .int o_count, .ref o_dots, .int o_used, .int o_overrun, .int o_due, .ref o_band, .int o_bandLines, .int o_bandWords, .int o_ink, .int o_inkNumber, .int o_inkOpaque, .int o_sourceOpaque, .int o_ruleWidth, .int o_ruleHeight, .int o_pattern]))] sz) := by
  refine Met.ofW (cc := b_Sheet_setInkOpaque) (maxL := 2) (ret := none) (by decide) rfl ?_
  intro p e s m args below meth c s₁ B hml hv
  obtain ⟨rfl, hsz, hP, hK, hD0, hF⟩ := hv
  have hx := B.exec
  have hb := B.bytes
  have hr := B.returns
  have hwd : ∀ w ∈ gT, w.before _ s = true := fun w h => atoms_spec (ws := w_Sheet_setInkOpaque) B.pre w (List.mem_cons_of_mem _ h)
  have hown : s.vm.findClass R_Sheet = some m.cls := findClass_of_methodNamed B.named
  have hlocks := B.notSynchronized
  subst hsz
  have hD := hD0.self (sz := s.heap.size)
  generalize hAe : va_A [(h0, .inr (12, [.ref o_page, .ref o_marks, .int o_count, .ref o_dots, .int o_used, .int o_overrun, .int o_due, .ref o_band, .int o_bandLines, .int o_bandWords, .int o_ink, .int o_inkNumber, .int o_inkOpaque, .int o_sourceOpaque, .int o_ruleWidth, .int o_ruleHeight, .int o_pattern]))] s.heap.size = A at hD hF ⊢
  have hA : ∀ q : Nat, s.heap.size ≤ q → A q := fun q h => by rw [← hAe]; exact Or.inr h
  have hS : va_S A s.heap s.heap [] := va_S.rf
  have hP : va_P (dC, dI) vcl [(h0, .inr (12, [.ref o_page, .ref o_marks, .int o_count, .ref o_dots, .int o_used, .int o_overrun, .int o_due, .ref o_band, .int o_bandLines, .int o_bandWords, .int o_ink, .int o_inkNumber, .int o_inkOpaque, .int o_sourceOpaque, .int o_ruleWidth, .int o_ruleHeight, .int o_pattern]))] s.heap := hP
  have hl := lv_entry ([.ref h0, .int v0]) (n := 2) (Nat.le_of_ble_eq_true rfl)
  rw [lg_entry_eq]
  generalize (lg_sl ([.ref h0, .int v0]) ++ List.replicate (2 - (lg_sl ([.ref h0, .int v0])).length) Slot.unset).toArray = ls at hl ⊢
  have hl : lv_has ls 2 [(0, .ref h0), (1, .int v0)] := hl
  refine lv_aload_n hx hb d_Sheet_setInkOpaque_0 rfl (lv_at hl 0 rfl) ?_
  refine lv_iload_n hx hb d_Sheet_setInkOpaque_1 rfl (lv_at hl 1 rfl) ?_
  refine lv_iconst (v := 1) hx hb d_Sheet_setInkOpaque_2 (by decide) ?_
  refine lv_icmp_eq (tgt := 17) hx hb d_Sheet_setInkOpaque_3 (by decide) (fun c3 => ?_) (fun c3 => ?_)
  · refine lv_iconst (v := 1) hx hb d_Sheet_setInkOpaque_17 (by decide) ?_
    refine lv_goto (tgt := 22) hx hb d_Sheet_setInkOpaque_18 (by decide) ?_
    refine va_put (D := (dC, dI)) (ci := 12) (v := .int 1) (ty := .boolean) (C := R_Sheet) (T := F_Sheet) (N := 17) hx hb hwd i_Sheet t_Sheet to_Sheet no_Sheet hown hK hP hD hS 0 rfl rfl 12 (by decide) (hwd _ wd_1_205) (fun _ h9 => h9) rfl (by decide +kernel) (by decide) rfl (Nat.le_of_ble_eq_true rfl) d_Sheet_setInkOpaque_22 ?_
    clear hP hD hS
    intro H locs hP hD hS
    replace hP : va_P (dC, dI) vcl [(h0, .inr (12, [.ref o_page, .ref o_marks, .int o_count, .ref o_dots, .int o_used, .int o_overrun, .int o_due, .ref o_band, .int o_bandLines, .int o_bandWords, .int o_ink, .int o_inkNumber, .int 1, .int o_sourceOpaque, .int o_ruleWidth, .int o_ruleHeight, .int o_pattern]))] H := hP
    replace hD : va_D A [(h0, .inr (12, [.ref o_page, .ref o_marks, .int o_count, .ref o_dots, .int o_used, .int o_overrun, .int o_due, .ref o_band, .int o_bandLines, .int o_bandWords, .int o_ink, .int o_inkNumber, .int 1, .int o_sourceOpaque, .int o_ruleWidth, .int o_ruleHeight, .int o_pattern]))] := hD
    have hP9 := hP.sub (ws' := [(h0, .inr (12, [.ref o_page, .ref o_marks, .int o_count, .ref o_dots, .int o_used, .int o_overrun, .int o_due, .ref o_band, .int o_bandLines, .int o_bandWords, .int o_ink, .int o_inkNumber, .int 1, .int o_sourceOpaque, .int o_ruleWidth, .int o_ruleHeight, .int o_pattern]))]) [0] rfl
    have hD9 := hD.sub (ws' := [(h0, .inr (12, [.ref o_page, .ref o_marks, .int o_count, .ref o_dots, .int o_used, .int o_overrun, .int o_due, .ref o_band, .int o_bandLines, .int o_bandWords, .int o_ink, .int o_inkNumber, .int 1, .int o_sourceOpaque, .int o_ruleWidth, .int o_ruleHeight, .int o_pattern]))]) [0] (by decide) rfl
    have hK9 := hK.sub (tys' := []) [] rfl
    exact W.vret hx hb hr (fun t ht hW => ⟨⟨(1), rfl, (show (1 : Int32) = if v0 = (1 : Int32) then 1 else (if v0 = (0 : Int32) then 0 else (if o_inkOpaque = (0 : Int32) then 0 else 1)) from (by rw [if_pos c3])), by rw [ht]; exact hP9, va_K.moved hW.alike hK9, hD9⟩, hS.F ht⟩) hS.2.2 d_Sheet_setInkOpaque_25
  · refine lv_iload_n hx hb d_Sheet_setInkOpaque_6 rfl (lv_at hl 1 rfl) ?_
    refine lv_if_eq (tgt := 21) hx hb d_Sheet_setInkOpaque_7 (by decide) (fun c7 => ?_) (fun c7 => ?_)
    · refine lv_iconst (v := 0) hx hb d_Sheet_setInkOpaque_21 (by decide) ?_
      refine va_put (D := (dC, dI)) (ci := 12) (v := .int 0) (ty := .boolean) (C := R_Sheet) (T := F_Sheet) (N := 17) hx hb hwd i_Sheet t_Sheet to_Sheet no_Sheet hown hK hP hD hS 0 rfl rfl 12 (by decide) (hwd _ wd_1_205) (fun _ h9 => h9) rfl (by decide +kernel) (by decide) rfl (Nat.le_of_ble_eq_true rfl) d_Sheet_setInkOpaque_22 ?_
      clear hP hD hS
      intro H locs hP hD hS
      replace hP : va_P (dC, dI) vcl [(h0, .inr (12, [.ref o_page, .ref o_marks, .int o_count, .ref o_dots, .int o_used, .int o_overrun, .int o_due, .ref o_band, .int o_bandLines, .int o_bandWords, .int o_ink, .int o_inkNumber, .int 0, .int o_sourceOpaque, .int o_ruleWidth, .int o_ruleHeight, .int o_pattern]))] H := hP
      replace hD : va_D A [(h0, .inr (12, [.ref o_page, .ref o_marks, .int o_count, .ref o_dots, .int o_used, .int o_overrun, .int o_due, .ref o_band, .int o_bandLines, .int o_bandWords, .int o_ink, .int o_inkNumber, .int 0, .int o_sourceOpaque, .int o_ruleWidth, .int o_ruleHeight, .int o_pattern]))] := hD
      have hP9 := hP.sub (ws' := [(h0, .inr (12, [.ref o_page, .ref o_marks, .int o_count, .ref o_dots, .int o_used, .int o_overrun, .int o_due, .ref o_band, .int o_bandLines, .int o_bandWords, .int o_ink, .int o_inkNumber, .int 0, .int o_sourceOpaque, .int o_ruleWidth, .int o_ruleHeight, .int o_pattern]))]) [0] rfl
      have hD9 := hD.sub (ws' := [(h0, .inr (12, [.ref o_page, .ref o_marks, .int o_count, .ref o_dots, .int o_used, .int o_overrun, .int o_due, .ref o_band, .int o_bandLines, .int o_bandWords, .int o_ink, .int o_inkNumber, .int 0, .int o_sourceOpaque, .int o_ruleWidth, .int o_ruleHeight, .int o_pattern]))]) [0] (by decide) rfl
      have hK9 := hK.sub (tys' := []) [] rfl
      exact W.vret hx hb hr (fun t ht hW => ⟨⟨(0), rfl, (show (0 : Int32) = if v0 = (1 : Int32) then 1 else (if v0 = (0 : Int32) then 0 else (if o_inkOpaque = (0 : Int32) then 0 else 1)) from (by rw [if_neg c3, if_pos c7])), by rw [ht]; exact hP9, va_K.moved hW.alike hK9, hD9⟩, hS.F ht⟩) hS.2.2 d_Sheet_setInkOpaque_25
    · refine lv_aload_n hx hb d_Sheet_setInkOpaque_10 rfl (lv_at hl 0 rfl) ?_
      refine va_get (D := (dC, dI)) (ci := 12) (v := .int o_inkOpaque) (C := R_Sheet) (T := F_Sheet) (N := 17) hx hb hwd i_Sheet hown hK hP 0 rfl rfl 12 (by decide) (hwd _ wd_1_205) (fun _ h9 => h9) rfl d_Sheet_setInkOpaque_11 ?_
      refine lv_if_eq (tgt := 21) hx hb d_Sheet_setInkOpaque_14 (by decide) (fun c14 => ?_) (fun c14 => ?_)
      · refine lv_iconst (v := 0) hx hb d_Sheet_setInkOpaque_21 (by decide) ?_
        refine va_put (D := (dC, dI)) (ci := 12) (v := .int 0) (ty := .boolean) (C := R_Sheet) (T := F_Sheet) (N := 17) hx hb hwd i_Sheet t_Sheet to_Sheet no_Sheet hown hK hP hD hS 0 rfl rfl 12 (by decide) (hwd _ wd_1_205) (fun _ h9 => h9) rfl (by decide +kernel) (by decide) rfl (Nat.le_of_ble_eq_true rfl) d_Sheet_setInkOpaque_22 ?_
        clear hP hD hS
        intro H locs hP hD hS
        replace hP : va_P (dC, dI) vcl [(h0, .inr (12, [.ref o_page, .ref o_marks, .int o_count, .ref o_dots, .int o_used, .int o_overrun, .int o_due, .ref o_band, .int o_bandLines, .int o_bandWords, .int o_ink, .int o_inkNumber, .int 0, .int o_sourceOpaque, .int o_ruleWidth, .int o_ruleHeight, .int o_pattern]))] H := hP
        replace hD : va_D A [(h0, .inr (12, [.ref o_page, .ref o_marks, .int o_count, .ref o_dots, .int o_used, .int o_overrun, .int o_due, .ref o_band, .int o_bandLines, .int o_bandWords, .int o_ink, .int o_inkNumber, .int 0, .int o_sourceOpaque, .int o_ruleWidth, .int o_ruleHeight, .int o_pattern]))] := hD
        have hP9 := hP.sub (ws' := [(h0, .inr (12, [.ref o_page, .ref o_marks, .int o_count, .ref o_dots, .int o_used, .int o_overrun, .int o_due, .ref o_band, .int o_bandLines, .int o_bandWords, .int o_ink, .int o_inkNumber, .int 0, .int o_sourceOpaque, .int o_ruleWidth, .int o_ruleHeight, .int o_pattern]))]) [0] rfl
        have hD9 := hD.sub (ws' := [(h0, .inr (12, [.ref o_page, .ref o_marks, .int o_count, .ref o_dots, .int o_used, .int o_overrun, .int o_due, .ref o_band, .int o_bandLines, .int o_bandWords, .int o_ink, .int o_inkNumber, .int 0, .int o_sourceOpaque, .int o_ruleWidth, .int o_ruleHeight, .int o_pattern]))]) [0] (by decide) rfl
        have hK9 := hK.sub (tys' := []) [] rfl
        exact W.vret hx hb hr (fun t ht hW => ⟨⟨(0), rfl, (show (0 : Int32) = if v0 = (1 : Int32) then 1 else (if v0 = (0 : Int32) then 0 else (if o_inkOpaque = (0 : Int32) then 0 else 1)) from (by rw [if_neg c3, if_neg c7, if_pos c14])), by rw [ht]; exact hP9, va_K.moved hW.alike hK9, hD9⟩, hS.F ht⟩) hS.2.2 d_Sheet_setInkOpaque_25
      · refine lv_iconst (v := 1) hx hb d_Sheet_setInkOpaque_17 (by decide) ?_
        refine lv_goto (tgt := 22) hx hb d_Sheet_setInkOpaque_18 (by decide) ?_
        refine va_put (D := (dC, dI)) (ci := 12) (v := .int 1) (ty := .boolean) (C := R_Sheet) (T := F_Sheet) (N := 17) hx hb hwd i_Sheet t_Sheet to_Sheet no_Sheet hown hK hP hD hS 0 rfl rfl 12 (by decide) (hwd _ wd_1_205) (fun _ h9 => h9) rfl (by decide +kernel) (by decide) rfl (Nat.le_of_ble_eq_true rfl) d_Sheet_setInkOpaque_22 ?_
        clear hP hD hS
        intro H locs hP hD hS
        replace hP : va_P (dC, dI) vcl [(h0, .inr (12, [.ref o_page, .ref o_marks, .int o_count, .ref o_dots, .int o_used, .int o_overrun, .int o_due, .ref o_band, .int o_bandLines, .int o_bandWords, .int o_ink, .int o_inkNumber, .int 1, .int o_sourceOpaque, .int o_ruleWidth, .int o_ruleHeight, .int o_pattern]))] H := hP
        replace hD : va_D A [(h0, .inr (12, [.ref o_page, .ref o_marks, .int o_count, .ref o_dots, .int o_used, .int o_overrun, .int o_due, .ref o_band, .int o_bandLines, .int o_bandWords, .int o_ink, .int o_inkNumber, .int 1, .int o_sourceOpaque, .int o_ruleWidth, .int o_ruleHeight, .int o_pattern]))] := hD
        have hP9 := hP.sub (ws' := [(h0, .inr (12, [.ref o_page, .ref o_marks, .int o_count, .ref o_dots, .int o_used, .int o_overrun, .int o_due, .ref o_band, .int o_bandLines, .int o_bandWords, .int o_ink, .int o_inkNumber, .int 1, .int o_sourceOpaque, .int o_ruleWidth, .int o_ruleHeight, .int o_pattern]))]) [0] rfl
        have hD9 := hD.sub (ws' := [(h0, .inr (12, [.ref o_page, .ref o_marks, .int o_count, .ref o_dots, .int o_used, .int o_overrun, .int o_due, .ref o_band, .int o_bandLines, .int o_bandWords, .int o_ink, .int o_inkNumber, .int 1, .int o_sourceOpaque, .int o_ruleWidth, .int o_ruleHeight, .int o_pattern]))]) [0] (by decide) rfl
        have hK9 := hK.sub (tys' := []) [] rfl
        exact W.vret hx hb hr (fun t ht hW => ⟨⟨(1), rfl, (show (1 : Int32) = if v0 = (1 : Int32) then 1 else (if v0 = (0 : Int32) then 0 else (if o_inkOpaque = (0 : Int32) then 0 else 1)) from (by rw [if_neg c3, if_neg c7, if_neg c14])), by rw [ht]; exact hP9, va_K.moved hW.alike hK9, hD9⟩, hS.F ht⟩) hS.2.2 d_Sheet_setInkOpaque_25

abbrev at_g_Sheet_hasRoom (dC : Nat → ClassId) (dI : Nat → Nat → Nat) (h0 : Nat) (o_page : Nat) (o_marks : Nat) (o_count : Int32) (o_dots : Nat) (o_used : Int32) (o_overrun : Int32) (o_due : Int32) (o_band : Nat) (o_bandLines : Int32) (o_bandWords : Int32) (o_ink : Int32) (o_inkNumber : Int32) (o_inkOpaque : Int32) (o_sourceOpaque : Int32) (o_ruleWidth : Int32) (o_ruleHeight : Int32) (o_pattern : Int32) (v0 : Int32) (A : Nat → Prop) (u : Int32) (t : State) : Prop := match u with
  | z0 => va_P (dC, dI) vcl [(h0, .inr (12, [.ref o_page, .ref o_marks, .int o_count, .ref o_dots, .int o_used, .int z0, .int o_due, .ref o_band, .int o_bandLines, .int o_bandWords, .int o_ink, .int o_inkNumber, .int o_inkOpaque, .int o_sourceOpaque, .int o_ruleWidth, .int o_ruleHeight, .int o_pattern]))] t.heap ∧ va_K (dC, dI) vcl [] t ∧ va_D A [(h0, .inr (12, [.ref o_page, .ref o_marks, .int o_count, .ref o_dots, .int o_used, .int z0, .int o_due, .ref o_band, .int o_bandLines, .int o_bandWords, .int o_ink, .int o_inkNumber, .int o_inkOpaque, .int o_sourceOpaque, .int o_ruleWidth, .int o_ruleHeight, .int o_pattern]))]
abbrev po_g_Sheet_hasRoom (h0 : Nat) (o_page : Nat) (o_marks : Nat) (o_count : Int32) (o_dots : Nat) (o_used : Int32) (o_overrun : Int32) (o_due : Int32) (o_band : Nat) (o_bandLines : Int32) (o_bandWords : Int32) (o_ink : Int32) (o_inkNumber : Int32) (o_inkOpaque : Int32) (o_sourceOpaque : Int32) (o_ruleWidth : Int32) (o_ruleHeight : Int32) (o_pattern : Int32) (v0 : Int32) (r : Int32) (u : Int32) : Prop := match u with
  | z0 => (z0 = if (4096 : Int32) ≤ o_count then 1 else (if (o_used + v0) ≤ (65536 : Int32) then o_overrun else 1)) ∧ (r = if (4096 : Int32) ≤ o_count then 0 else (if (o_used + v0) ≤ (65536 : Int32) then 1 else 0))
abbrev q_g_Sheet_hasRoom (dC : Nat → ClassId) (dI : Nat → Nat → Nat) (h0 : Nat) (o_page : Nat) (o_marks : Nat) (o_count : Int32) (o_dots : Nat) (o_used : Int32) (o_overrun : Int32) (o_due : Int32) (o_band : Nat) (o_bandLines : Int32) (o_bandWords : Int32) (o_ink : Int32) (o_inkNumber : Int32) (o_inkOpaque : Int32) (o_sourceOpaque : Int32) (o_ruleWidth : Int32) (o_ruleHeight : Int32) (o_pattern : Int32) (v0 : Int32) (A : Nat → Prop) : Array Value → State → Outcome → State → Prop := va_Qi (po_g_Sheet_hasRoom h0 o_page o_marks o_count o_dots o_used o_overrun o_due o_band o_bandLines o_bandWords o_ink o_inkNumber o_inkOpaque o_sourceOpaque o_ruleWidth o_ruleHeight o_pattern v0) (at_g_Sheet_hasRoom dC dI h0 o_page o_marks o_count o_dots o_used o_overrun o_due o_band o_bandLines o_bandWords o_ink o_inkNumber o_inkOpaque o_sourceOpaque o_ruleWidth o_ruleHeight o_pattern v0 A) A
abbrev rm_g_Sheet_hasRoom : Room := { frames := 0, cells := 0, slots := 0, locals := 0 }
set_option maxHeartbeats 4000000 in
set_option maxRecDepth 100000 in
theorem g_Sheet_hasRoom (l : Launch) (dC : Nat → ClassId) (dI : Nat → Nat → Nat) (tt : Nat → Nat) (h0 : Nat) (o_page : Nat) (o_marks : Nat) (o_count : Int32) (o_dots : Nat) (o_used : Int32) (o_overrun : Int32) (o_due : Int32) (o_band : Nat) (o_bandLines : Int32) (o_bandWords : Int32) (o_ink : Int32) (o_inkNumber : Int32) (o_inkOpaque : Int32) (o_sourceOpaque : Int32) (o_ruleWidth : Int32) (o_ruleHeight : Int32) (o_pattern : Int32) (v0 : Int32) (sz : Nat)  : Met l y_Sheet_hasRoom w_Sheet_hasRoom rm_g_Sheet_hasRoom (va_Pc [.ref h0, .int v0] (fun U => U.heap.size = sz ∧ va_P (dC, dI) vcl [(h0, .inr (12, [.ref o_page, .ref o_marks, .int o_count, .ref o_dots, .int o_used, .int o_overrun, .int o_due, .ref o_band, .int o_bandLines, .int o_bandWords, .int o_ink, .int o_inkNumber, .int o_inkOpaque, .int o_sourceOpaque, .int o_ruleWidth, .int o_ruleHeight, .int o_pattern]))] U.heap ∧ va_K (dC, dI) vcl [] U ∧ va_D (fun _ => True) [(h0, .inr (12, [.ref o_page, .ref o_marks, .int o_count, .ref o_dots, .int o_used, .int o_overrun, .int o_due, .ref o_band, .int o_bandLines, .int o_bandWords, .int o_ink, .int o_inkNumber, .int o_inkOpaque, .int o_sourceOpaque, .int o_ruleWidth, .int o_ruleHeight, .int o_pattern]))] ∧ SF tt (va_A [(h0, .inr (12, [.ref o_page, .ref o_marks, .int o_count, .ref o_dots, .int o_used, .int o_overrun, .int o_due, .ref o_band, .int o_bandLines, .int o_bandWords, .int o_ink, .int o_inkNumber, .int o_inkOpaque, .int o_sourceOpaque, .int o_ruleWidth, .int o_ruleHeight, .int o_pattern]))] sz) U U.heap)) (q_g_Sheet_hasRoom dC dI h0 o_page o_marks o_count o_dots o_used o_overrun o_due o_band o_bandLines o_bandWords o_ink o_inkNumber o_inkOpaque o_sourceOpaque o_ruleWidth o_ruleHeight o_pattern v0 (va_A [(h0, .inr (12, [.ref o_page, .ref o_marks, .int o_count, .ref o_dots, .int o_used, .int o_overrun, .int o_due, .ref o_band, .int o_bandLines, .int o_bandWords, .int o_ink, .int o_inkNumber, .int o_inkOpaque, .int o_sourceOpaque, .int o_ruleWidth, .int o_ruleHeight, .int o_pattern]))] sz)) 0 0 (va_A [(h0, .inr (12, [.ref o_page, .ref o_marks, .int o_count, .ref o_dots, .int o_used, .int o_overrun, .int o_due, .ref o_band, .int o_bandLines, .int o_bandWords, .int o_ink, .int o_inkNumber, .int o_inkOpaque, .int o_sourceOpaque, .int o_ruleWidth, .int o_ruleHeight, .int o_pattern]))] sz) := by
  refine Met.ofW (cc := b_Sheet_hasRoom) (maxL := 2) (ret := (some .boolean)) (by decide) rfl ?_
  intro p e s m args below meth c s₁ B hml hv
  obtain ⟨rfl, hsz, hP, hK, hD0, hF⟩ := hv
  have hx := B.exec
  have hb := B.bytes
  have hr := B.returns
  have hwd : ∀ w ∈ gT, w.before _ s = true := fun w h => atoms_spec (ws := w_Sheet_hasRoom) B.pre w (List.mem_cons_of_mem _ h)
  have hown : s.vm.findClass R_Sheet = some m.cls := findClass_of_methodNamed B.named
  have hlocks := B.notSynchronized
  subst hsz
  have hD := hD0.self (sz := s.heap.size)
  generalize hAe : va_A [(h0, .inr (12, [.ref o_page, .ref o_marks, .int o_count, .ref o_dots, .int o_used, .int o_overrun, .int o_due, .ref o_band, .int o_bandLines, .int o_bandWords, .int o_ink, .int o_inkNumber, .int o_inkOpaque, .int o_sourceOpaque, .int o_ruleWidth, .int o_ruleHeight, .int o_pattern]))] s.heap.size = A at hD hF ⊢
  have hA : ∀ q : Nat, s.heap.size ≤ q → A q := fun q h => by rw [← hAe]; exact Or.inr h
  have hS : va_S A s.heap s.heap [] := va_S.rf
  have hP : va_P (dC, dI) vcl [(h0, .inr (12, [.ref o_page, .ref o_marks, .int o_count, .ref o_dots, .int o_used, .int o_overrun, .int o_due, .ref o_band, .int o_bandLines, .int o_bandWords, .int o_ink, .int o_inkNumber, .int o_inkOpaque, .int o_sourceOpaque, .int o_ruleWidth, .int o_ruleHeight, .int o_pattern]))] s.heap := hP
  have hl := lv_entry ([.ref h0, .int v0]) (n := 2) (Nat.le_of_ble_eq_true rfl)
  rw [lg_entry_eq]
  generalize (lg_sl ([.ref h0, .int v0]) ++ List.replicate (2 - (lg_sl ([.ref h0, .int v0])).length) Slot.unset).toArray = ls at hl ⊢
  have hl : lv_has ls 2 [(0, .ref h0), (1, .int v0)] := hl
  refine lv_aload_n hx hb d_Sheet_hasRoom_0 rfl (lv_at hl 0 rfl) ?_
  refine va_get (D := (dC, dI)) (ci := 12) (v := .int o_count) (C := R_Sheet) (T := F_Sheet) (N := 17) hx hb hwd i_Sheet hown hK hP 0 rfl rfl 2 (by decide) (hwd _ wd_1_187) (fun _ h9 => h9) rfl d_Sheet_hasRoom_1 ?_
  refine lv_sipush (v := 4096) hx hb d_Sheet_hasRoom_4 (by decide) ?_
  refine lv_icmp_ge (tgt := 21) hx hb d_Sheet_hasRoom_7 (by decide) (fun c7 => ?_) (fun c7 => ?_)
  · refine lv_aload_n hx hb d_Sheet_hasRoom_21 rfl (lv_at hl 0 rfl) ?_
    refine lv_iconst (v := 1) hx hb d_Sheet_hasRoom_22 (by decide) ?_
    refine va_put (D := (dC, dI)) (ci := 12) (v := .int 1) (ty := .boolean) (C := R_Sheet) (T := F_Sheet) (N := 17) hx hb hwd i_Sheet t_Sheet to_Sheet no_Sheet hown hK hP hD hS 0 rfl rfl 5 (by decide) (hwd _ wd_1_192) (fun _ h9 => h9) rfl (by decide +kernel) (by decide) rfl (Nat.le_of_ble_eq_true rfl) d_Sheet_hasRoom_23 ?_
    clear hP hD hS
    intro H locs hP hD hS
    replace hP : va_P (dC, dI) vcl [(h0, .inr (12, [.ref o_page, .ref o_marks, .int o_count, .ref o_dots, .int o_used, .int 1, .int o_due, .ref o_band, .int o_bandLines, .int o_bandWords, .int o_ink, .int o_inkNumber, .int o_inkOpaque, .int o_sourceOpaque, .int o_ruleWidth, .int o_ruleHeight, .int o_pattern]))] H := hP
    replace hD : va_D A [(h0, .inr (12, [.ref o_page, .ref o_marks, .int o_count, .ref o_dots, .int o_used, .int 1, .int o_due, .ref o_band, .int o_bandLines, .int o_bandWords, .int o_ink, .int o_inkNumber, .int o_inkOpaque, .int o_sourceOpaque, .int o_ruleWidth, .int o_ruleHeight, .int o_pattern]))] := hD
    refine lv_iconst (v := 0) hx hb d_Sheet_hasRoom_26 (by decide) ?_
    have hP9 := hP.sub (ws' := [(h0, .inr (12, [.ref o_page, .ref o_marks, .int o_count, .ref o_dots, .int o_used, .int 1, .int o_due, .ref o_band, .int o_bandLines, .int o_bandWords, .int o_ink, .int o_inkNumber, .int o_inkOpaque, .int o_sourceOpaque, .int o_ruleWidth, .int o_ruleHeight, .int o_pattern]))]) [0] rfl
    have hD9 := hD.sub (ws' := [(h0, .inr (12, [.ref o_page, .ref o_marks, .int o_count, .ref o_dots, .int o_used, .int 1, .int o_due, .ref o_band, .int o_bandLines, .int o_bandWords, .int o_ink, .int o_inkNumber, .int o_inkOpaque, .int o_sourceOpaque, .int o_ruleWidth, .int o_ruleHeight, .int o_pattern]))]) [0] (by decide) rfl
    have hK9 := hK.sub (tys' := []) [] rfl
    exact W.zret (v := 0) hx hb hr (by decide) (fun t ht hW => ⟨⟨0, (1), rfl, (show ((1 : Int32) = if (4096 : Int32) ≤ o_count then 1 else (if (o_used + v0) ≤ (65536 : Int32) then o_overrun else 1)) ∧ ((0 : Int32) = if (4096 : Int32) ≤ o_count then 0 else (if (o_used + v0) ≤ (65536 : Int32) then 1 else 0)) from (⟨by rw [if_pos c7], by rw [if_pos c7]⟩)), by rw [ht]; exact hP9, va_K.moved hW.alike hK9, hD9⟩, hS.F ht⟩) hS.2.2 d_Sheet_hasRoom_27
  · refine lv_aload_n hx hb d_Sheet_hasRoom_10 rfl (lv_at hl 0 rfl) ?_
    refine va_get (D := (dC, dI)) (ci := 12) (v := .int o_used) (C := R_Sheet) (T := F_Sheet) (N := 17) hx hb hwd i_Sheet hown hK hP 0 rfl rfl 4 (by decide) (hwd _ wd_1_190) (fun _ h9 => h9) rfl d_Sheet_hasRoom_11 ?_
    refine lv_iload_n hx hb d_Sheet_hasRoom_14 rfl (lv_at hl 1 rfl) ?_
    refine lv_iadd hx hb d_Sheet_hasRoom_15 ?_
    refine lv_ldc hx hb hown (hwd _ wd_1_174) d_Sheet_hasRoom_16 ?_
    refine lv_icmp_le (tgt := 28) hx hb d_Sheet_hasRoom_18 (by decide) (fun c18 => ?_) (fun c18 => ?_)
    · refine lv_iconst (v := 1) hx hb d_Sheet_hasRoom_28 (by decide) ?_
      have hP9 := hP.sub (ws' := [(h0, .inr (12, [.ref o_page, .ref o_marks, .int o_count, .ref o_dots, .int o_used, .int o_overrun, .int o_due, .ref o_band, .int o_bandLines, .int o_bandWords, .int o_ink, .int o_inkNumber, .int o_inkOpaque, .int o_sourceOpaque, .int o_ruleWidth, .int o_ruleHeight, .int o_pattern]))]) [0] rfl
      have hD9 := hD.sub (ws' := [(h0, .inr (12, [.ref o_page, .ref o_marks, .int o_count, .ref o_dots, .int o_used, .int o_overrun, .int o_due, .ref o_band, .int o_bandLines, .int o_bandWords, .int o_ink, .int o_inkNumber, .int o_inkOpaque, .int o_sourceOpaque, .int o_ruleWidth, .int o_ruleHeight, .int o_pattern]))]) [0] (by decide) rfl
      have hK9 := hK.sub (tys' := []) [] rfl
      exact W.zret (v := 1) hx hb hr (by decide) (fun t ht hW => ⟨⟨1, (o_overrun), rfl, (show ((o_overrun : Int32) = if (4096 : Int32) ≤ o_count then 1 else (if (o_used + v0) ≤ (65536 : Int32) then o_overrun else 1)) ∧ ((1 : Int32) = if (4096 : Int32) ≤ o_count then 0 else (if (o_used + v0) ≤ (65536 : Int32) then 1 else 0)) from (⟨by rw [if_neg c7, if_pos c18], by rw [if_neg c7, if_pos c18]⟩)), by rw [ht]; exact hP9, va_K.moved hW.alike hK9, hD9⟩, hS.F ht⟩) hS.2.2 d_Sheet_hasRoom_29
    · refine lv_aload_n hx hb d_Sheet_hasRoom_21 rfl (lv_at hl 0 rfl) ?_
      refine lv_iconst (v := 1) hx hb d_Sheet_hasRoom_22 (by decide) ?_
      refine va_put (D := (dC, dI)) (ci := 12) (v := .int 1) (ty := .boolean) (C := R_Sheet) (T := F_Sheet) (N := 17) hx hb hwd i_Sheet t_Sheet to_Sheet no_Sheet hown hK hP hD hS 0 rfl rfl 5 (by decide) (hwd _ wd_1_192) (fun _ h9 => h9) rfl (by decide +kernel) (by decide) rfl (Nat.le_of_ble_eq_true rfl) d_Sheet_hasRoom_23 ?_
      clear hP hD hS
      intro H locs hP hD hS
      replace hP : va_P (dC, dI) vcl [(h0, .inr (12, [.ref o_page, .ref o_marks, .int o_count, .ref o_dots, .int o_used, .int 1, .int o_due, .ref o_band, .int o_bandLines, .int o_bandWords, .int o_ink, .int o_inkNumber, .int o_inkOpaque, .int o_sourceOpaque, .int o_ruleWidth, .int o_ruleHeight, .int o_pattern]))] H := hP
      replace hD : va_D A [(h0, .inr (12, [.ref o_page, .ref o_marks, .int o_count, .ref o_dots, .int o_used, .int 1, .int o_due, .ref o_band, .int o_bandLines, .int o_bandWords, .int o_ink, .int o_inkNumber, .int o_inkOpaque, .int o_sourceOpaque, .int o_ruleWidth, .int o_ruleHeight, .int o_pattern]))] := hD
      refine lv_iconst (v := 0) hx hb d_Sheet_hasRoom_26 (by decide) ?_
      have hP9 := hP.sub (ws' := [(h0, .inr (12, [.ref o_page, .ref o_marks, .int o_count, .ref o_dots, .int o_used, .int 1, .int o_due, .ref o_band, .int o_bandLines, .int o_bandWords, .int o_ink, .int o_inkNumber, .int o_inkOpaque, .int o_sourceOpaque, .int o_ruleWidth, .int o_ruleHeight, .int o_pattern]))]) [0] rfl
      have hD9 := hD.sub (ws' := [(h0, .inr (12, [.ref o_page, .ref o_marks, .int o_count, .ref o_dots, .int o_used, .int 1, .int o_due, .ref o_band, .int o_bandLines, .int o_bandWords, .int o_ink, .int o_inkNumber, .int o_inkOpaque, .int o_sourceOpaque, .int o_ruleWidth, .int o_ruleHeight, .int o_pattern]))]) [0] (by decide) rfl
      have hK9 := hK.sub (tys' := []) [] rfl
      exact W.zret (v := 0) hx hb hr (by decide) (fun t ht hW => ⟨⟨0, (1), rfl, (show ((1 : Int32) = if (4096 : Int32) ≤ o_count then 1 else (if (o_used + v0) ≤ (65536 : Int32) then o_overrun else 1)) ∧ ((0 : Int32) = if (4096 : Int32) ≤ o_count then 0 else (if (o_used + v0) ≤ (65536 : Int32) then 1 else 0)) from (⟨by rw [if_neg c7, if_neg c18], by rw [if_neg c7, if_neg c18]⟩)), by rw [ht]; exact hP9, va_K.moved hW.alike hK9, hD9⟩, hS.F ht⟩) hS.2.2 d_Sheet_hasRoom_27

abbrev at_g_Sheet_laid (dC : Nat → ClassId) (dI : Nat → Nat → Nat) (v0 : Int64) (v1 : Int64) (v2 : Int64) (v3 : Int64) (v4 : Int32) (A : Nat → Prop) (u : Unit) (t : State) : Prop := match u with
  | _ => va_P (dC, dI) vcl [] t.heap ∧ va_K (dC, dI) vcl [] t ∧ va_D A []
abbrev po_g_Sheet_laid (v0 : Int64) (v1 : Int64) (v2 : Int64) (v3 : Int64) (v4 : Int32) (r : Int64) (u : Unit) : Prop := match u with
  | _ => r = if (v4 &&& 32768) = (0 : Int32) then (if (v4 &&& 16384) = (0 : Int32) then ((v0 &&& (-1)) ||| (v2 &&& v3)) else ((v0 &&& ((0 ||| (v2 &&& (v3 ^^^ (-1)))) ^^^ (-1))) ||| (v2 &&& v3))) else (if (v4 &&& 16384) = (0 : Int32) then ((v0 &&& ((v1 &&& (v2 ^^^ (-1))) ^^^ (-1))) ||| (v2 &&& v3)) else ((v0 &&& (((v1 &&& (v2 ^^^ (-1))) ||| (v2 &&& (v3 ^^^ (-1)))) ^^^ (-1))) ||| (v2 &&& v3)))
abbrev q_g_Sheet_laid (dC : Nat → ClassId) (dI : Nat → Nat → Nat) (v0 : Int64) (v1 : Int64) (v2 : Int64) (v3 : Int64) (v4 : Int32) (A : Nat → Prop) : Array Value → State → Outcome → State → Prop := va_Ql (po_g_Sheet_laid v0 v1 v2 v3 v4) (at_g_Sheet_laid dC dI v0 v1 v2 v3 v4 A) A
abbrev rm_g_Sheet_laid : Room := { frames := 0, cells := 0, slots := 0, locals := 0 }
set_option maxHeartbeats 4000000 in
set_option maxRecDepth 100000 in
theorem g_Sheet_laid (l : Launch) (dC : Nat → ClassId) (dI : Nat → Nat → Nat) (tt : Nat → Nat) (v0 : Int64) (v1 : Int64) (v2 : Int64) (v3 : Int64) (v4 : Int32) (sz : Nat)  : Met l y_Sheet_laid w_Sheet_laid rm_g_Sheet_laid (va_Pc [.long v0, .long v1, .long v2, .long v3, .int v4] (fun U => U.heap.size = sz ∧ va_P (dC, dI) vcl [] U.heap ∧ va_K (dC, dI) vcl [] U ∧ va_D (fun _ => True) [] ∧ SF tt (va_A [] sz) U U.heap)) (q_g_Sheet_laid dC dI v0 v1 v2 v3 v4 (va_A [] sz)) 0 0 (va_A [] sz) := by
  refine Met.ofW (cc := b_Sheet_laid) (maxL := 11) (ret := (some .long)) (by decide) rfl ?_
  intro p e s m args below meth c s₁ B hml hv
  obtain ⟨rfl, hsz, hP, hK, hD0, hF⟩ := hv
  have hx := B.exec
  have hb := B.bytes
  have hr := B.returns
  have hwd : ∀ w ∈ gT, w.before _ s = true := fun w h => atoms_spec (ws := w_Sheet_laid) B.pre w (List.mem_cons_of_mem _ h)
  have hown : s.vm.findClass R_Sheet = some m.cls := findClass_of_methodNamed B.named
  have hlocks := B.notSynchronized
  subst hsz
  have hD := hD0.self (sz := s.heap.size)
  generalize hAe : va_A [] s.heap.size = A at hD hF ⊢
  have hA : ∀ q : Nat, s.heap.size ≤ q → A q := fun q h => by rw [← hAe]; exact Or.inr h
  have hS : va_S A s.heap s.heap [] := va_S.rf
  have hP : va_P (dC, dI) vcl [] s.heap := hP
  have hl := lv_entry ([.long v0, .long v1, .long v2, .long v3, .int v4]) (n := 11) (Nat.le_of_ble_eq_true rfl)
  rw [lg_entry_eq]
  generalize (lg_sl ([.long v0, .long v1, .long v2, .long v3, .int v4]) ++ List.replicate (11 - (lg_sl ([.long v0, .long v1, .long v2, .long v3, .int v4])).length) Slot.unset).toArray = ls at hl ⊢
  have hl : lv_has ls 11 [(0, .long v0), (2, .long v1), (4, .long v2), (6, .long v3), (8, .int v4)] := hl
  refine lv_lconst (v := 0) hx hb d_Sheet_laid_0 (by decide) ?_
  refine lv_lstore (lv' := [(9, .long 0), (0, .long v0), (2, .long v1), (4, .long v2), (6, .long v3), (8, .int v4)]) hx hb d_Sheet_laid_1 hl (by decide) rfl ?_
  clear hl
  intro ls hl
  refine lv_iload hx hb d_Sheet_laid_3 (lv_at hl 5 rfl) ?_
  refine lv_ldc hx hb hown (hwd _ wd_5_25) d_Sheet_laid_5 ?_
  refine lv_iand hx hb d_Sheet_laid_7 ?_
  refine lv_if_eq (tgt := 21) hx hb d_Sheet_laid_8 (by decide) (fun c8 => ?_) (fun c8 => ?_)
  · refine lv_iload hx hb d_Sheet_laid_21 (lv_at hl 5 rfl) ?_
    refine lv_sipush (v := 16384) hx hb d_Sheet_laid_23 (by decide) ?_
    refine lv_iand hx hb d_Sheet_laid_26 ?_
    refine lv_if_eq (tgt := 44) hx hb d_Sheet_laid_27 (by decide) (fun c27 => ?_) (fun c27 => ?_)
    · refine lv_lload_n hx hb d_Sheet_laid_44 rfl (lv_at hl 1 rfl) ?_
      refine lv_lload hx hb d_Sheet_laid_45 (lv_at hl 0 rfl) ?_
      refine lv_ldc2 hx hb hown (hwd _ wd_5_10) d_Sheet_laid_47 ?_
      refine lv_lxor hx hb d_Sheet_laid_50 ?_
      refine lv_topl (fun y_1 ey_1 => ?_)
      obtain rfl : y_1 = ((-1) : Int64) := ey_1.trans (by decide)
      refine lv_land hx hb d_Sheet_laid_51 ?_
      refine lv_lload hx hb d_Sheet_laid_52 (lv_at hl 3 rfl) ?_
      refine lv_lload hx hb d_Sheet_laid_54 (lv_at hl 4 rfl) ?_
      refine lv_land hx hb d_Sheet_laid_56 ?_
      refine lv_lor hx hb d_Sheet_laid_57 ?_
      have hP9 := hP.sub (ws' := []) [] rfl
      have hD9 := hD.sub (ws' := []) [] (by decide) rfl
      have hK9 := hK.sub (tys' := []) [] rfl
      exact W.lret (v := (v0 &&& (-1)) ||| (v2 &&& v3)) hx hb hr (fun t ht hW => ⟨⟨((v0 &&& (-1)) ||| (v2 &&& v3)), (), rfl, (show ((v0 &&& (-1)) ||| (v2 &&& v3) : Int64) = if (v4 &&& 32768) = (0 : Int32) then (if (v4 &&& 16384) = (0 : Int32) then ((v0 &&& (-1)) ||| (v2 &&& v3)) else ((v0 &&& ((0 ||| (v2 &&& (v3 ^^^ (-1)))) ^^^ (-1))) ||| (v2 &&& v3))) else (if (v4 &&& 16384) = (0 : Int32) then ((v0 &&& ((v1 &&& (v2 ^^^ (-1))) ^^^ (-1))) ||| (v2 &&& v3)) else ((v0 &&& (((v1 &&& (v2 ^^^ (-1))) ||| (v2 &&& (v3 ^^^ (-1)))) ^^^ (-1))) ||| (v2 &&& v3))) from (by rw [if_pos c8, if_pos c27])), by rw [ht]; exact hP9, va_K.moved hW.alike hK9, hD9⟩, hS.F ht⟩) hS.2.2 d_Sheet_laid_58
    · refine lv_lload hx hb d_Sheet_laid_30 (lv_at hl 0 rfl) ?_
      refine lv_lload hx hb d_Sheet_laid_32 (lv_at hl 3 rfl) ?_
      refine lv_lload hx hb d_Sheet_laid_34 (lv_at hl 4 rfl) ?_
      refine lv_ldc2 hx hb hown (hwd _ wd_5_10) d_Sheet_laid_36 ?_
      refine lv_lxor hx hb d_Sheet_laid_39 ?_
      refine lv_land hx hb d_Sheet_laid_40 ?_
      refine lv_lor hx hb d_Sheet_laid_41 ?_
      refine lv_lstore (lv' := [(9, .long (0 ||| (v2 &&& (v3 ^^^ (-1))))), (0, .long v0), (2, .long v1), (4, .long v2), (6, .long v3), (8, .int v4)]) hx hb d_Sheet_laid_42 hl (by decide) rfl ?_
      clear hl
      intro ls hl
      refine lv_lload_n hx hb d_Sheet_laid_44 rfl (lv_at hl 1 rfl) ?_
      refine lv_lload hx hb d_Sheet_laid_45 (lv_at hl 0 rfl) ?_
      refine lv_ldc2 hx hb hown (hwd _ wd_5_10) d_Sheet_laid_47 ?_
      refine lv_lxor hx hb d_Sheet_laid_50 ?_
      refine lv_land hx hb d_Sheet_laid_51 ?_
      refine lv_lload hx hb d_Sheet_laid_52 (lv_at hl 3 rfl) ?_
      refine lv_lload hx hb d_Sheet_laid_54 (lv_at hl 4 rfl) ?_
      refine lv_land hx hb d_Sheet_laid_56 ?_
      refine lv_lor hx hb d_Sheet_laid_57 ?_
      have hP9 := hP.sub (ws' := []) [] rfl
      have hD9 := hD.sub (ws' := []) [] (by decide) rfl
      have hK9 := hK.sub (tys' := []) [] rfl
      exact W.lret (v := (v0 &&& ((0 ||| (v2 &&& (v3 ^^^ (-1)))) ^^^ (-1))) ||| (v2 &&& v3)) hx hb hr (fun t ht hW => ⟨⟨((v0 &&& ((0 ||| (v2 &&& (v3 ^^^ (-1)))) ^^^ (-1))) ||| (v2 &&& v3)), (), rfl, (show ((v0 &&& ((0 ||| (v2 &&& (v3 ^^^ (-1)))) ^^^ (-1))) ||| (v2 &&& v3) : Int64) = if (v4 &&& 32768) = (0 : Int32) then (if (v4 &&& 16384) = (0 : Int32) then ((v0 &&& (-1)) ||| (v2 &&& v3)) else ((v0 &&& ((0 ||| (v2 &&& (v3 ^^^ (-1)))) ^^^ (-1))) ||| (v2 &&& v3))) else (if (v4 &&& 16384) = (0 : Int32) then ((v0 &&& ((v1 &&& (v2 ^^^ (-1))) ^^^ (-1))) ||| (v2 &&& v3)) else ((v0 &&& (((v1 &&& (v2 ^^^ (-1))) ||| (v2 &&& (v3 ^^^ (-1)))) ^^^ (-1))) ||| (v2 &&& v3))) from (by rw [if_pos c8, if_neg c27])), by rw [ht]; exact hP9, va_K.moved hW.alike hK9, hD9⟩, hS.F ht⟩) hS.2.2 d_Sheet_laid_58
  · refine lv_lload_n hx hb d_Sheet_laid_11 rfl (lv_at hl 2 rfl) ?_
    refine lv_lload hx hb d_Sheet_laid_12 (lv_at hl 3 rfl) ?_
    refine lv_ldc2 hx hb hown (hwd _ wd_5_10) d_Sheet_laid_14 ?_
    refine lv_lxor hx hb d_Sheet_laid_17 ?_
    refine lv_land hx hb d_Sheet_laid_18 ?_
    refine lv_lstore (lv' := [(9, .long (v1 &&& (v2 ^^^ (-1)))), (0, .long v0), (2, .long v1), (4, .long v2), (6, .long v3), (8, .int v4)]) hx hb d_Sheet_laid_19 hl (by decide) rfl ?_
    clear hl
    intro ls hl
    refine lv_iload hx hb d_Sheet_laid_21 (lv_at hl 5 rfl) ?_
    refine lv_sipush (v := 16384) hx hb d_Sheet_laid_23 (by decide) ?_
    refine lv_iand hx hb d_Sheet_laid_26 ?_
    refine lv_if_eq (tgt := 44) hx hb d_Sheet_laid_27 (by decide) (fun c27 => ?_) (fun c27 => ?_)
    · refine lv_lload_n hx hb d_Sheet_laid_44 rfl (lv_at hl 1 rfl) ?_
      refine lv_lload hx hb d_Sheet_laid_45 (lv_at hl 0 rfl) ?_
      refine lv_ldc2 hx hb hown (hwd _ wd_5_10) d_Sheet_laid_47 ?_
      refine lv_lxor hx hb d_Sheet_laid_50 ?_
      refine lv_land hx hb d_Sheet_laid_51 ?_
      refine lv_lload hx hb d_Sheet_laid_52 (lv_at hl 3 rfl) ?_
      refine lv_lload hx hb d_Sheet_laid_54 (lv_at hl 4 rfl) ?_
      refine lv_land hx hb d_Sheet_laid_56 ?_
      refine lv_lor hx hb d_Sheet_laid_57 ?_
      have hP9 := hP.sub (ws' := []) [] rfl
      have hD9 := hD.sub (ws' := []) [] (by decide) rfl
      have hK9 := hK.sub (tys' := []) [] rfl
      exact W.lret (v := (v0 &&& ((v1 &&& (v2 ^^^ (-1))) ^^^ (-1))) ||| (v2 &&& v3)) hx hb hr (fun t ht hW => ⟨⟨((v0 &&& ((v1 &&& (v2 ^^^ (-1))) ^^^ (-1))) ||| (v2 &&& v3)), (), rfl, (show ((v0 &&& ((v1 &&& (v2 ^^^ (-1))) ^^^ (-1))) ||| (v2 &&& v3) : Int64) = if (v4 &&& 32768) = (0 : Int32) then (if (v4 &&& 16384) = (0 : Int32) then ((v0 &&& (-1)) ||| (v2 &&& v3)) else ((v0 &&& ((0 ||| (v2 &&& (v3 ^^^ (-1)))) ^^^ (-1))) ||| (v2 &&& v3))) else (if (v4 &&& 16384) = (0 : Int32) then ((v0 &&& ((v1 &&& (v2 ^^^ (-1))) ^^^ (-1))) ||| (v2 &&& v3)) else ((v0 &&& (((v1 &&& (v2 ^^^ (-1))) ||| (v2 &&& (v3 ^^^ (-1)))) ^^^ (-1))) ||| (v2 &&& v3))) from (by rw [if_neg c8, if_pos c27])), by rw [ht]; exact hP9, va_K.moved hW.alike hK9, hD9⟩, hS.F ht⟩) hS.2.2 d_Sheet_laid_58
    · refine lv_lload hx hb d_Sheet_laid_30 (lv_at hl 0 rfl) ?_
      refine lv_lload hx hb d_Sheet_laid_32 (lv_at hl 3 rfl) ?_
      refine lv_lload hx hb d_Sheet_laid_34 (lv_at hl 4 rfl) ?_
      refine lv_ldc2 hx hb hown (hwd _ wd_5_10) d_Sheet_laid_36 ?_
      refine lv_lxor hx hb d_Sheet_laid_39 ?_
      refine lv_land hx hb d_Sheet_laid_40 ?_
      refine lv_lor hx hb d_Sheet_laid_41 ?_
      refine lv_lstore (lv' := [(9, .long ((v1 &&& (v2 ^^^ (-1))) ||| (v2 &&& (v3 ^^^ (-1))))), (0, .long v0), (2, .long v1), (4, .long v2), (6, .long v3), (8, .int v4)]) hx hb d_Sheet_laid_42 hl (by decide) rfl ?_
      clear hl
      intro ls hl
      refine lv_lload_n hx hb d_Sheet_laid_44 rfl (lv_at hl 1 rfl) ?_
      refine lv_lload hx hb d_Sheet_laid_45 (lv_at hl 0 rfl) ?_
      refine lv_ldc2 hx hb hown (hwd _ wd_5_10) d_Sheet_laid_47 ?_
      refine lv_lxor hx hb d_Sheet_laid_50 ?_
      refine lv_land hx hb d_Sheet_laid_51 ?_
      refine lv_lload hx hb d_Sheet_laid_52 (lv_at hl 3 rfl) ?_
      refine lv_lload hx hb d_Sheet_laid_54 (lv_at hl 4 rfl) ?_
      refine lv_land hx hb d_Sheet_laid_56 ?_
      refine lv_lor hx hb d_Sheet_laid_57 ?_
      have hP9 := hP.sub (ws' := []) [] rfl
      have hD9 := hD.sub (ws' := []) [] (by decide) rfl
      have hK9 := hK.sub (tys' := []) [] rfl
      exact W.lret (v := (v0 &&& (((v1 &&& (v2 ^^^ (-1))) ||| (v2 &&& (v3 ^^^ (-1)))) ^^^ (-1))) ||| (v2 &&& v3)) hx hb hr (fun t ht hW => ⟨⟨((v0 &&& (((v1 &&& (v2 ^^^ (-1))) ||| (v2 &&& (v3 ^^^ (-1)))) ^^^ (-1))) ||| (v2 &&& v3)), (), rfl, (show ((v0 &&& (((v1 &&& (v2 ^^^ (-1))) ||| (v2 &&& (v3 ^^^ (-1)))) ^^^ (-1))) ||| (v2 &&& v3) : Int64) = if (v4 &&& 32768) = (0 : Int32) then (if (v4 &&& 16384) = (0 : Int32) then ((v0 &&& (-1)) ||| (v2 &&& v3)) else ((v0 &&& ((0 ||| (v2 &&& (v3 ^^^ (-1)))) ^^^ (-1))) ||| (v2 &&& v3))) else (if (v4 &&& 16384) = (0 : Int32) then ((v0 &&& ((v1 &&& (v2 ^^^ (-1))) ^^^ (-1))) ||| (v2 &&& v3)) else ((v0 &&& (((v1 &&& (v2 ^^^ (-1))) ||| (v2 &&& (v3 ^^^ (-1)))) ^^^ (-1))) ||| (v2 &&& v3))) from (by rw [if_neg c8, if_neg c27])), by rw [ht]; exact hP9, va_K.moved hW.alike hK9, hD9⟩, hS.F ht⟩) hS.2.2 d_Sheet_laid_58

abbrev at_g_mDesk_beginField (dC : Nat → ClassId) (dI : Nat → Nat → Nat) (h0 : Nat) (o_thrown : Int32) (o_state : Nat) (o_kept : Nat) (o_isKept : Nat) (o_size : Int32) (o_orientation : Int32) (o_copies : Int32) (o_width : Int32) (o_height : Int32) (o_steps : Nat) (o_phase : Int32) (o_family : Int32) (o_group : Int32) (o_part : Int32) (o_signed : Int32) (o_negative : Int32) (o_whole : Int32) (o_behind : Int32) (o_places : Int32) (o_dataLeft : Int32) (o_last : Int32) (o_dataTo : Int32) (o_bytesCame : Int32) (o_came : Int32) (o_cameX : Int32) (o_cameY : Int32) (o_glyphs : Int32) (o_allGlyphs : Int32) (o_touched : Int32) (o_glyph : Nat) (o_pages : Int32) (o_page : Nat) (o_others : Int32) (o_other : Nat) (o_stored : Int32) (o_store : Nat) (A : Nat → Prop) (u : Unit) (t : State) : Prop := match u with
  | _ => va_P (dC, dI) vcl [(h0, .inr (13, [.int o_thrown, .ref o_state, .ref o_kept, .ref o_isKept, .int o_size, .int o_orientation, .int o_copies, .int o_width, .int o_height, .ref o_steps, .int o_phase, .int o_family, .int o_group, .int 0, .int 0, .int 0, .int 0, .int 0, .int 0, .int o_dataLeft, .int o_last, .int o_dataTo, .int o_bytesCame, .int o_came, .int o_cameX, .int o_cameY, .int o_glyphs, .int o_allGlyphs, .int o_touched, .ref o_glyph, .int o_pages, .ref o_page, .int o_others, .ref o_other, .int o_stored, .ref o_store]))] t.heap ∧ va_K (dC, dI) vcl [] t ∧ va_D A [(h0, .inr (13, [.int o_thrown, .ref o_state, .ref o_kept, .ref o_isKept, .int o_size, .int o_orientation, .int o_copies, .int o_width, .int o_height, .ref o_steps, .int o_phase, .int o_family, .int o_group, .int 0, .int 0, .int 0, .int 0, .int 0, .int 0, .int o_dataLeft, .int o_last, .int o_dataTo, .int o_bytesCame, .int o_came, .int o_cameX, .int o_cameY, .int o_glyphs, .int o_allGlyphs, .int o_touched, .ref o_glyph, .int o_pages, .ref o_page, .int o_others, .ref o_other, .int o_stored, .ref o_store]))]
abbrev po_g_mDesk_beginField (h0 : Nat) (o_thrown : Int32) (o_state : Nat) (o_kept : Nat) (o_isKept : Nat) (o_size : Int32) (o_orientation : Int32) (o_copies : Int32) (o_width : Int32) (o_height : Int32) (o_steps : Nat) (o_phase : Int32) (o_family : Int32) (o_group : Int32) (o_part : Int32) (o_signed : Int32) (o_negative : Int32) (o_whole : Int32) (o_behind : Int32) (o_places : Int32) (o_dataLeft : Int32) (o_last : Int32) (o_dataTo : Int32) (o_bytesCame : Int32) (o_came : Int32) (o_cameX : Int32) (o_cameY : Int32) (o_glyphs : Int32) (o_allGlyphs : Int32) (o_touched : Int32) (o_glyph : Nat) (o_pages : Int32) (o_page : Nat) (o_others : Int32) (o_other : Nat) (o_stored : Int32) (o_store : Nat) (u : Unit) : Prop := match u with
  | _ => True
abbrev q_g_mDesk_beginField (dC : Nat → ClassId) (dI : Nat → Nat → Nat) (h0 : Nat) (o_thrown : Int32) (o_state : Nat) (o_kept : Nat) (o_isKept : Nat) (o_size : Int32) (o_orientation : Int32) (o_copies : Int32) (o_width : Int32) (o_height : Int32) (o_steps : Nat) (o_phase : Int32) (o_family : Int32) (o_group : Int32) (o_part : Int32) (o_signed : Int32) (o_negative : Int32) (o_whole : Int32) (o_behind : Int32) (o_places : Int32) (o_dataLeft : Int32) (o_last : Int32) (o_dataTo : Int32) (o_bytesCame : Int32) (o_came : Int32) (o_cameX : Int32) (o_cameY : Int32) (o_glyphs : Int32) (o_allGlyphs : Int32) (o_touched : Int32) (o_glyph : Nat) (o_pages : Int32) (o_page : Nat) (o_others : Int32) (o_other : Nat) (o_stored : Int32) (o_store : Nat) (A : Nat → Prop) : Array Value → State → Outcome → State → Prop := va_Qv (po_g_mDesk_beginField h0 o_thrown o_state o_kept o_isKept o_size o_orientation o_copies o_width o_height o_steps o_phase o_family o_group o_part o_signed o_negative o_whole o_behind o_places o_dataLeft o_last o_dataTo o_bytesCame o_came o_cameX o_cameY o_glyphs o_allGlyphs o_touched o_glyph o_pages o_page o_others o_other o_stored o_store) (at_g_mDesk_beginField dC dI h0 o_thrown o_state o_kept o_isKept o_size o_orientation o_copies o_width o_height o_steps o_phase o_family o_group o_part o_signed o_negative o_whole o_behind o_places o_dataLeft o_last o_dataTo o_bytesCame o_came o_cameX o_cameY o_glyphs o_allGlyphs o_touched o_glyph o_pages o_page o_others o_other o_stored o_store A) A
abbrev rm_g_mDesk_beginField : Room := { frames := 0, cells := 0, slots := 0, locals := 0 }
set_option maxHeartbeats 4000000 in
set_option maxRecDepth 100000 in
theorem g_mDesk_beginField (l : Launch) (dC : Nat → ClassId) (dI : Nat → Nat → Nat) (tt : Nat → Nat) (h0 : Nat) (o_thrown : Int32) (o_state : Nat) (o_kept : Nat) (o_isKept : Nat) (o_size : Int32) (o_orientation : Int32) (o_copies : Int32) (o_width : Int32) (o_height : Int32) (o_steps : Nat) (o_phase : Int32) (o_family : Int32) (o_group : Int32) (o_part : Int32) (o_signed : Int32) (o_negative : Int32) (o_whole : Int32) (o_behind : Int32) (o_places : Int32) (o_dataLeft : Int32) (o_last : Int32) (o_dataTo : Int32) (o_bytesCame : Int32) (o_came : Int32) (o_cameX : Int32) (o_cameY : Int32) (o_glyphs : Int32) (o_allGlyphs : Int32) (o_touched : Int32) (o_glyph : Nat) (o_pages : Int32) (o_page : Nat) (o_others : Int32) (o_other : Nat) (o_stored : Int32) (o_store : Nat) (sz : Nat)  : Met l y_mDesk_beginField w_mDesk_beginField rm_g_mDesk_beginField (va_Pc [.ref h0] (fun U => U.heap.size = sz ∧ va_P (dC, dI) vcl [(h0, .inr (13, [.int o_thrown, .ref o_state, .ref o_kept, .ref o_isKept, .int o_size, .int o_orientation, .int o_copies, .int o_width, .int o_height, .ref o_steps, .int o_phase, .int o_family, .int o_group, .int o_part, .int o_signed, .int o_negative, .int o_whole, .int o_behind, .int o_places, .int o_dataLeft, .int o_last, .int o_dataTo, .int o_bytesCame, .int o_came, .int o_cameX, .int o_cameY, .int o_glyphs, .int o_allGlyphs, .int o_touched, .ref o_glyph, .int o_pages, .ref o_page, .int o_others, .ref o_other, .int o_stored, .ref o_store]))] U.heap ∧ va_K (dC, dI) vcl [] U ∧ va_D (fun _ => True) [(h0, .inr (13, [.int o_thrown, .ref o_state, .ref o_kept, .ref o_isKept, .int o_size, .int o_orientation, .int o_copies, .int o_width, .int o_height, .ref o_steps, .int o_phase, .int o_family, .int o_group, .int o_part, .int o_signed, .int o_negative, .int o_whole, .int o_behind, .int o_places, .int o_dataLeft, .int o_last, .int o_dataTo, .int o_bytesCame, .int o_came, .int o_cameX, .int o_cameY, .int o_glyphs, .int o_allGlyphs, .int o_touched, .ref o_glyph, .int o_pages, .ref o_page, .int o_others, .ref o_other, .int o_stored, .ref o_store]))] ∧ SF tt (va_A [(h0, .inr (13, [.int o_thrown, .ref o_state, .ref o_kept, .ref o_isKept, .int o_size, .int o_orientation, .int o_copies, .int o_width, .int o_height, .ref o_steps, .int o_phase, .int o_family, .int o_group, .int o_part, .int o_signed, .int o_negative, .int o_whole, .int o_behind, .int o_places, .int o_dataLeft, .int o_last, .int o_dataTo, .int o_bytesCame, .int o_came, .int o_cameX, .int o_cameY, .int o_glyphs, .int o_allGlyphs, .int o_touched, .ref o_glyph, .int o_pages, .ref o_page, .int o_others, .ref o_other, .int o_stored, .ref o_store]))] sz) U U.heap)) (q_g_mDesk_beginField dC dI h0 o_thrown o_state o_kept o_isKept o_size o_orientation o_copies o_width o_height o_steps o_phase o_family o_group o_part o_signed o_negative o_whole o_behind o_places o_dataLeft o_last o_dataTo o_bytesCame o_came o_cameX o_cameY o_glyphs o_allGlyphs o_touched o_glyph o_pages o_page o_others o_other o_stored o_store (va_A [(h0, .inr (13, [.int o_thrown, .ref o_state, .ref o_kept, .ref o_isKept, .int o_size, .int o_orientation, .int o_copies, .int o_width, .int o_height, .ref o_steps, .int o_phase, .int o_family, .int o_group, .int o_part, .int o_signed, .int o_negative, .int o_whole, .int o_behind, .int o_places, .int o_dataLeft, .int o_last, .int o_dataTo, .int o_bytesCame, .int o_came, .int o_cameX, .int o_cameY, .int o_glyphs, .int o_allGlyphs, .int o_touched, .ref o_glyph, .int o_pages, .ref o_page, .int o_others, .ref o_other, .int o_stored, .ref o_store]))] sz)) 0 0 (va_A [(h0, .inr (13, [.int o_thrown, .ref o_state, .ref o_kept, .ref o_isKept, .int o_size, .int o_orientation, .int o_copies, .int o_width, .int o_height, .ref o_steps, .int o_phase, .int o_family, .int o_group, .int o_part, .int o_signed, .int o_negative, .int o_whole, .int o_behind, .int o_places, .int o_dataLeft, .int o_last, .int o_dataTo, .int o_bytesCame, .int o_came, .int o_cameX, .int o_cameY, .int o_glyphs, .int o_allGlyphs, .int o_touched, .ref o_glyph, .int o_pages, .ref o_page, .int o_others, .ref o_other, .int o_stored, .ref o_store]))] sz) := by
  refine Met.ofW (cc := b_mDesk_beginField) (maxL := 1) (ret := none) (by decide) rfl ?_
  intro p e s m args below meth c s₁ B hml hv
  obtain ⟨rfl, hsz, hP, hK, hD0, hF⟩ := hv
  have hx := B.exec
  have hb := B.bytes
  have hr := B.returns
  have hwd : ∀ w ∈ gT, w.before _ s = true := fun w h => atoms_spec (ws := w_mDesk_beginField) B.pre w (List.mem_cons_of_mem _ h)
  have hown : s.vm.findClass R_mDesk = some m.cls := findClass_of_methodNamed B.named
  have hlocks := B.notSynchronized
  subst hsz
  have hD := hD0.self (sz := s.heap.size)
  generalize hAe : va_A [(h0, .inr (13, [.int o_thrown, .ref o_state, .ref o_kept, .ref o_isKept, .int o_size, .int o_orientation, .int o_copies, .int o_width, .int o_height, .ref o_steps, .int o_phase, .int o_family, .int o_group, .int o_part, .int o_signed, .int o_negative, .int o_whole, .int o_behind, .int o_places, .int o_dataLeft, .int o_last, .int o_dataTo, .int o_bytesCame, .int o_came, .int o_cameX, .int o_cameY, .int o_glyphs, .int o_allGlyphs, .int o_touched, .ref o_glyph, .int o_pages, .ref o_page, .int o_others, .ref o_other, .int o_stored, .ref o_store]))] s.heap.size = A at hD hF ⊢
  have hA : ∀ q : Nat, s.heap.size ≤ q → A q := fun q h => by rw [← hAe]; exact Or.inr h
  have hS : va_S A s.heap s.heap [] := va_S.rf
  have hP : va_P (dC, dI) vcl [(h0, .inr (13, [.int o_thrown, .ref o_state, .ref o_kept, .ref o_isKept, .int o_size, .int o_orientation, .int o_copies, .int o_width, .int o_height, .ref o_steps, .int o_phase, .int o_family, .int o_group, .int o_part, .int o_signed, .int o_negative, .int o_whole, .int o_behind, .int o_places, .int o_dataLeft, .int o_last, .int o_dataTo, .int o_bytesCame, .int o_came, .int o_cameX, .int o_cameY, .int o_glyphs, .int o_allGlyphs, .int o_touched, .ref o_glyph, .int o_pages, .ref o_page, .int o_others, .ref o_other, .int o_stored, .ref o_store]))] s.heap := hP
  have hl := lv_entry ([.ref h0]) (n := 1) (Nat.le_of_ble_eq_true rfl)
  rw [lg_entry_eq]
  generalize (lg_sl ([.ref h0]) ++ List.replicate (1 - (lg_sl ([.ref h0])).length) Slot.unset).toArray = ls at hl ⊢
  have hl : lv_has ls 1 [(0, .ref h0)] := hl
  refine lv_aload_n hx hb d_mDesk_beginField_0 rfl (lv_at hl 0 rfl) ?_
  refine lv_iconst (v := 0) hx hb d_mDesk_beginField_1 (by decide) ?_
  refine va_put (D := (dC, dI)) (ci := 13) (v := .int 0) (ty := .int) (C := R_mDesk) (T := F_mDesk) (N := 36) hx hb hwd i_mDesk t_mDesk to_mDesk no_mDesk hown hK hP hD hS 0 rfl rfl 13 (by decide) (hwd _ wd_9_93) (fun _ h9 => h9) rfl (by decide +kernel) rfl rfl (Nat.le_of_ble_eq_true rfl) d_mDesk_beginField_2 ?_
  clear hP hD hS
  intro H locs hP hD hS
  replace hP : va_P (dC, dI) vcl [(h0, .inr (13, [.int o_thrown, .ref o_state, .ref o_kept, .ref o_isKept, .int o_size, .int o_orientation, .int o_copies, .int o_width, .int o_height, .ref o_steps, .int o_phase, .int o_family, .int o_group, .int 0, .int o_signed, .int o_negative, .int o_whole, .int o_behind, .int o_places, .int o_dataLeft, .int o_last, .int o_dataTo, .int o_bytesCame, .int o_came, .int o_cameX, .int o_cameY, .int o_glyphs, .int o_allGlyphs, .int o_touched, .ref o_glyph, .int o_pages, .ref o_page, .int o_others, .ref o_other, .int o_stored, .ref o_store]))] H := hP
  replace hD : va_D A [(h0, .inr (13, [.int o_thrown, .ref o_state, .ref o_kept, .ref o_isKept, .int o_size, .int o_orientation, .int o_copies, .int o_width, .int o_height, .ref o_steps, .int o_phase, .int o_family, .int o_group, .int 0, .int o_signed, .int o_negative, .int o_whole, .int o_behind, .int o_places, .int o_dataLeft, .int o_last, .int o_dataTo, .int o_bytesCame, .int o_came, .int o_cameX, .int o_cameY, .int o_glyphs, .int o_allGlyphs, .int o_touched, .ref o_glyph, .int o_pages, .ref o_page, .int o_others, .ref o_other, .int o_stored, .ref o_store]))] := hD
  refine lv_aload_n hx hb d_mDesk_beginField_5 rfl (lv_at hl 0 rfl) ?_
  refine lv_iconst (v := 0) hx hb d_mDesk_beginField_6 (by decide) ?_
  refine va_put (D := (dC, dI)) (ci := 13) (v := .int 0) (ty := .boolean) (C := R_mDesk) (T := F_mDesk) (N := 36) hx hb hwd i_mDesk t_mDesk to_mDesk no_mDesk hown hK hP hD hS 0 rfl rfl 14 (by decide) (hwd _ wd_9_94) (fun _ h9 => h9) rfl (by decide +kernel) (by decide) rfl (Nat.le_of_ble_eq_true rfl) d_mDesk_beginField_7 ?_
  clear hP hD hS
  intro H locs hP hD hS
  replace hP : va_P (dC, dI) vcl [(h0, .inr (13, [.int o_thrown, .ref o_state, .ref o_kept, .ref o_isKept, .int o_size, .int o_orientation, .int o_copies, .int o_width, .int o_height, .ref o_steps, .int o_phase, .int o_family, .int o_group, .int 0, .int 0, .int o_negative, .int o_whole, .int o_behind, .int o_places, .int o_dataLeft, .int o_last, .int o_dataTo, .int o_bytesCame, .int o_came, .int o_cameX, .int o_cameY, .int o_glyphs, .int o_allGlyphs, .int o_touched, .ref o_glyph, .int o_pages, .ref o_page, .int o_others, .ref o_other, .int o_stored, .ref o_store]))] H := hP
  replace hD : va_D A [(h0, .inr (13, [.int o_thrown, .ref o_state, .ref o_kept, .ref o_isKept, .int o_size, .int o_orientation, .int o_copies, .int o_width, .int o_height, .ref o_steps, .int o_phase, .int o_family, .int o_group, .int 0, .int 0, .int o_negative, .int o_whole, .int o_behind, .int o_places, .int o_dataLeft, .int o_last, .int o_dataTo, .int o_bytesCame, .int o_came, .int o_cameX, .int o_cameY, .int o_glyphs, .int o_allGlyphs, .int o_touched, .ref o_glyph, .int o_pages, .ref o_page, .int o_others, .ref o_other, .int o_stored, .ref o_store]))] := hD
  refine lv_aload_n hx hb d_mDesk_beginField_10 rfl (lv_at hl 0 rfl) ?_
  refine lv_iconst (v := 0) hx hb d_mDesk_beginField_11 (by decide) ?_
  refine va_put (D := (dC, dI)) (ci := 13) (v := .int 0) (ty := .boolean) (C := R_mDesk) (T := F_mDesk) (N := 36) hx hb hwd i_mDesk t_mDesk to_mDesk no_mDesk hown hK hP hD hS 0 rfl rfl 15 (by decide) (hwd _ wd_9_95) (fun _ h9 => h9) rfl (by decide +kernel) (by decide) rfl (Nat.le_of_ble_eq_true rfl) d_mDesk_beginField_12 ?_
  clear hP hD hS
  intro H locs hP hD hS
  replace hP : va_P (dC, dI) vcl [(h0, .inr (13, [.int o_thrown, .ref o_state, .ref o_kept, .ref o_isKept, .int o_size, .int o_orientation, .int o_copies, .int o_width, .int o_height, .ref o_steps, .int o_phase, .int o_family, .int o_group, .int 0, .int 0, .int 0, .int o_whole, .int o_behind, .int o_places, .int o_dataLeft, .int o_last, .int o_dataTo, .int o_bytesCame, .int o_came, .int o_cameX, .int o_cameY, .int o_glyphs, .int o_allGlyphs, .int o_touched, .ref o_glyph, .int o_pages, .ref o_page, .int o_others, .ref o_other, .int o_stored, .ref o_store]))] H := hP
  replace hD : va_D A [(h0, .inr (13, [.int o_thrown, .ref o_state, .ref o_kept, .ref o_isKept, .int o_size, .int o_orientation, .int o_copies, .int o_width, .int o_height, .ref o_steps, .int o_phase, .int o_family, .int o_group, .int 0, .int 0, .int 0, .int o_whole, .int o_behind, .int o_places, .int o_dataLeft, .int o_last, .int o_dataTo, .int o_bytesCame, .int o_came, .int o_cameX, .int o_cameY, .int o_glyphs, .int o_allGlyphs, .int o_touched, .ref o_glyph, .int o_pages, .ref o_page, .int o_others, .ref o_other, .int o_stored, .ref o_store]))] := hD
  refine lv_aload_n hx hb d_mDesk_beginField_15 rfl (lv_at hl 0 rfl) ?_
  refine lv_iconst (v := 0) hx hb d_mDesk_beginField_16 (by decide) ?_
  refine va_put (D := (dC, dI)) (ci := 13) (v := .int 0) (ty := .int) (C := R_mDesk) (T := F_mDesk) (N := 36) hx hb hwd i_mDesk t_mDesk to_mDesk no_mDesk hown hK hP hD hS 0 rfl rfl 16 (by decide) (hwd _ wd_9_96) (fun _ h9 => h9) rfl (by decide +kernel) rfl rfl (Nat.le_of_ble_eq_true rfl) d_mDesk_beginField_17 ?_
  clear hP hD hS
  intro H locs hP hD hS
  replace hP : va_P (dC, dI) vcl [(h0, .inr (13, [.int o_thrown, .ref o_state, .ref o_kept, .ref o_isKept, .int o_size, .int o_orientation, .int o_copies, .int o_width, .int o_height, .ref o_steps, .int o_phase, .int o_family, .int o_group, .int 0, .int 0, .int 0, .int 0, .int o_behind, .int o_places, .int o_dataLeft, .int o_last, .int o_dataTo, .int o_bytesCame, .int o_came, .int o_cameX, .int o_cameY, .int o_glyphs, .int o_allGlyphs, .int o_touched, .ref o_glyph, .int o_pages, .ref o_page, .int o_others, .ref o_other, .int o_stored, .ref o_store]))] H := hP
  replace hD : va_D A [(h0, .inr (13, [.int o_thrown, .ref o_state, .ref o_kept, .ref o_isKept, .int o_size, .int o_orientation, .int o_copies, .int o_width, .int o_height, .ref o_steps, .int o_phase, .int o_family, .int o_group, .int 0, .int 0, .int 0, .int 0, .int o_behind, .int o_places, .int o_dataLeft, .int o_last, .int o_dataTo, .int o_bytesCame, .int o_came, .int o_cameX, .int o_cameY, .int o_glyphs, .int o_allGlyphs, .int o_touched, .ref o_glyph, .int o_pages, .ref o_page, .int o_others, .ref o_other, .int o_stored, .ref o_store]))] := hD
  refine lv_aload_n hx hb d_mDesk_beginField_20 rfl (lv_at hl 0 rfl) ?_
  refine lv_iconst (v := 0) hx hb d_mDesk_beginField_21 (by decide) ?_
  refine va_put (D := (dC, dI)) (ci := 13) (v := .int 0) (ty := .int) (C := R_mDesk) (T := F_mDesk) (N := 36) hx hb hwd i_mDesk t_mDesk to_mDesk no_mDesk hown hK hP hD hS 0 rfl rfl 17 (by decide) (hwd _ wd_9_97) (fun _ h9 => h9) rfl (by decide +kernel) rfl rfl (Nat.le_of_ble_eq_true rfl) d_mDesk_beginField_22 ?_
  clear hP hD hS
  intro H locs hP hD hS
  replace hP : va_P (dC, dI) vcl [(h0, .inr (13, [.int o_thrown, .ref o_state, .ref o_kept, .ref o_isKept, .int o_size, .int o_orientation, .int o_copies, .int o_width, .int o_height, .ref o_steps, .int o_phase, .int o_family, .int o_group, .int 0, .int 0, .int 0, .int 0, .int 0, .int o_places, .int o_dataLeft, .int o_last, .int o_dataTo, .int o_bytesCame, .int o_came, .int o_cameX, .int o_cameY, .int o_glyphs, .int o_allGlyphs, .int o_touched, .ref o_glyph, .int o_pages, .ref o_page, .int o_others, .ref o_other, .int o_stored, .ref o_store]))] H := hP
  replace hD : va_D A [(h0, .inr (13, [.int o_thrown, .ref o_state, .ref o_kept, .ref o_isKept, .int o_size, .int o_orientation, .int o_copies, .int o_width, .int o_height, .ref o_steps, .int o_phase, .int o_family, .int o_group, .int 0, .int 0, .int 0, .int 0, .int 0, .int o_places, .int o_dataLeft, .int o_last, .int o_dataTo, .int o_bytesCame, .int o_came, .int o_cameX, .int o_cameY, .int o_glyphs, .int o_allGlyphs, .int o_touched, .ref o_glyph, .int o_pages, .ref o_page, .int o_others, .ref o_other, .int o_stored, .ref o_store]))] := hD
  refine lv_aload_n hx hb d_mDesk_beginField_25 rfl (lv_at hl 0 rfl) ?_
  refine lv_iconst (v := 0) hx hb d_mDesk_beginField_26 (by decide) ?_
  refine va_put (D := (dC, dI)) (ci := 13) (v := .int 0) (ty := .int) (C := R_mDesk) (T := F_mDesk) (N := 36) hx hb hwd i_mDesk t_mDesk to_mDesk no_mDesk hown hK hP hD hS 0 rfl rfl 18 (by decide) (hwd _ wd_9_98) (fun _ h9 => h9) rfl (by decide +kernel) rfl rfl (Nat.le_of_ble_eq_true rfl) d_mDesk_beginField_27 ?_
  clear hP hD hS
  intro H locs hP hD hS
  replace hP : va_P (dC, dI) vcl [(h0, .inr (13, [.int o_thrown, .ref o_state, .ref o_kept, .ref o_isKept, .int o_size, .int o_orientation, .int o_copies, .int o_width, .int o_height, .ref o_steps, .int o_phase, .int o_family, .int o_group, .int 0, .int 0, .int 0, .int 0, .int 0, .int 0, .int o_dataLeft, .int o_last, .int o_dataTo, .int o_bytesCame, .int o_came, .int o_cameX, .int o_cameY, .int o_glyphs, .int o_allGlyphs, .int o_touched, .ref o_glyph, .int o_pages, .ref o_page, .int o_others, .ref o_other, .int o_stored, .ref o_store]))] H := hP
  replace hD : va_D A [(h0, .inr (13, [.int o_thrown, .ref o_state, .ref o_kept, .ref o_isKept, .int o_size, .int o_orientation, .int o_copies, .int o_width, .int o_height, .ref o_steps, .int o_phase, .int o_family, .int o_group, .int 0, .int 0, .int 0, .int 0, .int 0, .int 0, .int o_dataLeft, .int o_last, .int o_dataTo, .int o_bytesCame, .int o_came, .int o_cameX, .int o_cameY, .int o_glyphs, .int o_allGlyphs, .int o_touched, .ref o_glyph, .int o_pages, .ref o_page, .int o_others, .ref o_other, .int o_stored, .ref o_store]))] := hD
  have hP9 := hP.sub (ws' := [(h0, .inr (13, [.int o_thrown, .ref o_state, .ref o_kept, .ref o_isKept, .int o_size, .int o_orientation, .int o_copies, .int o_width, .int o_height, .ref o_steps, .int o_phase, .int o_family, .int o_group, .int 0, .int 0, .int 0, .int 0, .int 0, .int 0, .int o_dataLeft, .int o_last, .int o_dataTo, .int o_bytesCame, .int o_came, .int o_cameX, .int o_cameY, .int o_glyphs, .int o_allGlyphs, .int o_touched, .ref o_glyph, .int o_pages, .ref o_page, .int o_others, .ref o_other, .int o_stored, .ref o_store]))]) [0] rfl
  have hD9 := hD.sub (ws' := [(h0, .inr (13, [.int o_thrown, .ref o_state, .ref o_kept, .ref o_isKept, .int o_size, .int o_orientation, .int o_copies, .int o_width, .int o_height, .ref o_steps, .int o_phase, .int o_family, .int o_group, .int 0, .int 0, .int 0, .int 0, .int 0, .int 0, .int o_dataLeft, .int o_last, .int o_dataTo, .int o_bytesCame, .int o_came, .int o_cameX, .int o_cameY, .int o_glyphs, .int o_allGlyphs, .int o_touched, .ref o_glyph, .int o_pages, .ref o_page, .int o_others, .ref o_other, .int o_stored, .ref o_store]))]) [0] (by decide) rfl
  have hK9 := hK.sub (tys' := []) [] rfl
  exact W.vret hx hb hr (fun t ht hW => ⟨⟨(), rfl, (trivial), by rw [ht]; exact hP9, va_K.moved hW.alike hK9, hD9⟩, hS.F ht⟩) hS.2.2 d_mDesk_beginField_30

abbrev at_g_mDesk_isSequence (dC : Nat → ClassId) (dI : Nat → Nat → Nat) (h0 : Nat) (o_thrown : Int32) (o_state : Nat) (o_kept : Nat) (o_isKept : Nat) (o_size : Int32) (o_orientation : Int32) (o_copies : Int32) (o_width : Int32) (o_height : Int32) (o_steps : Nat) (o_phase : Int32) (o_family : Int32) (o_group : Int32) (o_part : Int32) (o_signed : Int32) (o_negative : Int32) (o_whole : Int32) (o_behind : Int32) (o_places : Int32) (o_dataLeft : Int32) (o_last : Int32) (o_dataTo : Int32) (o_bytesCame : Int32) (o_came : Int32) (o_cameX : Int32) (o_cameY : Int32) (o_glyphs : Int32) (o_allGlyphs : Int32) (o_touched : Int32) (o_glyph : Nat) (o_pages : Int32) (o_page : Nat) (o_others : Int32) (o_other : Nat) (o_stored : Int32) (o_store : Nat) (A : Nat → Prop) (u : Unit) (t : State) : Prop := match u with
  | _ => va_P (dC, dI) vcl [(h0, .inr (13, [.int o_thrown, .ref o_state, .ref o_kept, .ref o_isKept, .int o_size, .int o_orientation, .int o_copies, .int o_width, .int o_height, .ref o_steps, .int o_phase, .int o_family, .int o_group, .int o_part, .int o_signed, .int o_negative, .int o_whole, .int o_behind, .int o_places, .int o_dataLeft, .int o_last, .int o_dataTo, .int o_bytesCame, .int o_came, .int o_cameX, .int o_cameY, .int o_glyphs, .int o_allGlyphs, .int o_touched, .ref o_glyph, .int o_pages, .ref o_page, .int o_others, .ref o_other, .int o_stored, .ref o_store]))] t.heap ∧ va_K (dC, dI) vcl [] t ∧ va_D A [(h0, .inr (13, [.int o_thrown, .ref o_state, .ref o_kept, .ref o_isKept, .int o_size, .int o_orientation, .int o_copies, .int o_width, .int o_height, .ref o_steps, .int o_phase, .int o_family, .int o_group, .int o_part, .int o_signed, .int o_negative, .int o_whole, .int o_behind, .int o_places, .int o_dataLeft, .int o_last, .int o_dataTo, .int o_bytesCame, .int o_came, .int o_cameX, .int o_cameY, .int o_glyphs, .int o_allGlyphs, .int o_touched, .ref o_glyph, .int o_pages, .ref o_page, .int o_others, .ref o_other, .int o_stored, .ref o_store]))]
abbrev po_g_mDesk_isSequence (h0 : Nat) (o_thrown : Int32) (o_state : Nat) (o_kept : Nat) (o_isKept : Nat) (o_size : Int32) (o_orientation : Int32) (o_copies : Int32) (o_width : Int32) (o_height : Int32) (o_steps : Nat) (o_phase : Int32) (o_family : Int32) (o_group : Int32) (o_part : Int32) (o_signed : Int32) (o_negative : Int32) (o_whole : Int32) (o_behind : Int32) (o_places : Int32) (o_dataLeft : Int32) (o_last : Int32) (o_dataTo : Int32) (o_bytesCame : Int32) (o_came : Int32) (o_cameX : Int32) (o_cameY : Int32) (o_glyphs : Int32) (o_allGlyphs : Int32) (o_touched : Int32) (o_glyph : Nat) (o_pages : Int32) (o_page : Nat) (o_others : Int32) (o_other : Nat) (o_stored : Int32) (o_store : Nat) (r : Int32) (u : Unit) : Prop := match u with
  | _ => r = if o_phase ≤ (1 : Int32) then 0 else 1
abbrev q_g_mDesk_isSequence (dC : Nat → ClassId) (dI : Nat → Nat → Nat) (h0 : Nat) (o_thrown : Int32) (o_state : Nat) (o_kept : Nat) (o_isKept : Nat) (o_size : Int32) (o_orientation : Int32) (o_copies : Int32) (o_width : Int32) (o_height : Int32) (o_steps : Nat) (o_phase : Int32) (o_family : Int32) (o_group : Int32) (o_part : Int32) (o_signed : Int32) (o_negative : Int32) (o_whole : Int32) (o_behind : Int32) (o_places : Int32) (o_dataLeft : Int32) (o_last : Int32) (o_dataTo : Int32) (o_bytesCame : Int32) (o_came : Int32) (o_cameX : Int32) (o_cameY : Int32) (o_glyphs : Int32) (o_allGlyphs : Int32) (o_touched : Int32) (o_glyph : Nat) (o_pages : Int32) (o_page : Nat) (o_others : Int32) (o_other : Nat) (o_stored : Int32) (o_store : Nat) (A : Nat → Prop) : Array Value → State → Outcome → State → Prop := va_Qi (po_g_mDesk_isSequence h0 o_thrown o_state o_kept o_isKept o_size o_orientation o_copies o_width o_height o_steps o_phase o_family o_group o_part o_signed o_negative o_whole o_behind o_places o_dataLeft o_last o_dataTo o_bytesCame o_came o_cameX o_cameY o_glyphs o_allGlyphs o_touched o_glyph o_pages o_page o_others o_other o_stored o_store) (at_g_mDesk_isSequence dC dI h0 o_thrown o_state o_kept o_isKept o_size o_orientation o_copies o_width o_height o_steps o_phase o_family o_group o_part o_signed o_negative o_whole o_behind o_places o_dataLeft o_last o_dataTo o_bytesCame o_came o_cameX o_cameY o_glyphs o_allGlyphs o_touched o_glyph o_pages o_page o_others o_other o_stored o_store A) A
abbrev rm_g_mDesk_isSequence : Room := { frames := 0, cells := 0, slots := 0, locals := 0 }
set_option maxHeartbeats 4000000 in
set_option maxRecDepth 100000 in
theorem g_mDesk_isSequence (l : Launch) (dC : Nat → ClassId) (dI : Nat → Nat → Nat) (tt : Nat → Nat) (h0 : Nat) (o_thrown : Int32) (o_state : Nat) (o_kept : Nat) (o_isKept : Nat) (o_size : Int32) (o_orientation : Int32) (o_copies : Int32) (o_width : Int32) (o_height : Int32) (o_steps : Nat) (o_phase : Int32) (o_family : Int32) (o_group : Int32) (o_part : Int32) (o_signed : Int32) (o_negative : Int32) (o_whole : Int32) (o_behind : Int32) (o_places : Int32) (o_dataLeft : Int32) (o_last : Int32) (o_dataTo : Int32) (o_bytesCame : Int32) (o_came : Int32) (o_cameX : Int32) (o_cameY : Int32) (o_glyphs : Int32) (o_allGlyphs : Int32) (o_touched : Int32) (o_glyph : Nat) (o_pages : Int32) (o_page : Nat) (o_others : Int32) (o_other : Nat) (o_stored : Int32) (o_store : Nat) (sz : Nat)  : Met l y_mDesk_isSequence w_mDesk_isSequence rm_g_mDesk_isSequence (va_Pc [.ref h0] (fun U => U.heap.size = sz ∧ va_P (dC, dI) vcl [(h0, .inr (13, [.int o_thrown, .ref o_state, .ref o_kept, .ref o_isKept, .int o_size, .int o_orientation, .int o_copies, .int o_width, .int o_height, .ref o_steps, .int o_phase, .int o_family, .int o_group, .int o_part, .int o_signed, .int o_negative, .int o_whole, .int o_behind, .int o_places, .int o_dataLeft, .int o_last, .int o_dataTo, .int o_bytesCame, .int o_came, .int o_cameX, .int o_cameY, .int o_glyphs, .int o_allGlyphs, .int o_touched, .ref o_glyph, .int o_pages, .ref o_page, .int o_others, .ref o_other, .int o_stored, .ref o_store]))] U.heap ∧ va_K (dC, dI) vcl [] U ∧ va_D (fun _ => True) [(h0, .inr (13, [.int o_thrown, .ref o_state, .ref o_kept, .ref o_isKept, .int o_size, .int o_orientation, .int o_copies, .int o_width, .int o_height, .ref o_steps, .int o_phase, .int o_family, .int o_group, .int o_part, .int o_signed, .int o_negative, .int o_whole, .int o_behind, .int o_places, .int o_dataLeft, .int o_last, .int o_dataTo, .int o_bytesCame, .int o_came, .int o_cameX, .int o_cameY, .int o_glyphs, .int o_allGlyphs, .int o_touched, .ref o_glyph, .int o_pages, .ref o_page, .int o_others, .ref o_other, .int o_stored, .ref o_store]))] ∧ SF tt (va_A [(h0, .inr (13, [.int o_thrown, .ref o_state, .ref o_kept, .ref o_isKept, .int o_size, .int o_orientation, .int o_copies, .int o_width, .int o_height, .ref o_steps, .int o_phase, .int o_family, .int o_group, .int o_part, .int o_signed, .int o_negative, .int o_whole, .int o_behind, .int o_places, .int o_dataLeft, .int o_last, .int o_dataTo, .int o_bytesCame, .int o_came, .int o_cameX, .int o_cameY, .int o_glyphs, .int o_allGlyphs, .int o_touched, .ref o_glyph, .int o_pages, .ref o_page, .int o_others, .ref o_other, .int o_stored, .ref o_store]))] sz) U U.heap)) (q_g_mDesk_isSequence dC dI h0 o_thrown o_state o_kept o_isKept o_size o_orientation o_copies o_width o_height o_steps o_phase o_family o_group o_part o_signed o_negative o_whole o_behind o_places o_dataLeft o_last o_dataTo o_bytesCame o_came o_cameX o_cameY o_glyphs o_allGlyphs o_touched o_glyph o_pages o_page o_others o_other o_stored o_store (va_A [(h0, .inr (13, [.int o_thrown, .ref o_state, .ref o_kept, .ref o_isKept, .int o_size, .int o_orientation, .int o_copies, .int o_width, .int o_height, .ref o_steps, .int o_phase, .int o_family, .int o_group, .int o_part, .int o_signed, .int o_negative, .int o_whole, .int o_behind, .int o_places, .int o_dataLeft, .int o_last, .int o_dataTo, .int o_bytesCame, .int o_came, .int o_cameX, .int o_cameY, .int o_glyphs, .int o_allGlyphs, .int o_touched, .ref o_glyph, .int o_pages, .ref o_page, .int o_others, .ref o_other, .int o_stored, .ref o_store]))] sz)) 0 0 (va_A [(h0, .inr (13, [.int o_thrown, .ref o_state, .ref o_kept, .ref o_isKept, .int o_size, .int o_orientation, .int o_copies, .int o_width, .int o_height, .ref o_steps, .int o_phase, .int o_family, .int o_group, .int o_part, .int o_signed, .int o_negative, .int o_whole, .int o_behind, .int o_places, .int o_dataLeft, .int o_last, .int o_dataTo, .int o_bytesCame, .int o_came, .int o_cameX, .int o_cameY, .int o_glyphs, .int o_allGlyphs, .int o_touched, .ref o_glyph, .int o_pages, .ref o_page, .int o_others, .ref o_other, .int o_stored, .ref o_store]))] sz) := by
  refine Met.ofW (cc := b_mDesk_isSequence) (maxL := 1) (ret := (some .boolean)) (by decide) rfl ?_
  intro p e s m args below meth c s₁ B hml hv
  obtain ⟨rfl, hsz, hP, hK, hD0, hF⟩ := hv
  have hx := B.exec
  have hb := B.bytes
  have hr := B.returns
  have hwd : ∀ w ∈ gT, w.before _ s = true := fun w h => atoms_spec (ws := w_mDesk_isSequence) B.pre w (List.mem_cons_of_mem _ h)
  have hown : s.vm.findClass R_mDesk = some m.cls := findClass_of_methodNamed B.named
  have hlocks := B.notSynchronized
  subst hsz
  have hD := hD0.self (sz := s.heap.size)
  generalize hAe : va_A [(h0, .inr (13, [.int o_thrown, .ref o_state, .ref o_kept, .ref o_isKept, .int o_size, .int o_orientation, .int o_copies, .int o_width, .int o_height, .ref o_steps, .int o_phase, .int o_family, .int o_group, .int o_part, .int o_signed, .int o_negative, .int o_whole, .int o_behind, .int o_places, .int o_dataLeft, .int o_last, .int o_dataTo, .int o_bytesCame, .int o_came, .int o_cameX, .int o_cameY, .int o_glyphs, .int o_allGlyphs, .int o_touched, .ref o_glyph, .int o_pages, .ref o_page, .int o_others, .ref o_other, .int o_stored, .ref o_store]))] s.heap.size = A at hD hF ⊢
  have hA : ∀ q : Nat, s.heap.size ≤ q → A q := fun q h => by rw [← hAe]; exact Or.inr h
  have hS : va_S A s.heap s.heap [] := va_S.rf
  have hP : va_P (dC, dI) vcl [(h0, .inr (13, [.int o_thrown, .ref o_state, .ref o_kept, .ref o_isKept, .int o_size, .int o_orientation, .int o_copies, .int o_width, .int o_height, .ref o_steps, .int o_phase, .int o_family, .int o_group, .int o_part, .int o_signed, .int o_negative, .int o_whole, .int o_behind, .int o_places, .int o_dataLeft, .int o_last, .int o_dataTo, .int o_bytesCame, .int o_came, .int o_cameX, .int o_cameY, .int o_glyphs, .int o_allGlyphs, .int o_touched, .ref o_glyph, .int o_pages, .ref o_page, .int o_others, .ref o_other, .int o_stored, .ref o_store]))] s.heap := hP
  have hl := lv_entry ([.ref h0]) (n := 1) (Nat.le_of_ble_eq_true rfl)
  rw [lg_entry_eq]
  generalize (lg_sl ([.ref h0]) ++ List.replicate (1 - (lg_sl ([.ref h0])).length) Slot.unset).toArray = ls at hl ⊢
  have hl : lv_has ls 1 [(0, .ref h0)] := hl
  refine lv_aload_n hx hb d_mDesk_isSequence_0 rfl (lv_at hl 0 rfl) ?_
  refine va_get (D := (dC, dI)) (ci := 13) (v := .int o_phase) (C := R_mDesk) (T := F_mDesk) (N := 36) hx hb hwd i_mDesk hown hK hP 0 rfl rfl 10 (by decide) (hwd _ wd_9_90) (fun _ h9 => h9) rfl d_mDesk_isSequence_1 ?_
  refine lv_iconst (v := 1) hx hb d_mDesk_isSequence_4 (by decide) ?_
  refine lv_icmp_le (tgt := 12) hx hb d_mDesk_isSequence_5 (by decide) (fun c5 => ?_) (fun c5 => ?_)
  · refine lv_iconst (v := 0) hx hb d_mDesk_isSequence_12 (by decide) ?_
    have hP9 := hP.sub (ws' := [(h0, .inr (13, [.int o_thrown, .ref o_state, .ref o_kept, .ref o_isKept, .int o_size, .int o_orientation, .int o_copies, .int o_width, .int o_height, .ref o_steps, .int o_phase, .int o_family, .int o_group, .int o_part, .int o_signed, .int o_negative, .int o_whole, .int o_behind, .int o_places, .int o_dataLeft, .int o_last, .int o_dataTo, .int o_bytesCame, .int o_came, .int o_cameX, .int o_cameY, .int o_glyphs, .int o_allGlyphs, .int o_touched, .ref o_glyph, .int o_pages, .ref o_page, .int o_others, .ref o_other, .int o_stored, .ref o_store]))]) [0] rfl
    have hD9 := hD.sub (ws' := [(h0, .inr (13, [.int o_thrown, .ref o_state, .ref o_kept, .ref o_isKept, .int o_size, .int o_orientation, .int o_copies, .int o_width, .int o_height, .ref o_steps, .int o_phase, .int o_family, .int o_group, .int o_part, .int o_signed, .int o_negative, .int o_whole, .int o_behind, .int o_places, .int o_dataLeft, .int o_last, .int o_dataTo, .int o_bytesCame, .int o_came, .int o_cameX, .int o_cameY, .int o_glyphs, .int o_allGlyphs, .int o_touched, .ref o_glyph, .int o_pages, .ref o_page, .int o_others, .ref o_other, .int o_stored, .ref o_store]))]) [0] (by decide) rfl
    have hK9 := hK.sub (tys' := []) [] rfl
    exact W.zret (v := 0) hx hb hr (by decide) (fun t ht hW => ⟨⟨0, (), rfl, (show (0 : Int32) = if o_phase ≤ (1 : Int32) then 0 else 1 from (by rw [if_pos c5])), by rw [ht]; exact hP9, va_K.moved hW.alike hK9, hD9⟩, hS.F ht⟩) hS.2.2 d_mDesk_isSequence_13
  · refine lv_iconst (v := 1) hx hb d_mDesk_isSequence_8 (by decide) ?_
    refine lv_goto (tgt := 13) hx hb d_mDesk_isSequence_9 (by decide) ?_
    have hP9 := hP.sub (ws' := [(h0, .inr (13, [.int o_thrown, .ref o_state, .ref o_kept, .ref o_isKept, .int o_size, .int o_orientation, .int o_copies, .int o_width, .int o_height, .ref o_steps, .int o_phase, .int o_family, .int o_group, .int o_part, .int o_signed, .int o_negative, .int o_whole, .int o_behind, .int o_places, .int o_dataLeft, .int o_last, .int o_dataTo, .int o_bytesCame, .int o_came, .int o_cameX, .int o_cameY, .int o_glyphs, .int o_allGlyphs, .int o_touched, .ref o_glyph, .int o_pages, .ref o_page, .int o_others, .ref o_other, .int o_stored, .ref o_store]))]) [0] rfl
    have hD9 := hD.sub (ws' := [(h0, .inr (13, [.int o_thrown, .ref o_state, .ref o_kept, .ref o_isKept, .int o_size, .int o_orientation, .int o_copies, .int o_width, .int o_height, .ref o_steps, .int o_phase, .int o_family, .int o_group, .int o_part, .int o_signed, .int o_negative, .int o_whole, .int o_behind, .int o_places, .int o_dataLeft, .int o_last, .int o_dataTo, .int o_bytesCame, .int o_came, .int o_cameX, .int o_cameY, .int o_glyphs, .int o_allGlyphs, .int o_touched, .ref o_glyph, .int o_pages, .ref o_page, .int o_others, .ref o_other, .int o_stored, .ref o_store]))]) [0] (by decide) rfl
    have hK9 := hK.sub (tys' := []) [] rfl
    exact W.zret (v := 1) hx hb hr (by decide) (fun t ht hW => ⟨⟨1, (), rfl, (show (1 : Int32) = if o_phase ≤ (1 : Int32) then 0 else 1 from (by rw [if_neg c5])), by rw [ht]; exact hP9, va_K.moved hW.alike hK9, hD9⟩, hS.F ht⟩) hS.2.2 d_mDesk_isSequence_13

abbrev at_g_mDesk_stop (dC : Nat → ClassId) (dI : Nat → Nat → Nat) (h0 : Nat) (o_thrown : Int32) (o_state : Nat) (o_kept : Nat) (o_isKept : Nat) (o_size : Int32) (o_orientation : Int32) (o_copies : Int32) (o_width : Int32) (o_height : Int32) (o_steps : Nat) (o_phase : Int32) (o_family : Int32) (o_group : Int32) (o_part : Int32) (o_signed : Int32) (o_negative : Int32) (o_whole : Int32) (o_behind : Int32) (o_places : Int32) (o_dataLeft : Int32) (o_last : Int32) (o_dataTo : Int32) (o_bytesCame : Int32) (o_came : Int32) (o_cameX : Int32) (o_cameY : Int32) (o_glyphs : Int32) (o_allGlyphs : Int32) (o_touched : Int32) (o_glyph : Nat) (o_pages : Int32) (o_page : Nat) (o_others : Int32) (o_other : Nat) (o_stored : Int32) (o_store : Nat) (A : Nat → Prop) (u : Unit) (t : State) : Prop := match u with
  | _ => va_P (dC, dI) vcl [(h0, .inr (13, [.int o_thrown, .ref o_state, .ref o_kept, .ref o_isKept, .int o_size, .int o_orientation, .int o_copies, .int o_width, .int o_height, .ref o_steps, .int 0, .int o_family, .int o_group, .int o_part, .int o_signed, .int o_negative, .int o_whole, .int o_behind, .int o_places, .int o_dataLeft, .int o_last, .int o_dataTo, .int o_bytesCame, .int o_came, .int o_cameX, .int o_cameY, .int o_glyphs, .int o_allGlyphs, .int o_touched, .ref o_glyph, .int o_pages, .ref o_page, .int o_others, .ref o_other, .int o_stored, .ref o_store]))] t.heap ∧ va_K (dC, dI) vcl [] t ∧ va_D A [(h0, .inr (13, [.int o_thrown, .ref o_state, .ref o_kept, .ref o_isKept, .int o_size, .int o_orientation, .int o_copies, .int o_width, .int o_height, .ref o_steps, .int 0, .int o_family, .int o_group, .int o_part, .int o_signed, .int o_negative, .int o_whole, .int o_behind, .int o_places, .int o_dataLeft, .int o_last, .int o_dataTo, .int o_bytesCame, .int o_came, .int o_cameX, .int o_cameY, .int o_glyphs, .int o_allGlyphs, .int o_touched, .ref o_glyph, .int o_pages, .ref o_page, .int o_others, .ref o_other, .int o_stored, .ref o_store]))]
abbrev po_g_mDesk_stop (h0 : Nat) (o_thrown : Int32) (o_state : Nat) (o_kept : Nat) (o_isKept : Nat) (o_size : Int32) (o_orientation : Int32) (o_copies : Int32) (o_width : Int32) (o_height : Int32) (o_steps : Nat) (o_phase : Int32) (o_family : Int32) (o_group : Int32) (o_part : Int32) (o_signed : Int32) (o_negative : Int32) (o_whole : Int32) (o_behind : Int32) (o_places : Int32) (o_dataLeft : Int32) (o_last : Int32) (o_dataTo : Int32) (o_bytesCame : Int32) (o_came : Int32) (o_cameX : Int32) (o_cameY : Int32) (o_glyphs : Int32) (o_allGlyphs : Int32) (o_touched : Int32) (o_glyph : Nat) (o_pages : Int32) (o_page : Nat) (o_others : Int32) (o_other : Nat) (o_stored : Int32) (o_store : Nat) (u : Unit) : Prop := match u with
  | _ => True
abbrev q_g_mDesk_stop (dC : Nat → ClassId) (dI : Nat → Nat → Nat) (h0 : Nat) (o_thrown : Int32) (o_state : Nat) (o_kept : Nat) (o_isKept : Nat) (o_size : Int32) (o_orientation : Int32) (o_copies : Int32) (o_width : Int32) (o_height : Int32) (o_steps : Nat) (o_phase : Int32) (o_family : Int32) (o_group : Int32) (o_part : Int32) (o_signed : Int32) (o_negative : Int32) (o_whole : Int32) (o_behind : Int32) (o_places : Int32) (o_dataLeft : Int32) (o_last : Int32) (o_dataTo : Int32) (o_bytesCame : Int32) (o_came : Int32) (o_cameX : Int32) (o_cameY : Int32) (o_glyphs : Int32) (o_allGlyphs : Int32) (o_touched : Int32) (o_glyph : Nat) (o_pages : Int32) (o_page : Nat) (o_others : Int32) (o_other : Nat) (o_stored : Int32) (o_store : Nat) (A : Nat → Prop) : Array Value → State → Outcome → State → Prop := va_Qv (po_g_mDesk_stop h0 o_thrown o_state o_kept o_isKept o_size o_orientation o_copies o_width o_height o_steps o_phase o_family o_group o_part o_signed o_negative o_whole o_behind o_places o_dataLeft o_last o_dataTo o_bytesCame o_came o_cameX o_cameY o_glyphs o_allGlyphs o_touched o_glyph o_pages o_page o_others o_other o_stored o_store) (at_g_mDesk_stop dC dI h0 o_thrown o_state o_kept o_isKept o_size o_orientation o_copies o_width o_height o_steps o_phase o_family o_group o_part o_signed o_negative o_whole o_behind o_places o_dataLeft o_last o_dataTo o_bytesCame o_came o_cameX o_cameY o_glyphs o_allGlyphs o_touched o_glyph o_pages o_page o_others o_other o_stored o_store A) A
abbrev rm_g_mDesk_stop : Room := { frames := 0, cells := 0, slots := 0, locals := 0 }
set_option maxHeartbeats 4000000 in
set_option maxRecDepth 100000 in
theorem g_mDesk_stop (l : Launch) (dC : Nat → ClassId) (dI : Nat → Nat → Nat) (tt : Nat → Nat) (h0 : Nat) (o_thrown : Int32) (o_state : Nat) (o_kept : Nat) (o_isKept : Nat) (o_size : Int32) (o_orientation : Int32) (o_copies : Int32) (o_width : Int32) (o_height : Int32) (o_steps : Nat) (o_phase : Int32) (o_family : Int32) (o_group : Int32) (o_part : Int32) (o_signed : Int32) (o_negative : Int32) (o_whole : Int32) (o_behind : Int32) (o_places : Int32) (o_dataLeft : Int32) (o_last : Int32) (o_dataTo : Int32) (o_bytesCame : Int32) (o_came : Int32) (o_cameX : Int32) (o_cameY : Int32) (o_glyphs : Int32) (o_allGlyphs : Int32) (o_touched : Int32) (o_glyph : Nat) (o_pages : Int32) (o_page : Nat) (o_others : Int32) (o_other : Nat) (o_stored : Int32) (o_store : Nat) (sz : Nat)  : Met l y_mDesk_stop w_mDesk_stop rm_g_mDesk_stop (va_Pc [.ref h0] (fun U => U.heap.size = sz ∧ va_P (dC, dI) vcl [(h0, .inr (13, [.int o_thrown, .ref o_state, .ref o_kept, .ref o_isKept, .int o_size, .int o_orientation, .int o_copies, .int o_width, .int o_height, .ref o_steps, .int o_phase, .int o_family, .int o_group, .int o_part, .int o_signed, .int o_negative, .int o_whole, .int o_behind, .int o_places, .int o_dataLeft, .int o_last, .int o_dataTo, .int o_bytesCame, .int o_came, .int o_cameX, .int o_cameY, .int o_glyphs, .int o_allGlyphs, .int o_touched, .ref o_glyph, .int o_pages, .ref o_page, .int o_others, .ref o_other, .int o_stored, .ref o_store]))] U.heap ∧ va_K (dC, dI) vcl [] U ∧ va_D (fun _ => True) [(h0, .inr (13, [.int o_thrown, .ref o_state, .ref o_kept, .ref o_isKept, .int o_size, .int o_orientation, .int o_copies, .int o_width, .int o_height, .ref o_steps, .int o_phase, .int o_family, .int o_group, .int o_part, .int o_signed, .int o_negative, .int o_whole, .int o_behind, .int o_places, .int o_dataLeft, .int o_last, .int o_dataTo, .int o_bytesCame, .int o_came, .int o_cameX, .int o_cameY, .int o_glyphs, .int o_allGlyphs, .int o_touched, .ref o_glyph, .int o_pages, .ref o_page, .int o_others, .ref o_other, .int o_stored, .ref o_store]))] ∧ SF tt (va_A [(h0, .inr (13, [.int o_thrown, .ref o_state, .ref o_kept, .ref o_isKept, .int o_size, .int o_orientation, .int o_copies, .int o_width, .int o_height, .ref o_steps, .int o_phase, .int o_family, .int o_group, .int o_part, .int o_signed, .int o_negative, .int o_whole, .int o_behind, .int o_places, .int o_dataLeft, .int o_last, .int o_dataTo, .int o_bytesCame, .int o_came, .int o_cameX, .int o_cameY, .int o_glyphs, .int o_allGlyphs, .int o_touched, .ref o_glyph, .int o_pages, .ref o_page, .int o_others, .ref o_other, .int o_stored, .ref o_store]))] sz) U U.heap)) (q_g_mDesk_stop dC dI h0 o_thrown o_state o_kept o_isKept o_size o_orientation o_copies o_width o_height o_steps o_phase o_family o_group o_part o_signed o_negative o_whole o_behind o_places o_dataLeft o_last o_dataTo o_bytesCame o_came o_cameX o_cameY o_glyphs o_allGlyphs o_touched o_glyph o_pages o_page o_others o_other o_stored o_store (va_A [(h0, .inr (13, [.int o_thrown, .ref o_state, .ref o_kept, .ref o_isKept, .int o_size, .int o_orientation, .int o_copies, .int o_width, .int o_height, .ref o_steps, .int o_phase, .int o_family, .int o_group, .int o_part, .int o_signed, .int o_negative, .int o_whole, .int o_behind, .int o_places, .int o_dataLeft, .int o_last, .int o_dataTo, .int o_bytesCame, .int o_came, .int o_cameX, .int o_cameY, .int o_glyphs, .int o_allGlyphs, .int o_touched, .ref o_glyph, .int o_pages, .ref o_page, .int o_others, .ref o_other, .int o_stored, .ref o_store]))] sz)) 0 0 (va_A [(h0, .inr (13, [.int o_thrown, .ref o_state, .ref o_kept, .ref o_isKept, .int o_size, .int o_orientation, .int o_copies, .int o_width, .int o_height, .ref o_steps, .int o_phase, .int o_family, .int o_group, .int o_part, .int o_signed, .int o_negative, .int o_whole, .int o_behind, .int o_places, .int o_dataLeft, .int o_last, .int o_dataTo, .int o_bytesCame, .int o_came, .int o_cameX, .int o_cameY, .int o_glyphs, .int o_allGlyphs, .int o_touched, .ref o_glyph, .int o_pages, .ref o_page, .int o_others, .ref o_other, .int o_stored, .ref o_store]))] sz) := by
  refine Met.ofW (cc := b_mDesk_stop) (maxL := 1) (ret := none) (by decide) rfl ?_
  intro p e s m args below meth c s₁ B hml hv
  obtain ⟨rfl, hsz, hP, hK, hD0, hF⟩ := hv
  have hx := B.exec
  have hb := B.bytes
  have hr := B.returns
  have hwd : ∀ w ∈ gT, w.before _ s = true := fun w h => atoms_spec (ws := w_mDesk_stop) B.pre w (List.mem_cons_of_mem _ h)
  have hown : s.vm.findClass R_mDesk = some m.cls := findClass_of_methodNamed B.named
  have hlocks := B.notSynchronized
  subst hsz
  have hD := hD0.self (sz := s.heap.size)
  generalize hAe : va_A [(h0, .inr (13, [.int o_thrown, .ref o_state, .ref o_kept, .ref o_isKept, .int o_size, .int o_orientation, .int o_copies, .int o_width, .int o_height, .ref o_steps, .int o_phase, .int o_family, .int o_group, .int o_part, .int o_signed, .int o_negative, .int o_whole, .int o_behind, .int o_places, .int o_dataLeft, .int o_last, .int o_dataTo, .int o_bytesCame, .int o_came, .int o_cameX, .int o_cameY, .int o_glyphs, .int o_allGlyphs, .int o_touched, .ref o_glyph, .int o_pages, .ref o_page, .int o_others, .ref o_other, .int o_stored, .ref o_store]))] s.heap.size = A at hD hF ⊢
  have hA : ∀ q : Nat, s.heap.size ≤ q → A q := fun q h => by rw [← hAe]; exact Or.inr h
  have hS : va_S A s.heap s.heap [] := va_S.rf
  have hP : va_P (dC, dI) vcl [(h0, .inr (13, [.int o_thrown, .ref o_state, .ref o_kept, .ref o_isKept, .int o_size, .int o_orientation, .int o_copies, .int o_width, .int o_height, .ref o_steps, .int o_phase, .int o_family, .int o_group, .int o_part, .int o_signed, .int o_negative, .int o_whole, .int o_behind, .int o_places, .int o_dataLeft, .int o_last, .int o_dataTo, .int o_bytesCame, .int o_came, .int o_cameX, .int o_cameY, .int o_glyphs, .int o_allGlyphs, .int o_touched, .ref o_glyph, .int o_pages, .ref o_page, .int o_others, .ref o_other, .int o_stored, .ref o_store]))] s.heap := hP
  have hl := lv_entry ([.ref h0]) (n := 1) (Nat.le_of_ble_eq_true rfl)
  rw [lg_entry_eq]
  generalize (lg_sl ([.ref h0]) ++ List.replicate (1 - (lg_sl ([.ref h0])).length) Slot.unset).toArray = ls at hl ⊢
  have hl : lv_has ls 1 [(0, .ref h0)] := hl
  refine lv_aload_n hx hb d_mDesk_stop_0 rfl (lv_at hl 0 rfl) ?_
  refine lv_iconst (v := 0) hx hb d_mDesk_stop_1 (by decide) ?_
  refine va_put (D := (dC, dI)) (ci := 13) (v := .int 0) (ty := .int) (C := R_mDesk) (T := F_mDesk) (N := 36) hx hb hwd i_mDesk t_mDesk to_mDesk no_mDesk hown hK hP hD hS 0 rfl rfl 10 (by decide) (hwd _ wd_9_90) (fun _ h9 => h9) rfl (by decide +kernel) rfl rfl (Nat.le_of_ble_eq_true rfl) d_mDesk_stop_2 ?_
  clear hP hD hS
  intro H locs hP hD hS
  replace hP : va_P (dC, dI) vcl [(h0, .inr (13, [.int o_thrown, .ref o_state, .ref o_kept, .ref o_isKept, .int o_size, .int o_orientation, .int o_copies, .int o_width, .int o_height, .ref o_steps, .int 0, .int o_family, .int o_group, .int o_part, .int o_signed, .int o_negative, .int o_whole, .int o_behind, .int o_places, .int o_dataLeft, .int o_last, .int o_dataTo, .int o_bytesCame, .int o_came, .int o_cameX, .int o_cameY, .int o_glyphs, .int o_allGlyphs, .int o_touched, .ref o_glyph, .int o_pages, .ref o_page, .int o_others, .ref o_other, .int o_stored, .ref o_store]))] H := hP
  replace hD : va_D A [(h0, .inr (13, [.int o_thrown, .ref o_state, .ref o_kept, .ref o_isKept, .int o_size, .int o_orientation, .int o_copies, .int o_width, .int o_height, .ref o_steps, .int 0, .int o_family, .int o_group, .int o_part, .int o_signed, .int o_negative, .int o_whole, .int o_behind, .int o_places, .int o_dataLeft, .int o_last, .int o_dataTo, .int o_bytesCame, .int o_came, .int o_cameX, .int o_cameY, .int o_glyphs, .int o_allGlyphs, .int o_touched, .ref o_glyph, .int o_pages, .ref o_page, .int o_others, .ref o_other, .int o_stored, .ref o_store]))] := hD
  have hP9 := hP.sub (ws' := [(h0, .inr (13, [.int o_thrown, .ref o_state, .ref o_kept, .ref o_isKept, .int o_size, .int o_orientation, .int o_copies, .int o_width, .int o_height, .ref o_steps, .int 0, .int o_family, .int o_group, .int o_part, .int o_signed, .int o_negative, .int o_whole, .int o_behind, .int o_places, .int o_dataLeft, .int o_last, .int o_dataTo, .int o_bytesCame, .int o_came, .int o_cameX, .int o_cameY, .int o_glyphs, .int o_allGlyphs, .int o_touched, .ref o_glyph, .int o_pages, .ref o_page, .int o_others, .ref o_other, .int o_stored, .ref o_store]))]) [0] rfl
  have hD9 := hD.sub (ws' := [(h0, .inr (13, [.int o_thrown, .ref o_state, .ref o_kept, .ref o_isKept, .int o_size, .int o_orientation, .int o_copies, .int o_width, .int o_height, .ref o_steps, .int 0, .int o_family, .int o_group, .int o_part, .int o_signed, .int o_negative, .int o_whole, .int o_behind, .int o_places, .int o_dataLeft, .int o_last, .int o_dataTo, .int o_bytesCame, .int o_came, .int o_cameX, .int o_cameY, .int o_glyphs, .int o_allGlyphs, .int o_touched, .ref o_glyph, .int o_pages, .ref o_page, .int o_others, .ref o_other, .int o_stored, .ref o_store]))]) [0] (by decide) rfl
  have hK9 := hK.sub (tys' := []) [] rfl
  exact W.vret hx hb hr (fun t ht hW => ⟨⟨(), rfl, (trivial), by rw [ht]; exact hP9, va_K.moved hW.alike hK9, hD9⟩, hS.F ht⟩) hS.2.2 d_mDesk_stop_5

abbrev at_g_mDesk_is (dC : Nat → ClassId) (dI : Nat → Nat → Nat) (h0 : Nat) (o_thrown : Int32) (o_state : Nat) (o_kept : Nat) (o_isKept : Nat) (o_size : Int32) (o_orientation : Int32) (o_copies : Int32) (o_width : Int32) (o_height : Int32) (o_steps : Nat) (o_phase : Int32) (o_family : Int32) (o_group : Int32) (o_part : Int32) (o_signed : Int32) (o_negative : Int32) (o_whole : Int32) (o_behind : Int32) (o_places : Int32) (o_dataLeft : Int32) (o_last : Int32) (o_dataTo : Int32) (o_bytesCame : Int32) (o_came : Int32) (o_cameX : Int32) (o_cameY : Int32) (o_glyphs : Int32) (o_allGlyphs : Int32) (o_touched : Int32) (o_glyph : Nat) (o_pages : Int32) (o_page : Nat) (o_others : Int32) (o_other : Nat) (o_stored : Int32) (o_store : Nat) (v0 : Int32) (v1 : Int32) (v2 : Int32) (v3 : Int32) (A : Nat → Prop) (u : Unit) (t : State) : Prop := match u with
  | _ => va_P (dC, dI) vcl [(h0, .inr (13, [.int o_thrown, .ref o_state, .ref o_kept, .ref o_isKept, .int o_size, .int o_orientation, .int o_copies, .int o_width, .int o_height, .ref o_steps, .int o_phase, .int o_family, .int o_group, .int o_part, .int o_signed, .int o_negative, .int o_whole, .int o_behind, .int o_places, .int o_dataLeft, .int o_last, .int o_dataTo, .int o_bytesCame, .int o_came, .int o_cameX, .int o_cameY, .int o_glyphs, .int o_allGlyphs, .int o_touched, .ref o_glyph, .int o_pages, .ref o_page, .int o_others, .ref o_other, .int o_stored, .ref o_store]))] t.heap ∧ va_K (dC, dI) vcl [] t ∧ va_D A [(h0, .inr (13, [.int o_thrown, .ref o_state, .ref o_kept, .ref o_isKept, .int o_size, .int o_orientation, .int o_copies, .int o_width, .int o_height, .ref o_steps, .int o_phase, .int o_family, .int o_group, .int o_part, .int o_signed, .int o_negative, .int o_whole, .int o_behind, .int o_places, .int o_dataLeft, .int o_last, .int o_dataTo, .int o_bytesCame, .int o_came, .int o_cameX, .int o_cameY, .int o_glyphs, .int o_allGlyphs, .int o_touched, .ref o_glyph, .int o_pages, .ref o_page, .int o_others, .ref o_other, .int o_stored, .ref o_store]))]
abbrev po_g_mDesk_is (h0 : Nat) (o_thrown : Int32) (o_state : Nat) (o_kept : Nat) (o_isKept : Nat) (o_size : Int32) (o_orientation : Int32) (o_copies : Int32) (o_width : Int32) (o_height : Int32) (o_steps : Nat) (o_phase : Int32) (o_family : Int32) (o_group : Int32) (o_part : Int32) (o_signed : Int32) (o_negative : Int32) (o_whole : Int32) (o_behind : Int32) (o_places : Int32) (o_dataLeft : Int32) (o_last : Int32) (o_dataTo : Int32) (o_bytesCame : Int32) (o_came : Int32) (o_cameX : Int32) (o_cameY : Int32) (o_glyphs : Int32) (o_allGlyphs : Int32) (o_touched : Int32) (o_glyph : Nat) (o_pages : Int32) (o_page : Nat) (o_others : Int32) (o_other : Nat) (o_stored : Int32) (o_store : Nat) (v0 : Int32) (v1 : Int32) (v2 : Int32) (v3 : Int32) (r : Int32) (u : Unit) : Prop := match u with
  | _ => r = if o_family = v0 then (if o_group = v1 then (if v2 = v3 then 1 else 0) else 0) else 0
abbrev q_g_mDesk_is (dC : Nat → ClassId) (dI : Nat → Nat → Nat) (h0 : Nat) (o_thrown : Int32) (o_state : Nat) (o_kept : Nat) (o_isKept : Nat) (o_size : Int32) (o_orientation : Int32) (o_copies : Int32) (o_width : Int32) (o_height : Int32) (o_steps : Nat) (o_phase : Int32) (o_family : Int32) (o_group : Int32) (o_part : Int32) (o_signed : Int32) (o_negative : Int32) (o_whole : Int32) (o_behind : Int32) (o_places : Int32) (o_dataLeft : Int32) (o_last : Int32) (o_dataTo : Int32) (o_bytesCame : Int32) (o_came : Int32) (o_cameX : Int32) (o_cameY : Int32) (o_glyphs : Int32) (o_allGlyphs : Int32) (o_touched : Int32) (o_glyph : Nat) (o_pages : Int32) (o_page : Nat) (o_others : Int32) (o_other : Nat) (o_stored : Int32) (o_store : Nat) (v0 : Int32) (v1 : Int32) (v2 : Int32) (v3 : Int32) (A : Nat → Prop) : Array Value → State → Outcome → State → Prop := va_Qi (po_g_mDesk_is h0 o_thrown o_state o_kept o_isKept o_size o_orientation o_copies o_width o_height o_steps o_phase o_family o_group o_part o_signed o_negative o_whole o_behind o_places o_dataLeft o_last o_dataTo o_bytesCame o_came o_cameX o_cameY o_glyphs o_allGlyphs o_touched o_glyph o_pages o_page o_others o_other o_stored o_store v0 v1 v2 v3) (at_g_mDesk_is dC dI h0 o_thrown o_state o_kept o_isKept o_size o_orientation o_copies o_width o_height o_steps o_phase o_family o_group o_part o_signed o_negative o_whole o_behind o_places o_dataLeft o_last o_dataTo o_bytesCame o_came o_cameX o_cameY o_glyphs o_allGlyphs o_touched o_glyph o_pages o_page o_others o_other o_stored o_store v0 v1 v2 v3 A) A
abbrev rm_g_mDesk_is : Room := { frames := 0, cells := 0, slots := 0, locals := 0 }
set_option maxHeartbeats 4000000 in
set_option maxRecDepth 100000 in
theorem g_mDesk_is (l : Launch) (dC : Nat → ClassId) (dI : Nat → Nat → Nat) (tt : Nat → Nat) (h0 : Nat) (o_thrown : Int32) (o_state : Nat) (o_kept : Nat) (o_isKept : Nat) (o_size : Int32) (o_orientation : Int32) (o_copies : Int32) (o_width : Int32) (o_height : Int32) (o_steps : Nat) (o_phase : Int32) (o_family : Int32) (o_group : Int32) (o_part : Int32) (o_signed : Int32) (o_negative : Int32) (o_whole : Int32) (o_behind : Int32) (o_places : Int32) (o_dataLeft : Int32) (o_last : Int32) (o_dataTo : Int32) (o_bytesCame : Int32) (o_came : Int32) (o_cameX : Int32) (o_cameY : Int32) (o_glyphs : Int32) (o_allGlyphs : Int32) (o_touched : Int32) (o_glyph : Nat) (o_pages : Int32) (o_page : Nat) (o_others : Int32) (o_other : Nat) (o_stored : Int32) (o_store : Nat) (v0 : Int32) (v1 : Int32) (v2 : Int32) (v3 : Int32) (sz : Nat)  : Met l y_mDesk_is w_mDesk_is rm_g_mDesk_is (va_Pc [.ref h0, .int v0, .int v1, .int v2, .int v3] (fun U => U.heap.size = sz ∧ va_P (dC, dI) vcl [(h0, .inr (13, [.int o_thrown, .ref o_state, .ref o_kept, .ref o_isKept, .int o_size, .int o_orientation, .int o_copies, .int o_width, .int o_height, .ref o_steps, .int o_phase, .int o_family, .int o_group, .int o_part, .int o_signed, .int o_negative, .int o_whole, .int o_behind, .int o_places, .int o_dataLeft, .int o_last, .int o_dataTo, .int o_bytesCame, .int o_came, .int o_cameX, .int o_cameY, .int o_glyphs, .int o_allGlyphs, .int o_touched, .ref o_glyph, .int o_pages, .ref o_page, .int o_others, .ref o_other, .int o_stored, .ref o_store]))] U.heap ∧ va_K (dC, dI) vcl [] U ∧ va_D (fun _ => True) [(h0, .inr (13, [.int o_thrown, .ref o_state, .ref o_kept, .ref o_isKept, .int o_size, .int o_orientation, .int o_copies, .int o_width, .int o_height, .ref o_steps, .int o_phase, .int o_family, .int o_group, .int o_part, .int o_signed, .int o_negative, .int o_whole, .int o_behind, .int o_places, .int o_dataLeft, .int o_last, .int o_dataTo, .int o_bytesCame, .int o_came, .int o_cameX, .int o_cameY, .int o_glyphs, .int o_allGlyphs, .int o_touched, .ref o_glyph, .int o_pages, .ref o_page, .int o_others, .ref o_other, .int o_stored, .ref o_store]))] ∧ SF tt (va_A [(h0, .inr (13, [.int o_thrown, .ref o_state, .ref o_kept, .ref o_isKept, .int o_size, .int o_orientation, .int o_copies, .int o_width, .int o_height, .ref o_steps, .int o_phase, .int o_family, .int o_group, .int o_part, .int o_signed, .int o_negative, .int o_whole, .int o_behind, .int o_places, .int o_dataLeft, .int o_last, .int o_dataTo, .int o_bytesCame, .int o_came, .int o_cameX, .int o_cameY, .int o_glyphs, .int o_allGlyphs, .int o_touched, .ref o_glyph, .int o_pages, .ref o_page, .int o_others, .ref o_other, .int o_stored, .ref o_store]))] sz) U U.heap)) (q_g_mDesk_is dC dI h0 o_thrown o_state o_kept o_isKept o_size o_orientation o_copies o_width o_height o_steps o_phase o_family o_group o_part o_signed o_negative o_whole o_behind o_places o_dataLeft o_last o_dataTo o_bytesCame o_came o_cameX o_cameY o_glyphs o_allGlyphs o_touched o_glyph o_pages o_page o_others o_other o_stored o_store v0 v1 v2 v3 (va_A [(h0, .inr (13, [.int o_thrown, .ref o_state, .ref o_kept, .ref o_isKept, .int o_size, .int o_orientation, .int o_copies, .int o_width, .int o_height, .ref o_steps, .int o_phase, .int o_family, .int o_group, .int o_part, .int o_signed, .int o_negative, .int o_whole, .int o_behind, .int o_places, .int o_dataLeft, .int o_last, .int o_dataTo, .int o_bytesCame, .int o_came, .int o_cameX, .int o_cameY, .int o_glyphs, .int o_allGlyphs, .int o_touched, .ref o_glyph, .int o_pages, .ref o_page, .int o_others, .ref o_other, .int o_stored, .ref o_store]))] sz)) 0 0 (va_A [(h0, .inr (13, [.int o_thrown, .ref o_state, .ref o_kept, .ref o_isKept, .int o_size, .int o_orientation, .int o_copies, .int o_width, .int o_height, .ref o_steps, .int o_phase, .int o_family, .int o_group, .int o_part, .int o_signed, .int o_negative, .int o_whole, .int o_behind, .int o_places, .int o_dataLeft, .int o_last, .int o_dataTo, .int o_bytesCame, .int o_came, .int o_cameX, .int o_cameY, .int o_glyphs, .int o_allGlyphs, .int o_touched, .ref o_glyph, .int o_pages, .ref o_page, .int o_others, .ref o_other, .int o_stored, .ref o_store]))] sz) := by
  refine Met.ofW (cc := b_mDesk_is) (maxL := 5) (ret := (some .boolean)) (by decide) rfl ?_
  intro p e s m args below meth c s₁ B hml hv
  obtain ⟨rfl, hsz, hP, hK, hD0, hF⟩ := hv
  have hx := B.exec
  have hb := B.bytes
  have hr := B.returns
  have hwd : ∀ w ∈ gT, w.before _ s = true := fun w h => atoms_spec (ws := w_mDesk_is) B.pre w (List.mem_cons_of_mem _ h)
  have hown : s.vm.findClass R_mDesk = some m.cls := findClass_of_methodNamed B.named
  have hlocks := B.notSynchronized
  subst hsz
  have hD := hD0.self (sz := s.heap.size)
  generalize hAe : va_A [(h0, .inr (13, [.int o_thrown, .ref o_state, .ref o_kept, .ref o_isKept, .int o_size, .int o_orientation, .int o_copies, .int o_width, .int o_height, .ref o_steps, .int o_phase, .int o_family, .int o_group, .int o_part, .int o_signed, .int o_negative, .int o_whole, .int o_behind, .int o_places, .int o_dataLeft, .int o_last, .int o_dataTo, .int o_bytesCame, .int o_came, .int o_cameX, .int o_cameY, .int o_glyphs, .int o_allGlyphs, .int o_touched, .ref o_glyph, .int o_pages, .ref o_page, .int o_others, .ref o_other, .int o_stored, .ref o_store]))] s.heap.size = A at hD hF ⊢
  have hA : ∀ q : Nat, s.heap.size ≤ q → A q := fun q h => by rw [← hAe]; exact Or.inr h
  have hS : va_S A s.heap s.heap [] := va_S.rf
  have hP : va_P (dC, dI) vcl [(h0, .inr (13, [.int o_thrown, .ref o_state, .ref o_kept, .ref o_isKept, .int o_size, .int o_orientation, .int o_copies, .int o_width, .int o_height, .ref o_steps, .int o_phase, .int o_family, .int o_group, .int o_part, .int o_signed, .int o_negative, .int o_whole, .int o_behind, .int o_places, .int o_dataLeft, .int o_last, .int o_dataTo, .int o_bytesCame, .int o_came, .int o_cameX, .int o_cameY, .int o_glyphs, .int o_allGlyphs, .int o_touched, .ref o_glyph, .int o_pages, .ref o_page, .int o_others, .ref o_other, .int o_stored, .ref o_store]))] s.heap := hP
  have hl := lv_entry ([.ref h0, .int v0, .int v1, .int v2, .int v3]) (n := 5) (Nat.le_of_ble_eq_true rfl)
  rw [lg_entry_eq]
  generalize (lg_sl ([.ref h0, .int v0, .int v1, .int v2, .int v3]) ++ List.replicate (5 - (lg_sl ([.ref h0, .int v0, .int v1, .int v2, .int v3])).length) Slot.unset).toArray = ls at hl ⊢
  have hl : lv_has ls 5 [(0, .ref h0), (1, .int v0), (2, .int v1), (3, .int v2), (4, .int v3)] := hl
  refine lv_aload_n hx hb d_mDesk_is_0 rfl (lv_at hl 0 rfl) ?_
  refine va_get (D := (dC, dI)) (ci := 13) (v := .int o_family) (C := R_mDesk) (T := F_mDesk) (N := 36) hx hb hwd i_mDesk hown hK hP 0 rfl rfl 11 (by decide) (hwd _ wd_9_91) (fun _ h9 => h9) rfl d_mDesk_is_1 ?_
  refine lv_iload_n hx hb d_mDesk_is_4 rfl (lv_at hl 1 rfl) ?_
  refine lv_icmp_ne (tgt := 26) hx hb d_mDesk_is_5 (by decide) (fun c5 => ?_) (fun c5 => ?_)
  · refine lv_iconst (v := 0) hx hb d_mDesk_is_26 (by decide) ?_
    have hP9 := hP.sub (ws' := [(h0, .inr (13, [.int o_thrown, .ref o_state, .ref o_kept, .ref o_isKept, .int o_size, .int o_orientation, .int o_copies, .int o_width, .int o_height, .ref o_steps, .int o_phase, .int o_family, .int o_group, .int o_part, .int o_signed, .int o_negative, .int o_whole, .int o_behind, .int o_places, .int o_dataLeft, .int o_last, .int o_dataTo, .int o_bytesCame, .int o_came, .int o_cameX, .int o_cameY, .int o_glyphs, .int o_allGlyphs, .int o_touched, .ref o_glyph, .int o_pages, .ref o_page, .int o_others, .ref o_other, .int o_stored, .ref o_store]))]) [0] rfl
    have hD9 := hD.sub (ws' := [(h0, .inr (13, [.int o_thrown, .ref o_state, .ref o_kept, .ref o_isKept, .int o_size, .int o_orientation, .int o_copies, .int o_width, .int o_height, .ref o_steps, .int o_phase, .int o_family, .int o_group, .int o_part, .int o_signed, .int o_negative, .int o_whole, .int o_behind, .int o_places, .int o_dataLeft, .int o_last, .int o_dataTo, .int o_bytesCame, .int o_came, .int o_cameX, .int o_cameY, .int o_glyphs, .int o_allGlyphs, .int o_touched, .ref o_glyph, .int o_pages, .ref o_page, .int o_others, .ref o_other, .int o_stored, .ref o_store]))]) [0] (by decide) rfl
    have hK9 := hK.sub (tys' := []) [] rfl
    exact W.zret (v := 0) hx hb hr (by decide) (fun t ht hW => ⟨⟨0, (), rfl, (show (0 : Int32) = if o_family = v0 then (if o_group = v1 then (if v2 = v3 then 1 else 0) else 0) else 0 from (by rw [if_neg c5])), by rw [ht]; exact hP9, va_K.moved hW.alike hK9, hD9⟩, hS.F ht⟩) hS.2.2 d_mDesk_is_27
  · refine lv_aload_n hx hb d_mDesk_is_8 rfl (lv_at hl 0 rfl) ?_
    refine va_get (D := (dC, dI)) (ci := 13) (v := .int o_group) (C := R_mDesk) (T := F_mDesk) (N := 36) hx hb hwd i_mDesk hown hK hP 0 rfl rfl 12 (by decide) (hwd _ wd_9_92) (fun _ h9 => h9) rfl d_mDesk_is_9 ?_
    refine lv_iload_n hx hb d_mDesk_is_12 rfl (lv_at hl 2 rfl) ?_
    refine lv_icmp_ne (tgt := 26) hx hb d_mDesk_is_13 (by decide) (fun c13 => ?_) (fun c13 => ?_)
    · refine lv_iconst (v := 0) hx hb d_mDesk_is_26 (by decide) ?_
      have hP9 := hP.sub (ws' := [(h0, .inr (13, [.int o_thrown, .ref o_state, .ref o_kept, .ref o_isKept, .int o_size, .int o_orientation, .int o_copies, .int o_width, .int o_height, .ref o_steps, .int o_phase, .int o_family, .int o_group, .int o_part, .int o_signed, .int o_negative, .int o_whole, .int o_behind, .int o_places, .int o_dataLeft, .int o_last, .int o_dataTo, .int o_bytesCame, .int o_came, .int o_cameX, .int o_cameY, .int o_glyphs, .int o_allGlyphs, .int o_touched, .ref o_glyph, .int o_pages, .ref o_page, .int o_others, .ref o_other, .int o_stored, .ref o_store]))]) [0] rfl
      have hD9 := hD.sub (ws' := [(h0, .inr (13, [.int o_thrown, .ref o_state, .ref o_kept, .ref o_isKept, .int o_size, .int o_orientation, .int o_copies, .int o_width, .int o_height, .ref o_steps, .int o_phase, .int o_family, .int o_group, .int o_part, .int o_signed, .int o_negative, .int o_whole, .int o_behind, .int o_places, .int o_dataLeft, .int o_last, .int o_dataTo, .int o_bytesCame, .int o_came, .int o_cameX, .int o_cameY, .int o_glyphs, .int o_allGlyphs, .int o_touched, .ref o_glyph, .int o_pages, .ref o_page, .int o_others, .ref o_other, .int o_stored, .ref o_store]))]) [0] (by decide) rfl
      have hK9 := hK.sub (tys' := []) [] rfl
      exact W.zret (v := 0) hx hb hr (by decide) (fun t ht hW => ⟨⟨0, (), rfl, (show (0 : Int32) = if o_family = v0 then (if o_group = v1 then (if v2 = v3 then 1 else 0) else 0) else 0 from (by rw [if_pos c5, if_neg c13])), by rw [ht]; exact hP9, va_K.moved hW.alike hK9, hD9⟩, hS.F ht⟩) hS.2.2 d_mDesk_is_27
    · refine lv_iload_n hx hb d_mDesk_is_16 rfl (lv_at hl 3 rfl) ?_
      refine lv_iload hx hb d_mDesk_is_17 (lv_at hl 4 rfl) ?_
      refine lv_icmp_ne (tgt := 26) hx hb d_mDesk_is_19 (by decide) (fun c19 => ?_) (fun c19 => ?_)
      · refine lv_iconst (v := 0) hx hb d_mDesk_is_26 (by decide) ?_
        have hP9 := hP.sub (ws' := [(h0, .inr (13, [.int o_thrown, .ref o_state, .ref o_kept, .ref o_isKept, .int o_size, .int o_orientation, .int o_copies, .int o_width, .int o_height, .ref o_steps, .int o_phase, .int o_family, .int o_group, .int o_part, .int o_signed, .int o_negative, .int o_whole, .int o_behind, .int o_places, .int o_dataLeft, .int o_last, .int o_dataTo, .int o_bytesCame, .int o_came, .int o_cameX, .int o_cameY, .int o_glyphs, .int o_allGlyphs, .int o_touched, .ref o_glyph, .int o_pages, .ref o_page, .int o_others, .ref o_other, .int o_stored, .ref o_store]))]) [0] rfl
        have hD9 := hD.sub (ws' := [(h0, .inr (13, [.int o_thrown, .ref o_state, .ref o_kept, .ref o_isKept, .int o_size, .int o_orientation, .int o_copies, .int o_width, .int o_height, .ref o_steps, .int o_phase, .int o_family, .int o_group, .int o_part, .int o_signed, .int o_negative, .int o_whole, .int o_behind, .int o_places, .int o_dataLeft, .int o_last, .int o_dataTo, .int o_bytesCame, .int o_came, .int o_cameX, .int o_cameY, .int o_glyphs, .int o_allGlyphs, .int o_touched, .ref o_glyph, .int o_pages, .ref o_page, .int o_others, .ref o_other, .int o_stored, .ref o_store]))]) [0] (by decide) rfl
        have hK9 := hK.sub (tys' := []) [] rfl
        exact W.zret (v := 0) hx hb hr (by decide) (fun t ht hW => ⟨⟨0, (), rfl, (show (0 : Int32) = if o_family = v0 then (if o_group = v1 then (if v2 = v3 then 1 else 0) else 0) else 0 from (by rw [if_pos c5, if_pos c13, if_neg c19])), by rw [ht]; exact hP9, va_K.moved hW.alike hK9, hD9⟩, hS.F ht⟩) hS.2.2 d_mDesk_is_27
      · refine lv_iconst (v := 1) hx hb d_mDesk_is_22 (by decide) ?_
        refine lv_goto (tgt := 27) hx hb d_mDesk_is_23 (by decide) ?_
        have hP9 := hP.sub (ws' := [(h0, .inr (13, [.int o_thrown, .ref o_state, .ref o_kept, .ref o_isKept, .int o_size, .int o_orientation, .int o_copies, .int o_width, .int o_height, .ref o_steps, .int o_phase, .int o_family, .int o_group, .int o_part, .int o_signed, .int o_negative, .int o_whole, .int o_behind, .int o_places, .int o_dataLeft, .int o_last, .int o_dataTo, .int o_bytesCame, .int o_came, .int o_cameX, .int o_cameY, .int o_glyphs, .int o_allGlyphs, .int o_touched, .ref o_glyph, .int o_pages, .ref o_page, .int o_others, .ref o_other, .int o_stored, .ref o_store]))]) [0] rfl
        have hD9 := hD.sub (ws' := [(h0, .inr (13, [.int o_thrown, .ref o_state, .ref o_kept, .ref o_isKept, .int o_size, .int o_orientation, .int o_copies, .int o_width, .int o_height, .ref o_steps, .int o_phase, .int o_family, .int o_group, .int o_part, .int o_signed, .int o_negative, .int o_whole, .int o_behind, .int o_places, .int o_dataLeft, .int o_last, .int o_dataTo, .int o_bytesCame, .int o_came, .int o_cameX, .int o_cameY, .int o_glyphs, .int o_allGlyphs, .int o_touched, .ref o_glyph, .int o_pages, .ref o_page, .int o_others, .ref o_other, .int o_stored, .ref o_store]))]) [0] (by decide) rfl
        have hK9 := hK.sub (tys' := []) [] rfl
        exact W.zret (v := 1) hx hb hr (by decide) (fun t ht hW => ⟨⟨1, (), rfl, (show (1 : Int32) = if o_family = v0 then (if o_group = v1 then (if v2 = v3 then 1 else 0) else 0) else 0 from (by rw [if_pos c5, if_pos c13, if_pos c19])), by rw [ht]; exact hP9, va_K.moved hW.alike hK9, hD9⟩, hS.F ht⟩) hS.2.2 d_mDesk_is_27

abbrev at_g_mDesk_divides (dC : Nat → ClassId) (dI : Nat → Nat → Nat) (v0 : Int32) (A : Nat → Prop) (u : Unit) (t : State) : Prop := match u with
  | _ => va_P (dC, dI) vcl [] t.heap ∧ va_K (dC, dI) vcl [] t ∧ va_D A []
abbrev po_g_mDesk_divides (v0 : Int32) (r : Int32) (u : Unit) : Prop := match u with
  | _ => r = if v0 = (1 : Int32) then 1 else (if v0 = (2 : Int32) then 1 else (if v0 = (3 : Int32) then 1 else (if v0 = (4 : Int32) then 1 else (if v0 = (6 : Int32) then 1 else (if v0 = (8 : Int32) then 1 else (if v0 = (12 : Int32) then 1 else (if v0 = (16 : Int32) then 1 else (if v0 = (24 : Int32) then 1 else (if v0 = (48 : Int32) then 1 else 0)))))))))
abbrev q_g_mDesk_divides (dC : Nat → ClassId) (dI : Nat → Nat → Nat) (v0 : Int32) (A : Nat → Prop) : Array Value → State → Outcome → State → Prop := va_Qi (po_g_mDesk_divides v0) (at_g_mDesk_divides dC dI v0 A) A
abbrev rm_g_mDesk_divides : Room := { frames := 0, cells := 0, slots := 0, locals := 0 }
set_option maxHeartbeats 4000000 in
set_option maxRecDepth 100000 in
theorem g_mDesk_divides (l : Launch) (dC : Nat → ClassId) (dI : Nat → Nat → Nat) (tt : Nat → Nat) (v0 : Int32) (sz : Nat)  : Met l y_mDesk_divides w_mDesk_divides rm_g_mDesk_divides (va_Pc [.int v0] (fun U => U.heap.size = sz ∧ va_P (dC, dI) vcl [] U.heap ∧ va_K (dC, dI) vcl [] U ∧ va_D (fun _ => True) [] ∧ SF tt (va_A [] sz) U U.heap)) (q_g_mDesk_divides dC dI v0 (va_A [] sz)) 0 0 (va_A [] sz) := by
  refine Met.ofW (cc := b_mDesk_divides) (maxL := 1) (ret := (some .boolean)) (by decide) rfl ?_
  intro p e s m args below meth c s₁ B hml hv
  obtain ⟨rfl, hsz, hP, hK, hD0, hF⟩ := hv
  have hx := B.exec
  have hb := B.bytes
  have hr := B.returns
  have hwd : ∀ w ∈ gT, w.before _ s = true := fun w h => atoms_spec (ws := w_mDesk_divides) B.pre w (List.mem_cons_of_mem _ h)
  have hown : s.vm.findClass R_mDesk = some m.cls := findClass_of_methodNamed B.named
  have hlocks := B.notSynchronized
  subst hsz
  have hD := hD0.self (sz := s.heap.size)
  generalize hAe : va_A [] s.heap.size = A at hD hF ⊢
  have hA : ∀ q : Nat, s.heap.size ≤ q → A q := fun q h => by rw [← hAe]; exact Or.inr h
  have hS : va_S A s.heap s.heap [] := va_S.rf
  have hP : va_P (dC, dI) vcl [] s.heap := hP
  have hl := lv_entry ([.int v0]) (n := 1) (Nat.le_of_ble_eq_true rfl)
  rw [lg_entry_eq]
  generalize (lg_sl ([.int v0]) ++ List.replicate (1 - (lg_sl ([.int v0])).length) Slot.unset).toArray = ls at hl ⊢
  have hl : lv_has ls 1 [(0, .int v0)] := hl
  refine lv_iload_n hx hb d_mDesk_divides_0 rfl (lv_at hl 0 rfl) ?_
  refine lv_iconst (v := 1) hx hb d_mDesk_divides_1 (by decide) ?_
  refine lv_icmp_eq (tgt := 56) hx hb d_mDesk_divides_2 (by decide) (fun c2 => ?_) (fun c2 => ?_)
  · refine lv_iconst (v := 1) hx hb d_mDesk_divides_56 (by decide) ?_
    refine lv_goto (tgt := 61) hx hb d_mDesk_divides_57 (by decide) ?_
    have hP9 := hP.sub (ws' := []) [] rfl
    have hD9 := hD.sub (ws' := []) [] (by decide) rfl
    have hK9 := hK.sub (tys' := []) [] rfl
    exact W.zret (v := 1) hx hb hr (by decide) (fun t ht hW => ⟨⟨1, (), rfl, (show (1 : Int32) = if v0 = (1 : Int32) then 1 else (if v0 = (2 : Int32) then 1 else (if v0 = (3 : Int32) then 1 else (if v0 = (4 : Int32) then 1 else (if v0 = (6 : Int32) then 1 else (if v0 = (8 : Int32) then 1 else (if v0 = (12 : Int32) then 1 else (if v0 = (16 : Int32) then 1 else (if v0 = (24 : Int32) then 1 else (if v0 = (48 : Int32) then 1 else 0))))))))) from (by rw [if_pos c2])), by rw [ht]; exact hP9, va_K.moved hW.alike hK9, hD9⟩, hS.F ht⟩) hS.2.2 d_mDesk_divides_61
  · refine lv_iload_n hx hb d_mDesk_divides_5 rfl (lv_at hl 0 rfl) ?_
    refine lv_iconst (v := 2) hx hb d_mDesk_divides_6 (by decide) ?_
    refine lv_icmp_eq (tgt := 56) hx hb d_mDesk_divides_7 (by decide) (fun c7 => ?_) (fun c7 => ?_)
    · refine lv_iconst (v := 1) hx hb d_mDesk_divides_56 (by decide) ?_
      refine lv_goto (tgt := 61) hx hb d_mDesk_divides_57 (by decide) ?_
      have hP9 := hP.sub (ws' := []) [] rfl
      have hD9 := hD.sub (ws' := []) [] (by decide) rfl
      have hK9 := hK.sub (tys' := []) [] rfl
      exact W.zret (v := 1) hx hb hr (by decide) (fun t ht hW => ⟨⟨1, (), rfl, (show (1 : Int32) = if v0 = (1 : Int32) then 1 else (if v0 = (2 : Int32) then 1 else (if v0 = (3 : Int32) then 1 else (if v0 = (4 : Int32) then 1 else (if v0 = (6 : Int32) then 1 else (if v0 = (8 : Int32) then 1 else (if v0 = (12 : Int32) then 1 else (if v0 = (16 : Int32) then 1 else (if v0 = (24 : Int32) then 1 else (if v0 = (48 : Int32) then 1 else 0))))))))) from (by rw [if_neg c2, if_pos c7])), by rw [ht]; exact hP9, va_K.moved hW.alike hK9, hD9⟩, hS.F ht⟩) hS.2.2 d_mDesk_divides_61
    · refine lv_iload_n hx hb d_mDesk_divides_10 rfl (lv_at hl 0 rfl) ?_
      refine lv_iconst (v := 3) hx hb d_mDesk_divides_11 (by decide) ?_
      refine lv_icmp_eq (tgt := 56) hx hb d_mDesk_divides_12 (by decide) (fun c12 => ?_) (fun c12 => ?_)
      · refine lv_iconst (v := 1) hx hb d_mDesk_divides_56 (by decide) ?_
        refine lv_goto (tgt := 61) hx hb d_mDesk_divides_57 (by decide) ?_
        have hP9 := hP.sub (ws' := []) [] rfl
        have hD9 := hD.sub (ws' := []) [] (by decide) rfl
        have hK9 := hK.sub (tys' := []) [] rfl
        exact W.zret (v := 1) hx hb hr (by decide) (fun t ht hW => ⟨⟨1, (), rfl, (show (1 : Int32) = if v0 = (1 : Int32) then 1 else (if v0 = (2 : Int32) then 1 else (if v0 = (3 : Int32) then 1 else (if v0 = (4 : Int32) then 1 else (if v0 = (6 : Int32) then 1 else (if v0 = (8 : Int32) then 1 else (if v0 = (12 : Int32) then 1 else (if v0 = (16 : Int32) then 1 else (if v0 = (24 : Int32) then 1 else (if v0 = (48 : Int32) then 1 else 0))))))))) from (by rw [if_neg c2, if_neg c7, if_pos c12])), by rw [ht]; exact hP9, va_K.moved hW.alike hK9, hD9⟩, hS.F ht⟩) hS.2.2 d_mDesk_divides_61
      · refine lv_iload_n hx hb d_mDesk_divides_15 rfl (lv_at hl 0 rfl) ?_
        refine lv_iconst (v := 4) hx hb d_mDesk_divides_16 (by decide) ?_
        refine lv_icmp_eq (tgt := 56) hx hb d_mDesk_divides_17 (by decide) (fun c17 => ?_) (fun c17 => ?_)
        · refine lv_iconst (v := 1) hx hb d_mDesk_divides_56 (by decide) ?_
          refine lv_goto (tgt := 61) hx hb d_mDesk_divides_57 (by decide) ?_
          have hP9 := hP.sub (ws' := []) [] rfl
          have hD9 := hD.sub (ws' := []) [] (by decide) rfl
          have hK9 := hK.sub (tys' := []) [] rfl
          exact W.zret (v := 1) hx hb hr (by decide) (fun t ht hW => ⟨⟨1, (), rfl, (show (1 : Int32) = if v0 = (1 : Int32) then 1 else (if v0 = (2 : Int32) then 1 else (if v0 = (3 : Int32) then 1 else (if v0 = (4 : Int32) then 1 else (if v0 = (6 : Int32) then 1 else (if v0 = (8 : Int32) then 1 else (if v0 = (12 : Int32) then 1 else (if v0 = (16 : Int32) then 1 else (if v0 = (24 : Int32) then 1 else (if v0 = (48 : Int32) then 1 else 0))))))))) from (by rw [if_neg c2, if_neg c7, if_neg c12, if_pos c17])), by rw [ht]; exact hP9, va_K.moved hW.alike hK9, hD9⟩, hS.F ht⟩) hS.2.2 d_mDesk_divides_61
        · refine lv_iload_n hx hb d_mDesk_divides_20 rfl (lv_at hl 0 rfl) ?_
          refine lv_bipush (v := 6) hx hb d_mDesk_divides_21 (by decide) ?_
          refine lv_icmp_eq (tgt := 56) hx hb d_mDesk_divides_23 (by decide) (fun c23 => ?_) (fun c23 => ?_)
          · refine lv_iconst (v := 1) hx hb d_mDesk_divides_56 (by decide) ?_
            refine lv_goto (tgt := 61) hx hb d_mDesk_divides_57 (by decide) ?_
            have hP9 := hP.sub (ws' := []) [] rfl
            have hD9 := hD.sub (ws' := []) [] (by decide) rfl
            have hK9 := hK.sub (tys' := []) [] rfl
            exact W.zret (v := 1) hx hb hr (by decide) (fun t ht hW => ⟨⟨1, (), rfl, (show (1 : Int32) = if v0 = (1 : Int32) then 1 else (if v0 = (2 : Int32) then 1 else (if v0 = (3 : Int32) then 1 else (if v0 = (4 : Int32) then 1 else (if v0 = (6 : Int32) then 1 else (if v0 = (8 : Int32) then 1 else (if v0 = (12 : Int32) then 1 else (if v0 = (16 : Int32) then 1 else (if v0 = (24 : Int32) then 1 else (if v0 = (48 : Int32) then 1 else 0))))))))) from (by rw [if_neg c2, if_neg c7, if_neg c12, if_neg c17, if_pos c23])), by rw [ht]; exact hP9, va_K.moved hW.alike hK9, hD9⟩, hS.F ht⟩) hS.2.2 d_mDesk_divides_61
          · refine lv_iload_n hx hb d_mDesk_divides_26 rfl (lv_at hl 0 rfl) ?_
            refine lv_bipush (v := 8) hx hb d_mDesk_divides_27 (by decide) ?_
            refine lv_icmp_eq (tgt := 56) hx hb d_mDesk_divides_29 (by decide) (fun c29 => ?_) (fun c29 => ?_)
            · refine lv_iconst (v := 1) hx hb d_mDesk_divides_56 (by decide) ?_
              refine lv_goto (tgt := 61) hx hb d_mDesk_divides_57 (by decide) ?_
              have hP9 := hP.sub (ws' := []) [] rfl
              have hD9 := hD.sub (ws' := []) [] (by decide) rfl
              have hK9 := hK.sub (tys' := []) [] rfl
              exact W.zret (v := 1) hx hb hr (by decide) (fun t ht hW => ⟨⟨1, (), rfl, (show (1 : Int32) = if v0 = (1 : Int32) then 1 else (if v0 = (2 : Int32) then 1 else (if v0 = (3 : Int32) then 1 else (if v0 = (4 : Int32) then 1 else (if v0 = (6 : Int32) then 1 else (if v0 = (8 : Int32) then 1 else (if v0 = (12 : Int32) then 1 else (if v0 = (16 : Int32) then 1 else (if v0 = (24 : Int32) then 1 else (if v0 = (48 : Int32) then 1 else 0))))))))) from (by rw [if_neg c2, if_neg c7, if_neg c12, if_neg c17, if_neg c23, if_pos c29])), by rw [ht]; exact hP9, va_K.moved hW.alike hK9, hD9⟩, hS.F ht⟩) hS.2.2 d_mDesk_divides_61
            · refine lv_iload_n hx hb d_mDesk_divides_32 rfl (lv_at hl 0 rfl) ?_
              refine lv_bipush (v := 12) hx hb d_mDesk_divides_33 (by decide) ?_
              refine lv_icmp_eq (tgt := 56) hx hb d_mDesk_divides_35 (by decide) (fun c35 => ?_) (fun c35 => ?_)
              · refine lv_iconst (v := 1) hx hb d_mDesk_divides_56 (by decide) ?_
                refine lv_goto (tgt := 61) hx hb d_mDesk_divides_57 (by decide) ?_
                have hP9 := hP.sub (ws' := []) [] rfl
                have hD9 := hD.sub (ws' := []) [] (by decide) rfl
                have hK9 := hK.sub (tys' := []) [] rfl
                exact W.zret (v := 1) hx hb hr (by decide) (fun t ht hW => ⟨⟨1, (), rfl, (show (1 : Int32) = if v0 = (1 : Int32) then 1 else (if v0 = (2 : Int32) then 1 else (if v0 = (3 : Int32) then 1 else (if v0 = (4 : Int32) then 1 else (if v0 = (6 : Int32) then 1 else (if v0 = (8 : Int32) then 1 else (if v0 = (12 : Int32) then 1 else (if v0 = (16 : Int32) then 1 else (if v0 = (24 : Int32) then 1 else (if v0 = (48 : Int32) then 1 else 0))))))))) from (by rw [if_neg c2, if_neg c7, if_neg c12, if_neg c17, if_neg c23, if_neg c29, if_pos c35])), by rw [ht]; exact hP9, va_K.moved hW.alike hK9, hD9⟩, hS.F ht⟩) hS.2.2 d_mDesk_divides_61
              · refine lv_iload_n hx hb d_mDesk_divides_38 rfl (lv_at hl 0 rfl) ?_
                refine lv_bipush (v := 16) hx hb d_mDesk_divides_39 (by decide) ?_
                refine lv_icmp_eq (tgt := 56) hx hb d_mDesk_divides_41 (by decide) (fun c41 => ?_) (fun c41 => ?_)
                · refine lv_iconst (v := 1) hx hb d_mDesk_divides_56 (by decide) ?_
                  refine lv_goto (tgt := 61) hx hb d_mDesk_divides_57 (by decide) ?_
                  have hP9 := hP.sub (ws' := []) [] rfl
                  have hD9 := hD.sub (ws' := []) [] (by decide) rfl
                  have hK9 := hK.sub (tys' := []) [] rfl
                  exact W.zret (v := 1) hx hb hr (by decide) (fun t ht hW => ⟨⟨1, (), rfl, (show (1 : Int32) = if v0 = (1 : Int32) then 1 else (if v0 = (2 : Int32) then 1 else (if v0 = (3 : Int32) then 1 else (if v0 = (4 : Int32) then 1 else (if v0 = (6 : Int32) then 1 else (if v0 = (8 : Int32) then 1 else (if v0 = (12 : Int32) then 1 else (if v0 = (16 : Int32) then 1 else (if v0 = (24 : Int32) then 1 else (if v0 = (48 : Int32) then 1 else 0))))))))) from (by rw [if_neg c2, if_neg c7, if_neg c12, if_neg c17, if_neg c23, if_neg c29, if_neg c35, if_pos c41])), by rw [ht]; exact hP9, va_K.moved hW.alike hK9, hD9⟩, hS.F ht⟩) hS.2.2 d_mDesk_divides_61
                · refine lv_iload_n hx hb d_mDesk_divides_44 rfl (lv_at hl 0 rfl) ?_
                  refine lv_bipush (v := 24) hx hb d_mDesk_divides_45 (by decide) ?_
                  refine lv_icmp_eq (tgt := 56) hx hb d_mDesk_divides_47 (by decide) (fun c47 => ?_) (fun c47 => ?_)
                  · refine lv_iconst (v := 1) hx hb d_mDesk_divides_56 (by decide) ?_
                    refine lv_goto (tgt := 61) hx hb d_mDesk_divides_57 (by decide) ?_
                    have hP9 := hP.sub (ws' := []) [] rfl
                    have hD9 := hD.sub (ws' := []) [] (by decide) rfl
                    have hK9 := hK.sub (tys' := []) [] rfl
                    exact W.zret (v := 1) hx hb hr (by decide) (fun t ht hW => ⟨⟨1, (), rfl, (show (1 : Int32) = if v0 = (1 : Int32) then 1 else (if v0 = (2 : Int32) then 1 else (if v0 = (3 : Int32) then 1 else (if v0 = (4 : Int32) then 1 else (if v0 = (6 : Int32) then 1 else (if v0 = (8 : Int32) then 1 else (if v0 = (12 : Int32) then 1 else (if v0 = (16 : Int32) then 1 else (if v0 = (24 : Int32) then 1 else (if v0 = (48 : Int32) then 1 else 0))))))))) from (by rw [if_neg c2, if_neg c7, if_neg c12, if_neg c17, if_neg c23, if_neg c29, if_neg c35, if_neg c41, if_pos c47])), by rw [ht]; exact hP9, va_K.moved hW.alike hK9, hD9⟩, hS.F ht⟩) hS.2.2 d_mDesk_divides_61
                  · refine lv_iload_n hx hb d_mDesk_divides_50 rfl (lv_at hl 0 rfl) ?_
                    refine lv_bipush (v := 48) hx hb d_mDesk_divides_51 (by decide) ?_
                    refine lv_icmp_ne (tgt := 60) hx hb d_mDesk_divides_53 (by decide) (fun c53 => ?_) (fun c53 => ?_)
                    · refine lv_iconst (v := 0) hx hb d_mDesk_divides_60 (by decide) ?_
                      have hP9 := hP.sub (ws' := []) [] rfl
                      have hD9 := hD.sub (ws' := []) [] (by decide) rfl
                      have hK9 := hK.sub (tys' := []) [] rfl
                      exact W.zret (v := 0) hx hb hr (by decide) (fun t ht hW => ⟨⟨0, (), rfl, (show (0 : Int32) = if v0 = (1 : Int32) then 1 else (if v0 = (2 : Int32) then 1 else (if v0 = (3 : Int32) then 1 else (if v0 = (4 : Int32) then 1 else (if v0 = (6 : Int32) then 1 else (if v0 = (8 : Int32) then 1 else (if v0 = (12 : Int32) then 1 else (if v0 = (16 : Int32) then 1 else (if v0 = (24 : Int32) then 1 else (if v0 = (48 : Int32) then 1 else 0))))))))) from (by rw [if_neg c2, if_neg c7, if_neg c12, if_neg c17, if_neg c23, if_neg c29, if_neg c35, if_neg c41, if_neg c47, if_neg c53])), by rw [ht]; exact hP9, va_K.moved hW.alike hK9, hD9⟩, hS.F ht⟩) hS.2.2 d_mDesk_divides_61
                    · refine lv_iconst (v := 1) hx hb d_mDesk_divides_56 (by decide) ?_
                      refine lv_goto (tgt := 61) hx hb d_mDesk_divides_57 (by decide) ?_
                      have hP9 := hP.sub (ws' := []) [] rfl
                      have hD9 := hD.sub (ws' := []) [] (by decide) rfl
                      have hK9 := hK.sub (tys' := []) [] rfl
                      exact W.zret (v := 1) hx hb hr (by decide) (fun t ht hW => ⟨⟨1, (), rfl, (show (1 : Int32) = if v0 = (1 : Int32) then 1 else (if v0 = (2 : Int32) then 1 else (if v0 = (3 : Int32) then 1 else (if v0 = (4 : Int32) then 1 else (if v0 = (6 : Int32) then 1 else (if v0 = (8 : Int32) then 1 else (if v0 = (12 : Int32) then 1 else (if v0 = (16 : Int32) then 1 else (if v0 = (24 : Int32) then 1 else (if v0 = (48 : Int32) then 1 else 0))))))))) from (by rw [if_neg c2, if_neg c7, if_neg c12, if_neg c17, if_neg c23, if_neg c29, if_neg c35, if_neg c41, if_neg c47, if_pos c53])), by rw [ht]; exact hP9, va_K.moved hW.alike hK9, hD9⟩, hS.F ht⟩) hS.2.2 d_mDesk_divides_61

abbrev at_g_mDesk_due (dC : Nat → ClassId) (dI : Nat → Nat → Nat) (h0 : Nat) (o_thrown : Int32) (o_state : Nat) (o_kept : Nat) (o_isKept : Nat) (o_size : Int32) (o_orientation : Int32) (o_copies : Int32) (o_width : Int32) (o_height : Int32) (o_steps : Nat) (o_phase : Int32) (o_family : Int32) (o_group : Int32) (o_part : Int32) (o_signed : Int32) (o_negative : Int32) (o_whole : Int32) (o_behind : Int32) (o_places : Int32) (o_dataLeft : Int32) (o_last : Int32) (o_dataTo : Int32) (o_bytesCame : Int32) (o_came : Int32) (o_cameX : Int32) (o_cameY : Int32) (o_glyphs : Int32) (o_allGlyphs : Int32) (o_touched : Int32) (o_glyph : Nat) (o_pages : Int32) (o_page : Nat) (o_others : Int32) (o_other : Nat) (o_stored : Int32) (o_store : Nat) (A : Nat → Prop) (u : Unit) (t : State) : Prop := match u with
  | _ => va_P (dC, dI) vcl [(h0, .inr (13, [.int 0, .ref o_state, .ref o_kept, .ref o_isKept, .int o_size, .int o_orientation, .int o_copies, .int o_width, .int o_height, .ref o_steps, .int o_phase, .int o_family, .int o_group, .int o_part, .int o_signed, .int o_negative, .int o_whole, .int o_behind, .int o_places, .int o_dataLeft, .int o_last, .int o_dataTo, .int o_bytesCame, .int o_came, .int o_cameX, .int o_cameY, .int o_glyphs, .int o_allGlyphs, .int 1, .ref o_glyph, .int o_pages, .ref o_page, .int o_others, .ref o_other, .int o_stored, .ref o_store]))] t.heap ∧ va_K (dC, dI) vcl [] t ∧ va_D A [(h0, .inr (13, [.int 0, .ref o_state, .ref o_kept, .ref o_isKept, .int o_size, .int o_orientation, .int o_copies, .int o_width, .int o_height, .ref o_steps, .int o_phase, .int o_family, .int o_group, .int o_part, .int o_signed, .int o_negative, .int o_whole, .int o_behind, .int o_places, .int o_dataLeft, .int o_last, .int o_dataTo, .int o_bytesCame, .int o_came, .int o_cameX, .int o_cameY, .int o_glyphs, .int o_allGlyphs, .int 1, .ref o_glyph, .int o_pages, .ref o_page, .int o_others, .ref o_other, .int o_stored, .ref o_store]))]
abbrev po_g_mDesk_due (h0 : Nat) (o_thrown : Int32) (o_state : Nat) (o_kept : Nat) (o_isKept : Nat) (o_size : Int32) (o_orientation : Int32) (o_copies : Int32) (o_width : Int32) (o_height : Int32) (o_steps : Nat) (o_phase : Int32) (o_family : Int32) (o_group : Int32) (o_part : Int32) (o_signed : Int32) (o_negative : Int32) (o_whole : Int32) (o_behind : Int32) (o_places : Int32) (o_dataLeft : Int32) (o_last : Int32) (o_dataTo : Int32) (o_bytesCame : Int32) (o_came : Int32) (o_cameX : Int32) (o_cameY : Int32) (o_glyphs : Int32) (o_allGlyphs : Int32) (o_touched : Int32) (o_glyph : Nat) (o_pages : Int32) (o_page : Nat) (o_others : Int32) (o_other : Nat) (o_stored : Int32) (o_store : Nat) (u : Unit) : Prop := match u with
  | _ => True
abbrev q_g_mDesk_due (dC : Nat → ClassId) (dI : Nat → Nat → Nat) (h0 : Nat) (o_thrown : Int32) (o_state : Nat) (o_kept : Nat) (o_isKept : Nat) (o_size : Int32) (o_orientation : Int32) (o_copies : Int32) (o_width : Int32) (o_height : Int32) (o_steps : Nat) (o_phase : Int32) (o_family : Int32) (o_group : Int32) (o_part : Int32) (o_signed : Int32) (o_negative : Int32) (o_whole : Int32) (o_behind : Int32) (o_places : Int32) (o_dataLeft : Int32) (o_last : Int32) (o_dataTo : Int32) (o_bytesCame : Int32) (o_came : Int32) (o_cameX : Int32) (o_cameY : Int32) (o_glyphs : Int32) (o_allGlyphs : Int32) (o_touched : Int32) (o_glyph : Nat) (o_pages : Int32) (o_page : Nat) (o_others : Int32) (o_other : Nat) (o_stored : Int32) (o_store : Nat) (A : Nat → Prop) : Array Value → State → Outcome → State → Prop := va_Qv (po_g_mDesk_due h0 o_thrown o_state o_kept o_isKept o_size o_orientation o_copies o_width o_height o_steps o_phase o_family o_group o_part o_signed o_negative o_whole o_behind o_places o_dataLeft o_last o_dataTo o_bytesCame o_came o_cameX o_cameY o_glyphs o_allGlyphs o_touched o_glyph o_pages o_page o_others o_other o_stored o_store) (at_g_mDesk_due dC dI h0 o_thrown o_state o_kept o_isKept o_size o_orientation o_copies o_width o_height o_steps o_phase o_family o_group o_part o_signed o_negative o_whole o_behind o_places o_dataLeft o_last o_dataTo o_bytesCame o_came o_cameX o_cameY o_glyphs o_allGlyphs o_touched o_glyph o_pages o_page o_others o_other o_stored o_store A) A
abbrev rm_g_mDesk_due : Room := { frames := 0, cells := 0, slots := 0, locals := 0 }
set_option maxHeartbeats 4000000 in
set_option maxRecDepth 100000 in
theorem g_mDesk_due (l : Launch) (dC : Nat → ClassId) (dI : Nat → Nat → Nat) (tt : Nat → Nat) (h0 : Nat) (o_thrown : Int32) (o_state : Nat) (o_kept : Nat) (o_isKept : Nat) (o_size : Int32) (o_orientation : Int32) (o_copies : Int32) (o_width : Int32) (o_height : Int32) (o_steps : Nat) (o_phase : Int32) (o_family : Int32) (o_group : Int32) (o_part : Int32) (o_signed : Int32) (o_negative : Int32) (o_whole : Int32) (o_behind : Int32) (o_places : Int32) (o_dataLeft : Int32) (o_last : Int32) (o_dataTo : Int32) (o_bytesCame : Int32) (o_came : Int32) (o_cameX : Int32) (o_cameY : Int32) (o_glyphs : Int32) (o_allGlyphs : Int32) (o_touched : Int32) (o_glyph : Nat) (o_pages : Int32) (o_page : Nat) (o_others : Int32) (o_other : Nat) (o_stored : Int32) (o_store : Nat) (sz : Nat)  : Met l y_mDesk_due w_mDesk_due rm_g_mDesk_due (va_Pc [.ref h0] (fun U => U.heap.size = sz ∧ va_P (dC, dI) vcl [(h0, .inr (13, [.int o_thrown, .ref o_state, .ref o_kept, .ref o_isKept, .int o_size, .int o_orientation, .int o_copies, .int o_width, .int o_height, .ref o_steps, .int o_phase, .int o_family, .int o_group, .int o_part, .int o_signed, .int o_negative, .int o_whole, .int o_behind, .int o_places, .int o_dataLeft, .int o_last, .int o_dataTo, .int o_bytesCame, .int o_came, .int o_cameX, .int o_cameY, .int o_glyphs, .int o_allGlyphs, .int o_touched, .ref o_glyph, .int o_pages, .ref o_page, .int o_others, .ref o_other, .int o_stored, .ref o_store]))] U.heap ∧ va_K (dC, dI) vcl [] U ∧ va_D (fun _ => True) [(h0, .inr (13, [.int o_thrown, .ref o_state, .ref o_kept, .ref o_isKept, .int o_size, .int o_orientation, .int o_copies, .int o_width, .int o_height, .ref o_steps, .int o_phase, .int o_family, .int o_group, .int o_part, .int o_signed, .int o_negative, .int o_whole, .int o_behind, .int o_places, .int o_dataLeft, .int o_last, .int o_dataTo, .int o_bytesCame, .int o_came, .int o_cameX, .int o_cameY, .int o_glyphs, .int o_allGlyphs, .int o_touched, .ref o_glyph, .int o_pages, .ref o_page, .int o_others, .ref o_other, .int o_stored, .ref o_store]))] ∧ SF tt (va_A [(h0, .inr (13, [.int o_thrown, .ref o_state, .ref o_kept, .ref o_isKept, .int o_size, .int o_orientation, .int o_copies, .int o_width, .int o_height, .ref o_steps, .int o_phase, .int o_family, .int o_group, .int o_part, .int o_signed, .int o_negative, .int o_whole, .int o_behind, .int o_places, .int o_dataLeft, .int o_last, .int o_dataTo, .int o_bytesCame, .int o_came, .int o_cameX, .int o_cameY, .int o_glyphs, .int o_allGlyphs, .int o_touched, .ref o_glyph, .int o_pages, .ref o_page, .int o_others, .ref o_other, .int o_stored, .ref o_store]))] sz) U U.heap)) (q_g_mDesk_due dC dI h0 o_thrown o_state o_kept o_isKept o_size o_orientation o_copies o_width o_height o_steps o_phase o_family o_group o_part o_signed o_negative o_whole o_behind o_places o_dataLeft o_last o_dataTo o_bytesCame o_came o_cameX o_cameY o_glyphs o_allGlyphs o_touched o_glyph o_pages o_page o_others o_other o_stored o_store (va_A [(h0, .inr (13, [.int o_thrown, .ref o_state, .ref o_kept, .ref o_isKept, .int o_size, .int o_orientation, .int o_copies, .int o_width, .int o_height, .ref o_steps, .int o_phase, .int o_family, .int o_group, .int o_part, .int o_signed, .int o_negative, .int o_whole, .int o_behind, .int o_places, .int o_dataLeft, .int o_last, .int o_dataTo, .int o_bytesCame, .int o_came, .int o_cameX, .int o_cameY, .int o_glyphs, .int o_allGlyphs, .int o_touched, .ref o_glyph, .int o_pages, .ref o_page, .int o_others, .ref o_other, .int o_stored, .ref o_store]))] sz)) 0 0 (va_A [(h0, .inr (13, [.int o_thrown, .ref o_state, .ref o_kept, .ref o_isKept, .int o_size, .int o_orientation, .int o_copies, .int o_width, .int o_height, .ref o_steps, .int o_phase, .int o_family, .int o_group, .int o_part, .int o_signed, .int o_negative, .int o_whole, .int o_behind, .int o_places, .int o_dataLeft, .int o_last, .int o_dataTo, .int o_bytesCame, .int o_came, .int o_cameX, .int o_cameY, .int o_glyphs, .int o_allGlyphs, .int o_touched, .ref o_glyph, .int o_pages, .ref o_page, .int o_others, .ref o_other, .int o_stored, .ref o_store]))] sz) := by
  refine Met.ofW (cc := b_mDesk_due) (maxL := 1) (ret := none) (by decide) rfl ?_
  intro p e s m args below meth c s₁ B hml hv
  obtain ⟨rfl, hsz, hP, hK, hD0, hF⟩ := hv
  have hx := B.exec
  have hb := B.bytes
  have hr := B.returns
  have hwd : ∀ w ∈ gT, w.before _ s = true := fun w h => atoms_spec (ws := w_mDesk_due) B.pre w (List.mem_cons_of_mem _ h)
  have hown : s.vm.findClass R_mDesk = some m.cls := findClass_of_methodNamed B.named
  have hlocks := B.notSynchronized
  subst hsz
  have hD := hD0.self (sz := s.heap.size)
  generalize hAe : va_A [(h0, .inr (13, [.int o_thrown, .ref o_state, .ref o_kept, .ref o_isKept, .int o_size, .int o_orientation, .int o_copies, .int o_width, .int o_height, .ref o_steps, .int o_phase, .int o_family, .int o_group, .int o_part, .int o_signed, .int o_negative, .int o_whole, .int o_behind, .int o_places, .int o_dataLeft, .int o_last, .int o_dataTo, .int o_bytesCame, .int o_came, .int o_cameX, .int o_cameY, .int o_glyphs, .int o_allGlyphs, .int o_touched, .ref o_glyph, .int o_pages, .ref o_page, .int o_others, .ref o_other, .int o_stored, .ref o_store]))] s.heap.size = A at hD hF ⊢
  have hA : ∀ q : Nat, s.heap.size ≤ q → A q := fun q h => by rw [← hAe]; exact Or.inr h
  have hS : va_S A s.heap s.heap [] := va_S.rf
  have hP : va_P (dC, dI) vcl [(h0, .inr (13, [.int o_thrown, .ref o_state, .ref o_kept, .ref o_isKept, .int o_size, .int o_orientation, .int o_copies, .int o_width, .int o_height, .ref o_steps, .int o_phase, .int o_family, .int o_group, .int o_part, .int o_signed, .int o_negative, .int o_whole, .int o_behind, .int o_places, .int o_dataLeft, .int o_last, .int o_dataTo, .int o_bytesCame, .int o_came, .int o_cameX, .int o_cameY, .int o_glyphs, .int o_allGlyphs, .int o_touched, .ref o_glyph, .int o_pages, .ref o_page, .int o_others, .ref o_other, .int o_stored, .ref o_store]))] s.heap := hP
  have hl := lv_entry ([.ref h0]) (n := 1) (Nat.le_of_ble_eq_true rfl)
  rw [lg_entry_eq]
  generalize (lg_sl ([.ref h0]) ++ List.replicate (1 - (lg_sl ([.ref h0])).length) Slot.unset).toArray = ls at hl ⊢
  have hl : lv_has ls 1 [(0, .ref h0)] := hl
  refine lv_aload_n hx hb d_mDesk_due_0 rfl (lv_at hl 0 rfl) ?_
  refine lv_iconst (v := 0) hx hb d_mDesk_due_1 (by decide) ?_
  refine va_put (D := (dC, dI)) (ci := 13) (v := .int 0) (ty := .int) (C := R_mDesk) (T := F_mDesk) (N := 36) hx hb hwd i_mDesk t_mDesk to_mDesk no_mDesk hown hK hP hD hS 0 rfl rfl 0 (by decide) (hwd _ wd_9_76) (fun _ h9 => h9) rfl (by decide +kernel) rfl rfl (Nat.le_of_ble_eq_true rfl) d_mDesk_due_2 ?_
  clear hP hD hS
  intro H locs hP hD hS
  replace hP : va_P (dC, dI) vcl [(h0, .inr (13, [.int 0, .ref o_state, .ref o_kept, .ref o_isKept, .int o_size, .int o_orientation, .int o_copies, .int o_width, .int o_height, .ref o_steps, .int o_phase, .int o_family, .int o_group, .int o_part, .int o_signed, .int o_negative, .int o_whole, .int o_behind, .int o_places, .int o_dataLeft, .int o_last, .int o_dataTo, .int o_bytesCame, .int o_came, .int o_cameX, .int o_cameY, .int o_glyphs, .int o_allGlyphs, .int o_touched, .ref o_glyph, .int o_pages, .ref o_page, .int o_others, .ref o_other, .int o_stored, .ref o_store]))] H := hP
  replace hD : va_D A [(h0, .inr (13, [.int 0, .ref o_state, .ref o_kept, .ref o_isKept, .int o_size, .int o_orientation, .int o_copies, .int o_width, .int o_height, .ref o_steps, .int o_phase, .int o_family, .int o_group, .int o_part, .int o_signed, .int o_negative, .int o_whole, .int o_behind, .int o_places, .int o_dataLeft, .int o_last, .int o_dataTo, .int o_bytesCame, .int o_came, .int o_cameX, .int o_cameY, .int o_glyphs, .int o_allGlyphs, .int o_touched, .ref o_glyph, .int o_pages, .ref o_page, .int o_others, .ref o_other, .int o_stored, .ref o_store]))] := hD
  refine lv_aload_n hx hb d_mDesk_due_5 rfl (lv_at hl 0 rfl) ?_
  refine lv_iconst (v := 1) hx hb d_mDesk_due_6 (by decide) ?_
  refine va_put (D := (dC, dI)) (ci := 13) (v := .int 1) (ty := .boolean) (C := R_mDesk) (T := F_mDesk) (N := 36) hx hb hwd i_mDesk t_mDesk to_mDesk no_mDesk hown hK hP hD hS 0 rfl rfl 28 (by decide) (hwd _ wd_9_111) (fun _ h9 => h9) rfl (by decide +kernel) (by decide) rfl (Nat.le_of_ble_eq_true rfl) d_mDesk_due_7 ?_
  clear hP hD hS
  intro H locs hP hD hS
  replace hP : va_P (dC, dI) vcl [(h0, .inr (13, [.int 0, .ref o_state, .ref o_kept, .ref o_isKept, .int o_size, .int o_orientation, .int o_copies, .int o_width, .int o_height, .ref o_steps, .int o_phase, .int o_family, .int o_group, .int o_part, .int o_signed, .int o_negative, .int o_whole, .int o_behind, .int o_places, .int o_dataLeft, .int o_last, .int o_dataTo, .int o_bytesCame, .int o_came, .int o_cameX, .int o_cameY, .int o_glyphs, .int o_allGlyphs, .int 1, .ref o_glyph, .int o_pages, .ref o_page, .int o_others, .ref o_other, .int o_stored, .ref o_store]))] H := hP
  replace hD : va_D A [(h0, .inr (13, [.int 0, .ref o_state, .ref o_kept, .ref o_isKept, .int o_size, .int o_orientation, .int o_copies, .int o_width, .int o_height, .ref o_steps, .int o_phase, .int o_family, .int o_group, .int o_part, .int o_signed, .int o_negative, .int o_whole, .int o_behind, .int o_places, .int o_dataLeft, .int o_last, .int o_dataTo, .int o_bytesCame, .int o_came, .int o_cameX, .int o_cameY, .int o_glyphs, .int o_allGlyphs, .int 1, .ref o_glyph, .int o_pages, .ref o_page, .int o_others, .ref o_other, .int o_stored, .ref o_store]))] := hD
  have hP9 := hP.sub (ws' := [(h0, .inr (13, [.int 0, .ref o_state, .ref o_kept, .ref o_isKept, .int o_size, .int o_orientation, .int o_copies, .int o_width, .int o_height, .ref o_steps, .int o_phase, .int o_family, .int o_group, .int o_part, .int o_signed, .int o_negative, .int o_whole, .int o_behind, .int o_places, .int o_dataLeft, .int o_last, .int o_dataTo, .int o_bytesCame, .int o_came, .int o_cameX, .int o_cameY, .int o_glyphs, .int o_allGlyphs, .int 1, .ref o_glyph, .int o_pages, .ref o_page, .int o_others, .ref o_other, .int o_stored, .ref o_store]))]) [0] rfl
  have hD9 := hD.sub (ws' := [(h0, .inr (13, [.int 0, .ref o_state, .ref o_kept, .ref o_isKept, .int o_size, .int o_orientation, .int o_copies, .int o_width, .int o_height, .ref o_steps, .int o_phase, .int o_family, .int o_group, .int o_part, .int o_signed, .int o_negative, .int o_whole, .int o_behind, .int o_places, .int o_dataLeft, .int o_last, .int o_dataTo, .int o_bytesCame, .int o_came, .int o_cameX, .int o_cameY, .int o_glyphs, .int o_allGlyphs, .int 1, .ref o_glyph, .int o_pages, .ref o_page, .int o_others, .ref o_other, .int o_stored, .ref o_store]))]) [0] (by decide) rfl
  have hK9 := hK.sub (tys' := []) [] rfl
  exact W.vret hx hb hr (fun t ht hW => ⟨⟨(), rfl, (trivial), by rw [ht]; exact hP9, va_K.moved hW.alike hK9, hD9⟩, hS.F ht⟩) hS.2.2 d_mDesk_due_10

abbrev at_g_mMacros_closing (dC : Nat → ClassId) (dI : Nat → Nat → Nat) (v0 : Int32) (A : Nat → Prop) (u : Unit) (t : State) : Prop := match u with
  | _ => va_P (dC, dI) vcl [] t.heap ∧ va_K (dC, dI) vcl [] t ∧ va_D A []
abbrev po_g_mMacros_closing (v0 : Int32) (r : Int32) (u : Unit) : Prop := match u with
  | _ => r = if v0 = (0 : Int32) then 27 else (if v0 = (1 : Int32) then 38 else (if v0 = (2 : Int32) then 102 else (if v0 = (3 : Int32) then 49 else 88)))
abbrev q_g_mMacros_closing (dC : Nat → ClassId) (dI : Nat → Nat → Nat) (v0 : Int32) (A : Nat → Prop) : Array Value → State → Outcome → State → Prop := va_Qi (po_g_mMacros_closing v0) (at_g_mMacros_closing dC dI v0 A) A
abbrev rm_g_mMacros_closing : Room := { frames := 0, cells := 0, slots := 0, locals := 0 }
set_option maxHeartbeats 4000000 in
set_option maxRecDepth 100000 in
theorem g_mMacros_closing (l : Launch) (dC : Nat → ClassId) (dI : Nat → Nat → Nat) (tt : Nat → Nat) (v0 : Int32) (sz : Nat)  : Met l y_mMacros_closing w_mMacros_closing rm_g_mMacros_closing (va_Pc [.int v0] (fun U => U.heap.size = sz ∧ va_P (dC, dI) vcl [] U.heap ∧ va_K (dC, dI) vcl [] U ∧ va_D (fun _ => True) [] ∧ SF tt (va_A [] sz) U U.heap)) (q_g_mMacros_closing dC dI v0 (va_A [] sz)) 0 0 (va_A [] sz) := by
  refine Met.ofW (cc := b_mMacros_closing) (maxL := 1) (ret := (some .int)) (by decide) rfl ?_
  intro p e s m args below meth c s₁ B hml hv
  obtain ⟨rfl, hsz, hP, hK, hD0, hF⟩ := hv
  have hx := B.exec
  have hb := B.bytes
  have hr := B.returns
  have hwd : ∀ w ∈ gT, w.before _ s = true := fun w h => atoms_spec (ws := w_mMacros_closing) B.pre w (List.mem_cons_of_mem _ h)
  have hown : s.vm.findClass R_mMacros = some m.cls := findClass_of_methodNamed B.named
  have hlocks := B.notSynchronized
  subst hsz
  have hD := hD0.self (sz := s.heap.size)
  generalize hAe : va_A [] s.heap.size = A at hD hF ⊢
  have hA : ∀ q : Nat, s.heap.size ≤ q → A q := fun q h => by rw [← hAe]; exact Or.inr h
  have hS : va_S A s.heap s.heap [] := va_S.rf
  have hP : va_P (dC, dI) vcl [] s.heap := hP
  have hl := lv_entry ([.int v0]) (n := 1) (Nat.le_of_ble_eq_true rfl)
  rw [lg_entry_eq]
  generalize (lg_sl ([.int v0]) ++ List.replicate (1 - (lg_sl ([.int v0])).length) Slot.unset).toArray = ls at hl ⊢
  have hl : lv_has ls 1 [(0, .int v0)] := hl
  refine lv_iload_n hx hb d_mMacros_closing_0 rfl (lv_at hl 0 rfl) ?_
  refine lv_if_ne (tgt := 9) hx hb d_mMacros_closing_1 (by decide) (fun c1 => ?_) (fun c1 => ?_)
  · refine lv_iload_n hx hb d_mMacros_closing_9 rfl (lv_at hl 0 rfl) ?_
    refine lv_iconst (v := 1) hx hb d_mMacros_closing_10 (by decide) ?_
    refine lv_icmp_ne (tgt := 19) hx hb d_mMacros_closing_11 (by decide) (fun c11 => ?_) (fun c11 => ?_)
    · refine lv_iload_n hx hb d_mMacros_closing_19 rfl (lv_at hl 0 rfl) ?_
      refine lv_iconst (v := 2) hx hb d_mMacros_closing_20 (by decide) ?_
      refine lv_icmp_ne (tgt := 29) hx hb d_mMacros_closing_21 (by decide) (fun c21 => ?_) (fun c21 => ?_)
      · refine lv_iload_n hx hb d_mMacros_closing_29 rfl (lv_at hl 0 rfl) ?_
        refine lv_iconst (v := 3) hx hb d_mMacros_closing_30 (by decide) ?_
        refine lv_icmp_ne (tgt := 39) hx hb d_mMacros_closing_31 (by decide) (fun c31 => ?_) (fun c31 => ?_)
        · refine lv_bipush (v := 88) hx hb d_mMacros_closing_39 (by decide) ?_
          have hP9 := hP.sub (ws' := []) [] rfl
          have hD9 := hD.sub (ws' := []) [] (by decide) rfl
          have hK9 := hK.sub (tys' := []) [] rfl
          exact W.iret (v := 88) hx hb hr (fun t ht hW => ⟨⟨88, (), rfl, (show (88 : Int32) = if v0 = (0 : Int32) then 27 else (if v0 = (1 : Int32) then 38 else (if v0 = (2 : Int32) then 102 else (if v0 = (3 : Int32) then 49 else 88))) from (by rw [if_neg c1, if_neg c11, if_neg c21, if_neg c31])), by rw [ht]; exact hP9, va_K.moved hW.alike hK9, hD9⟩, hS.F ht⟩) hS.2.2 d_mMacros_closing_41
        · refine lv_bipush (v := 49) hx hb d_mMacros_closing_34 (by decide) ?_
          refine lv_goto (tgt := 41) hx hb d_mMacros_closing_36 (by decide) ?_
          have hP9 := hP.sub (ws' := []) [] rfl
          have hD9 := hD.sub (ws' := []) [] (by decide) rfl
          have hK9 := hK.sub (tys' := []) [] rfl
          exact W.iret (v := 49) hx hb hr (fun t ht hW => ⟨⟨49, (), rfl, (show (49 : Int32) = if v0 = (0 : Int32) then 27 else (if v0 = (1 : Int32) then 38 else (if v0 = (2 : Int32) then 102 else (if v0 = (3 : Int32) then 49 else 88))) from (by rw [if_neg c1, if_neg c11, if_neg c21, if_pos c31])), by rw [ht]; exact hP9, va_K.moved hW.alike hK9, hD9⟩, hS.F ht⟩) hS.2.2 d_mMacros_closing_41
      · refine lv_bipush (v := 102) hx hb d_mMacros_closing_24 (by decide) ?_
        refine lv_goto (tgt := 41) hx hb d_mMacros_closing_26 (by decide) ?_
        have hP9 := hP.sub (ws' := []) [] rfl
        have hD9 := hD.sub (ws' := []) [] (by decide) rfl
        have hK9 := hK.sub (tys' := []) [] rfl
        exact W.iret (v := 102) hx hb hr (fun t ht hW => ⟨⟨102, (), rfl, (show (102 : Int32) = if v0 = (0 : Int32) then 27 else (if v0 = (1 : Int32) then 38 else (if v0 = (2 : Int32) then 102 else (if v0 = (3 : Int32) then 49 else 88))) from (by rw [if_neg c1, if_neg c11, if_pos c21])), by rw [ht]; exact hP9, va_K.moved hW.alike hK9, hD9⟩, hS.F ht⟩) hS.2.2 d_mMacros_closing_41
    · refine lv_bipush (v := 38) hx hb d_mMacros_closing_14 (by decide) ?_
      refine lv_goto (tgt := 41) hx hb d_mMacros_closing_16 (by decide) ?_
      have hP9 := hP.sub (ws' := []) [] rfl
      have hD9 := hD.sub (ws' := []) [] (by decide) rfl
      have hK9 := hK.sub (tys' := []) [] rfl
      exact W.iret (v := 38) hx hb hr (fun t ht hW => ⟨⟨38, (), rfl, (show (38 : Int32) = if v0 = (0 : Int32) then 27 else (if v0 = (1 : Int32) then 38 else (if v0 = (2 : Int32) then 102 else (if v0 = (3 : Int32) then 49 else 88))) from (by rw [if_neg c1, if_pos c11])), by rw [ht]; exact hP9, va_K.moved hW.alike hK9, hD9⟩, hS.F ht⟩) hS.2.2 d_mMacros_closing_41
  · refine lv_bipush (v := 27) hx hb d_mMacros_closing_4 (by decide) ?_
    refine lv_goto (tgt := 41) hx hb d_mMacros_closing_6 (by decide) ?_
    have hP9 := hP.sub (ws' := []) [] rfl
    have hD9 := hD.sub (ws' := []) [] (by decide) rfl
    have hK9 := hK.sub (tys' := []) [] rfl
    exact W.iret (v := 27) hx hb hr (fun t ht hW => ⟨⟨27, (), rfl, (show (27 : Int32) = if v0 = (0 : Int32) then 27 else (if v0 = (1 : Int32) then 38 else (if v0 = (2 : Int32) then 102 else (if v0 = (3 : Int32) then 49 else 88))) from (by rw [if_pos c1])), by rw [ht]; exact hP9, va_K.moved hW.alike hK9, hD9⟩, hS.F ht⟩) hS.2.2 d_mMacros_closing_41

abbrev at_g_mPictures_sizeOf (dC : Nat → ClassId) (dI : Nat → Nat → Nat) (v0 : Int32) (A : Nat → Prop) (u : Unit) (t : State) : Prop := match u with
  | _ => va_P (dC, dI) vcl [] t.heap ∧ va_K (dC, dI) vcl [] t ∧ va_D A []
abbrev po_g_mPictures_sizeOf (v0 : Int32) (r : Int32) (u : Unit) : Prop := match u with
  | _ => r = if v0 = (3 : Int32) then 2 else (if v0 = (4 : Int32) then 4 else 8)
abbrev q_g_mPictures_sizeOf (dC : Nat → ClassId) (dI : Nat → Nat → Nat) (v0 : Int32) (A : Nat → Prop) : Array Value → State → Outcome → State → Prop := va_Qi (po_g_mPictures_sizeOf v0) (at_g_mPictures_sizeOf dC dI v0 A) A
abbrev rm_g_mPictures_sizeOf : Room := { frames := 0, cells := 0, slots := 0, locals := 0 }
set_option maxHeartbeats 4000000 in
set_option maxRecDepth 100000 in
theorem g_mPictures_sizeOf (l : Launch) (dC : Nat → ClassId) (dI : Nat → Nat → Nat) (tt : Nat → Nat) (v0 : Int32) (sz : Nat)  : Met l y_mPictures_sizeOf w_mPictures_sizeOf rm_g_mPictures_sizeOf (va_Pc [.int v0] (fun U => U.heap.size = sz ∧ va_P (dC, dI) vcl [] U.heap ∧ va_K (dC, dI) vcl [] U ∧ va_D (fun _ => True) [] ∧ SF tt (va_A [] sz) U U.heap)) (q_g_mPictures_sizeOf dC dI v0 (va_A [] sz)) 0 0 (va_A [] sz) := by
  refine Met.ofW (cc := b_mPictures_sizeOf) (maxL := 1) (ret := (some .int)) (by decide) rfl ?_
  intro p e s m args below meth c s₁ B hml hv
  obtain ⟨rfl, hsz, hP, hK, hD0, hF⟩ := hv
  have hx := B.exec
  have hb := B.bytes
  have hr := B.returns
  have hwd : ∀ w ∈ gT, w.before _ s = true := fun w h => atoms_spec (ws := w_mPictures_sizeOf) B.pre w (List.mem_cons_of_mem _ h)
  have hown : s.vm.findClass R_mPictures = some m.cls := findClass_of_methodNamed B.named
  have hlocks := B.notSynchronized
  subst hsz
  have hD := hD0.self (sz := s.heap.size)
  generalize hAe : va_A [] s.heap.size = A at hD hF ⊢
  have hA : ∀ q : Nat, s.heap.size ≤ q → A q := fun q h => by rw [← hAe]; exact Or.inr h
  have hS : va_S A s.heap s.heap [] := va_S.rf
  have hP : va_P (dC, dI) vcl [] s.heap := hP
  have hl := lv_entry ([.int v0]) (n := 1) (Nat.le_of_ble_eq_true rfl)
  rw [lg_entry_eq]
  generalize (lg_sl ([.int v0]) ++ List.replicate (1 - (lg_sl ([.int v0])).length) Slot.unset).toArray = ls at hl ⊢
  have hl : lv_has ls 1 [(0, .int v0)] := hl
  refine lv_iload_n hx hb d_mPictures_sizeOf_0 rfl (lv_at hl 0 rfl) ?_
  refine lv_iconst (v := 3) hx hb d_mPictures_sizeOf_1 (by decide) ?_
  refine lv_icmp_ne (tgt := 9) hx hb d_mPictures_sizeOf_2 (by decide) (fun c2 => ?_) (fun c2 => ?_)
  · refine lv_iload_n hx hb d_mPictures_sizeOf_9 rfl (lv_at hl 0 rfl) ?_
    refine lv_iconst (v := 4) hx hb d_mPictures_sizeOf_10 (by decide) ?_
    refine lv_icmp_ne (tgt := 18) hx hb d_mPictures_sizeOf_11 (by decide) (fun c11 => ?_) (fun c11 => ?_)
    · refine lv_bipush (v := 8) hx hb d_mPictures_sizeOf_18 (by decide) ?_
      have hP9 := hP.sub (ws' := []) [] rfl
      have hD9 := hD.sub (ws' := []) [] (by decide) rfl
      have hK9 := hK.sub (tys' := []) [] rfl
      exact W.iret (v := 8) hx hb hr (fun t ht hW => ⟨⟨8, (), rfl, (show (8 : Int32) = if v0 = (3 : Int32) then 2 else (if v0 = (4 : Int32) then 4 else 8) from (by rw [if_neg c2, if_neg c11])), by rw [ht]; exact hP9, va_K.moved hW.alike hK9, hD9⟩, hS.F ht⟩) hS.2.2 d_mPictures_sizeOf_20
    · refine lv_iconst (v := 4) hx hb d_mPictures_sizeOf_14 (by decide) ?_
      refine lv_goto (tgt := 20) hx hb d_mPictures_sizeOf_15 (by decide) ?_
      have hP9 := hP.sub (ws' := []) [] rfl
      have hD9 := hD.sub (ws' := []) [] (by decide) rfl
      have hK9 := hK.sub (tys' := []) [] rfl
      exact W.iret (v := 4) hx hb hr (fun t ht hW => ⟨⟨4, (), rfl, (show (4 : Int32) = if v0 = (3 : Int32) then 2 else (if v0 = (4 : Int32) then 4 else 8) from (by rw [if_neg c2, if_pos c11])), by rw [ht]; exact hP9, va_K.moved hW.alike hK9, hD9⟩, hS.F ht⟩) hS.2.2 d_mPictures_sizeOf_20
  · refine lv_iconst (v := 2) hx hb d_mPictures_sizeOf_5 (by decide) ?_
    refine lv_goto (tgt := 20) hx hb d_mPictures_sizeOf_6 (by decide) ?_
    have hP9 := hP.sub (ws' := []) [] rfl
    have hD9 := hD.sub (ws' := []) [] (by decide) rfl
    have hK9 := hK.sub (tys' := []) [] rfl
    exact W.iret (v := 2) hx hb hr (fun t ht hW => ⟨⟨2, (), rfl, (show (2 : Int32) = if v0 = (3 : Int32) then 2 else (if v0 = (4 : Int32) then 4 else 8) from (by rw [if_pos c2])), by rw [ht]; exact hP9, va_K.moved hW.alike hK9, hD9⟩, hS.F ht⟩) hS.2.2 d_mPictures_sizeOf_20

abbrev at_g_mSheet_across (dC : Nat → ClassId) (dI : Nat → Nat → Nat) (h0 : Nat) (o_stride : Int32) (o_dots : Nat) (o_wide : Int32) (o_high : Int32) (o_orientation : Int32) (o_marks : Int32) (o_bytes : Int32) (o_overrun : Int32) (o_ink : Int32) (o_value : Int32) (o_sourceOpaque : Int32) (o_inkOpaque : Int32) (A : Nat → Prop) (u : Unit) (t : State) : Prop := match u with
  | _ => va_P (dC, dI) vcl [(h0, .inr (17, [.int o_stride, .ref o_dots, .int o_wide, .int o_high, .int o_orientation, .int o_marks, .int o_bytes, .int o_overrun, .int o_ink, .int o_value, .int o_sourceOpaque, .int o_inkOpaque]))] t.heap ∧ va_K (dC, dI) vcl [] t ∧ va_D A [(h0, .inr (17, [.int o_stride, .ref o_dots, .int o_wide, .int o_high, .int o_orientation, .int o_marks, .int o_bytes, .int o_overrun, .int o_ink, .int o_value, .int o_sourceOpaque, .int o_inkOpaque]))]
abbrev po_g_mSheet_across (h0 : Nat) (o_stride : Int32) (o_dots : Nat) (o_wide : Int32) (o_high : Int32) (o_orientation : Int32) (o_marks : Int32) (o_bytes : Int32) (o_overrun : Int32) (o_ink : Int32) (o_value : Int32) (o_sourceOpaque : Int32) (o_inkOpaque : Int32) (r : Int32) (u : Unit) : Prop := match u with
  | _ => r = if (o_orientation - o_orientation / 2 * 2) = (0 : Int32) then o_wide else o_high
abbrev q_g_mSheet_across (dC : Nat → ClassId) (dI : Nat → Nat → Nat) (h0 : Nat) (o_stride : Int32) (o_dots : Nat) (o_wide : Int32) (o_high : Int32) (o_orientation : Int32) (o_marks : Int32) (o_bytes : Int32) (o_overrun : Int32) (o_ink : Int32) (o_value : Int32) (o_sourceOpaque : Int32) (o_inkOpaque : Int32) (A : Nat → Prop) : Array Value → State → Outcome → State → Prop := va_Qi (po_g_mSheet_across h0 o_stride o_dots o_wide o_high o_orientation o_marks o_bytes o_overrun o_ink o_value o_sourceOpaque o_inkOpaque) (at_g_mSheet_across dC dI h0 o_stride o_dots o_wide o_high o_orientation o_marks o_bytes o_overrun o_ink o_value o_sourceOpaque o_inkOpaque A) A
abbrev rm_g_mSheet_across : Room := { frames := 0, cells := 0, slots := 0, locals := 0 }
set_option maxHeartbeats 4000000 in
set_option maxRecDepth 100000 in
theorem g_mSheet_across (l : Launch) (dC : Nat → ClassId) (dI : Nat → Nat → Nat) (tt : Nat → Nat) (h0 : Nat) (o_stride : Int32) (o_dots : Nat) (o_wide : Int32) (o_high : Int32) (o_orientation : Int32) (o_marks : Int32) (o_bytes : Int32) (o_overrun : Int32) (o_ink : Int32) (o_value : Int32) (o_sourceOpaque : Int32) (o_inkOpaque : Int32) (sz : Nat)  : Met l y_mSheet_across w_mSheet_across rm_g_mSheet_across (va_Pc [.ref h0] (fun U => U.heap.size = sz ∧ va_P (dC, dI) vcl [(h0, .inr (17, [.int o_stride, .ref o_dots, .int o_wide, .int o_high, .int o_orientation, .int o_marks, .int o_bytes, .int o_overrun, .int o_ink, .int o_value, .int o_sourceOpaque, .int o_inkOpaque]))] U.heap ∧ va_K (dC, dI) vcl [] U ∧ va_D (fun _ => True) [(h0, .inr (17, [.int o_stride, .ref o_dots, .int o_wide, .int o_high, .int o_orientation, .int o_marks, .int o_bytes, .int o_overrun, .int o_ink, .int o_value, .int o_sourceOpaque, .int o_inkOpaque]))] ∧ SF tt (va_A [(h0, .inr (17, [.int o_stride, .ref o_dots, .int o_wide, .int o_high, .int o_orientation, .int o_marks, .int o_bytes, .int o_overrun, .int o_ink, .int o_value, .int o_sourceOpaque, .int o_inkOpaque]))] sz) U U.heap)) (q_g_mSheet_across dC dI h0 o_stride o_dots o_wide o_high o_orientation o_marks o_bytes o_overrun o_ink o_value o_sourceOpaque o_inkOpaque (va_A [(h0, .inr (17, [.int o_stride, .ref o_dots, .int o_wide, .int o_high, .int o_orientation, .int o_marks, .int o_bytes, .int o_overrun, .int o_ink, .int o_value, .int o_sourceOpaque, .int o_inkOpaque]))] sz)) 0 0 (va_A [(h0, .inr (17, [.int o_stride, .ref o_dots, .int o_wide, .int o_high, .int o_orientation, .int o_marks, .int o_bytes, .int o_overrun, .int o_ink, .int o_value, .int o_sourceOpaque, .int o_inkOpaque]))] sz) := by
  refine Met.ofW (cc := b_mSheet_across) (maxL := 1) (ret := (some .int)) (by decide) rfl ?_
  intro p e s m args below meth c s₁ B hml hv
  obtain ⟨rfl, hsz, hP, hK, hD0, hF⟩ := hv
  have hx := B.exec
  have hb := B.bytes
  have hr := B.returns
  have hwd : ∀ w ∈ gT, w.before _ s = true := fun w h => atoms_spec (ws := w_mSheet_across) B.pre w (List.mem_cons_of_mem _ h)
  have hown : s.vm.findClass R_mSheet = some m.cls := findClass_of_methodNamed B.named
  have hlocks := B.notSynchronized
  subst hsz
  have hD := hD0.self (sz := s.heap.size)
  generalize hAe : va_A [(h0, .inr (17, [.int o_stride, .ref o_dots, .int o_wide, .int o_high, .int o_orientation, .int o_marks, .int o_bytes, .int o_overrun, .int o_ink, .int o_value, .int o_sourceOpaque, .int o_inkOpaque]))] s.heap.size = A at hD hF ⊢
  have hA : ∀ q : Nat, s.heap.size ≤ q → A q := fun q h => by rw [← hAe]; exact Or.inr h
  have hS : va_S A s.heap s.heap [] := va_S.rf
  have hP : va_P (dC, dI) vcl [(h0, .inr (17, [.int o_stride, .ref o_dots, .int o_wide, .int o_high, .int o_orientation, .int o_marks, .int o_bytes, .int o_overrun, .int o_ink, .int o_value, .int o_sourceOpaque, .int o_inkOpaque]))] s.heap := hP
  have hl := lv_entry ([.ref h0]) (n := 1) (Nat.le_of_ble_eq_true rfl)
  rw [lg_entry_eq]
  generalize (lg_sl ([.ref h0]) ++ List.replicate (1 - (lg_sl ([.ref h0])).length) Slot.unset).toArray = ls at hl ⊢
  have hl : lv_has ls 1 [(0, .ref h0)] := hl
  refine lv_aload_n hx hb d_mSheet_across_0 rfl (lv_at hl 0 rfl) ?_
  refine va_get (D := (dC, dI)) (ci := 17) (v := .int o_orientation) (C := R_mSheet) (T := F_mSheet) (N := 12) hx hb hwd i_mSheet hown hK hP 0 rfl rfl 4 (by decide) (hwd _ wd_11_26) (fun _ h9 => h9) rfl d_mSheet_across_1 ?_
  refine lv_iconst (v := 2) hx hb d_mSheet_across_4 (by decide) ?_
  refine lv_irem hx hb d_mSheet_across_5 (by decide) ?_
  refine lv_if_ne (tgt := 16) hx hb d_mSheet_across_6 (by decide) (fun c6 => ?_) (fun c6 => ?_)
  · refine lv_aload_n hx hb d_mSheet_across_16 rfl (lv_at hl 0 rfl) ?_
    refine va_get (D := (dC, dI)) (ci := 17) (v := .int o_high) (C := R_mSheet) (T := F_mSheet) (N := 12) hx hb hwd i_mSheet hown hK hP 0 rfl rfl 3 (by decide) (hwd _ wd_11_24) (fun _ h9 => h9) rfl d_mSheet_across_17 ?_
    have hP9 := hP.sub (ws' := [(h0, .inr (17, [.int o_stride, .ref o_dots, .int o_wide, .int o_high, .int o_orientation, .int o_marks, .int o_bytes, .int o_overrun, .int o_ink, .int o_value, .int o_sourceOpaque, .int o_inkOpaque]))]) [0] rfl
    have hD9 := hD.sub (ws' := [(h0, .inr (17, [.int o_stride, .ref o_dots, .int o_wide, .int o_high, .int o_orientation, .int o_marks, .int o_bytes, .int o_overrun, .int o_ink, .int o_value, .int o_sourceOpaque, .int o_inkOpaque]))]) [0] (by decide) rfl
    have hK9 := hK.sub (tys' := []) [] rfl
    exact W.iret (v := o_high) hx hb hr (fun t ht hW => ⟨⟨o_high, (), rfl, (show (o_high : Int32) = if (o_orientation - o_orientation / 2 * 2) = (0 : Int32) then o_wide else o_high from (by rw [if_neg c6])), by rw [ht]; exact hP9, va_K.moved hW.alike hK9, hD9⟩, hS.F ht⟩) hS.2.2 d_mSheet_across_20
  · refine lv_aload_n hx hb d_mSheet_across_9 rfl (lv_at hl 0 rfl) ?_
    refine va_get (D := (dC, dI)) (ci := 17) (v := .int o_wide) (C := R_mSheet) (T := F_mSheet) (N := 12) hx hb hwd i_mSheet hown hK hP 0 rfl rfl 2 (by decide) (hwd _ wd_11_22) (fun _ h9 => h9) rfl d_mSheet_across_10 ?_
    refine lv_goto (tgt := 20) hx hb d_mSheet_across_13 (by decide) ?_
    have hP9 := hP.sub (ws' := [(h0, .inr (17, [.int o_stride, .ref o_dots, .int o_wide, .int o_high, .int o_orientation, .int o_marks, .int o_bytes, .int o_overrun, .int o_ink, .int o_value, .int o_sourceOpaque, .int o_inkOpaque]))]) [0] rfl
    have hD9 := hD.sub (ws' := [(h0, .inr (17, [.int o_stride, .ref o_dots, .int o_wide, .int o_high, .int o_orientation, .int o_marks, .int o_bytes, .int o_overrun, .int o_ink, .int o_value, .int o_sourceOpaque, .int o_inkOpaque]))]) [0] (by decide) rfl
    have hK9 := hK.sub (tys' := []) [] rfl
    exact W.iret (v := o_wide) hx hb hr (fun t ht hW => ⟨⟨o_wide, (), rfl, (show (o_wide : Int32) = if (o_orientation - o_orientation / 2 * 2) = (0 : Int32) then o_wide else o_high from (by rw [if_pos c6])), by rw [ht]; exact hP9, va_K.moved hW.alike hK9, hD9⟩, hS.F ht⟩) hS.2.2 d_mSheet_across_20

abbrev at_g_mSheet_down (dC : Nat → ClassId) (dI : Nat → Nat → Nat) (h0 : Nat) (o_stride : Int32) (o_dots : Nat) (o_wide : Int32) (o_high : Int32) (o_orientation : Int32) (o_marks : Int32) (o_bytes : Int32) (o_overrun : Int32) (o_ink : Int32) (o_value : Int32) (o_sourceOpaque : Int32) (o_inkOpaque : Int32) (A : Nat → Prop) (u : Unit) (t : State) : Prop := match u with
  | _ => va_P (dC, dI) vcl [(h0, .inr (17, [.int o_stride, .ref o_dots, .int o_wide, .int o_high, .int o_orientation, .int o_marks, .int o_bytes, .int o_overrun, .int o_ink, .int o_value, .int o_sourceOpaque, .int o_inkOpaque]))] t.heap ∧ va_K (dC, dI) vcl [] t ∧ va_D A [(h0, .inr (17, [.int o_stride, .ref o_dots, .int o_wide, .int o_high, .int o_orientation, .int o_marks, .int o_bytes, .int o_overrun, .int o_ink, .int o_value, .int o_sourceOpaque, .int o_inkOpaque]))]
abbrev po_g_mSheet_down (h0 : Nat) (o_stride : Int32) (o_dots : Nat) (o_wide : Int32) (o_high : Int32) (o_orientation : Int32) (o_marks : Int32) (o_bytes : Int32) (o_overrun : Int32) (o_ink : Int32) (o_value : Int32) (o_sourceOpaque : Int32) (o_inkOpaque : Int32) (r : Int32) (u : Unit) : Prop := match u with
  | _ => r = if (o_orientation - o_orientation / 2 * 2) = (0 : Int32) then o_high else o_wide
abbrev q_g_mSheet_down (dC : Nat → ClassId) (dI : Nat → Nat → Nat) (h0 : Nat) (o_stride : Int32) (o_dots : Nat) (o_wide : Int32) (o_high : Int32) (o_orientation : Int32) (o_marks : Int32) (o_bytes : Int32) (o_overrun : Int32) (o_ink : Int32) (o_value : Int32) (o_sourceOpaque : Int32) (o_inkOpaque : Int32) (A : Nat → Prop) : Array Value → State → Outcome → State → Prop := va_Qi (po_g_mSheet_down h0 o_stride o_dots o_wide o_high o_orientation o_marks o_bytes o_overrun o_ink o_value o_sourceOpaque o_inkOpaque) (at_g_mSheet_down dC dI h0 o_stride o_dots o_wide o_high o_orientation o_marks o_bytes o_overrun o_ink o_value o_sourceOpaque o_inkOpaque A) A
abbrev rm_g_mSheet_down : Room := { frames := 0, cells := 0, slots := 0, locals := 0 }
set_option maxHeartbeats 4000000 in
set_option maxRecDepth 100000 in
theorem g_mSheet_down (l : Launch) (dC : Nat → ClassId) (dI : Nat → Nat → Nat) (tt : Nat → Nat) (h0 : Nat) (o_stride : Int32) (o_dots : Nat) (o_wide : Int32) (o_high : Int32) (o_orientation : Int32) (o_marks : Int32) (o_bytes : Int32) (o_overrun : Int32) (o_ink : Int32) (o_value : Int32) (o_sourceOpaque : Int32) (o_inkOpaque : Int32) (sz : Nat)  : Met l y_mSheet_down w_mSheet_down rm_g_mSheet_down (va_Pc [.ref h0] (fun U => U.heap.size = sz ∧ va_P (dC, dI) vcl [(h0, .inr (17, [.int o_stride, .ref o_dots, .int o_wide, .int o_high, .int o_orientation, .int o_marks, .int o_bytes, .int o_overrun, .int o_ink, .int o_value, .int o_sourceOpaque, .int o_inkOpaque]))] U.heap ∧ va_K (dC, dI) vcl [] U ∧ va_D (fun _ => True) [(h0, .inr (17, [.int o_stride, .ref o_dots, .int o_wide, .int o_high, .int o_orientation, .int o_marks, .int o_bytes, .int o_overrun, .int o_ink, .int o_value, .int o_sourceOpaque, .int o_inkOpaque]))] ∧ SF tt (va_A [(h0, .inr (17, [.int o_stride, .ref o_dots, .int o_wide, .int o_high, .int o_orientation, .int o_marks, .int o_bytes, .int o_overrun, .int o_ink, .int o_value, .int o_sourceOpaque, .int o_inkOpaque]))] sz) U U.heap)) (q_g_mSheet_down dC dI h0 o_stride o_dots o_wide o_high o_orientation o_marks o_bytes o_overrun o_ink o_value o_sourceOpaque o_inkOpaque (va_A [(h0, .inr (17, [.int o_stride, .ref o_dots, .int o_wide, .int o_high, .int o_orientation, .int o_marks, .int o_bytes, .int o_overrun, .int o_ink, .int o_value, .int o_sourceOpaque, .int o_inkOpaque]))] sz)) 0 0 (va_A [(h0, .inr (17, [.int o_stride, .ref o_dots, .int o_wide, .int o_high, .int o_orientation, .int o_marks, .int o_bytes, .int o_overrun, .int o_ink, .int o_value, .int o_sourceOpaque, .int o_inkOpaque]))] sz) := by
  refine Met.ofW (cc := b_mSheet_down) (maxL := 1) (ret := (some .int)) (by decide) rfl ?_
  intro p e s m args below meth c s₁ B hml hv
  obtain ⟨rfl, hsz, hP, hK, hD0, hF⟩ := hv
  have hx := B.exec
  have hb := B.bytes
  have hr := B.returns
  have hwd : ∀ w ∈ gT, w.before _ s = true := fun w h => atoms_spec (ws := w_mSheet_down) B.pre w (List.mem_cons_of_mem _ h)
  have hown : s.vm.findClass R_mSheet = some m.cls := findClass_of_methodNamed B.named
  have hlocks := B.notSynchronized
  subst hsz
  have hD := hD0.self (sz := s.heap.size)
  generalize hAe : va_A [(h0, .inr (17, [.int o_stride, .ref o_dots, .int o_wide, .int o_high, .int o_orientation, .int o_marks, .int o_bytes, .int o_overrun, .int o_ink, .int o_value, .int o_sourceOpaque, .int o_inkOpaque]))] s.heap.size = A at hD hF ⊢
  have hA : ∀ q : Nat, s.heap.size ≤ q → A q := fun q h => by rw [← hAe]; exact Or.inr h
  have hS : va_S A s.heap s.heap [] := va_S.rf
  have hP : va_P (dC, dI) vcl [(h0, .inr (17, [.int o_stride, .ref o_dots, .int o_wide, .int o_high, .int o_orientation, .int o_marks, .int o_bytes, .int o_overrun, .int o_ink, .int o_value, .int o_sourceOpaque, .int o_inkOpaque]))] s.heap := hP
  have hl := lv_entry ([.ref h0]) (n := 1) (Nat.le_of_ble_eq_true rfl)
  rw [lg_entry_eq]
  generalize (lg_sl ([.ref h0]) ++ List.replicate (1 - (lg_sl ([.ref h0])).length) Slot.unset).toArray = ls at hl ⊢
  have hl : lv_has ls 1 [(0, .ref h0)] := hl
  refine lv_aload_n hx hb d_mSheet_down_0 rfl (lv_at hl 0 rfl) ?_
  refine va_get (D := (dC, dI)) (ci := 17) (v := .int o_orientation) (C := R_mSheet) (T := F_mSheet) (N := 12) hx hb hwd i_mSheet hown hK hP 0 rfl rfl 4 (by decide) (hwd _ wd_11_26) (fun _ h9 => h9) rfl d_mSheet_down_1 ?_
  refine lv_iconst (v := 2) hx hb d_mSheet_down_4 (by decide) ?_
  refine lv_irem hx hb d_mSheet_down_5 (by decide) ?_
  refine lv_if_ne (tgt := 16) hx hb d_mSheet_down_6 (by decide) (fun c6 => ?_) (fun c6 => ?_)
  · refine lv_aload_n hx hb d_mSheet_down_16 rfl (lv_at hl 0 rfl) ?_
    refine va_get (D := (dC, dI)) (ci := 17) (v := .int o_wide) (C := R_mSheet) (T := F_mSheet) (N := 12) hx hb hwd i_mSheet hown hK hP 0 rfl rfl 2 (by decide) (hwd _ wd_11_22) (fun _ h9 => h9) rfl d_mSheet_down_17 ?_
    have hP9 := hP.sub (ws' := [(h0, .inr (17, [.int o_stride, .ref o_dots, .int o_wide, .int o_high, .int o_orientation, .int o_marks, .int o_bytes, .int o_overrun, .int o_ink, .int o_value, .int o_sourceOpaque, .int o_inkOpaque]))]) [0] rfl
    have hD9 := hD.sub (ws' := [(h0, .inr (17, [.int o_stride, .ref o_dots, .int o_wide, .int o_high, .int o_orientation, .int o_marks, .int o_bytes, .int o_overrun, .int o_ink, .int o_value, .int o_sourceOpaque, .int o_inkOpaque]))]) [0] (by decide) rfl
    have hK9 := hK.sub (tys' := []) [] rfl
    exact W.iret (v := o_wide) hx hb hr (fun t ht hW => ⟨⟨o_wide, (), rfl, (show (o_wide : Int32) = if (o_orientation - o_orientation / 2 * 2) = (0 : Int32) then o_high else o_wide from (by rw [if_neg c6])), by rw [ht]; exact hP9, va_K.moved hW.alike hK9, hD9⟩, hS.F ht⟩) hS.2.2 d_mSheet_down_20
  · refine lv_aload_n hx hb d_mSheet_down_9 rfl (lv_at hl 0 rfl) ?_
    refine va_get (D := (dC, dI)) (ci := 17) (v := .int o_high) (C := R_mSheet) (T := F_mSheet) (N := 12) hx hb hwd i_mSheet hown hK hP 0 rfl rfl 3 (by decide) (hwd _ wd_11_24) (fun _ h9 => h9) rfl d_mSheet_down_10 ?_
    refine lv_goto (tgt := 20) hx hb d_mSheet_down_13 (by decide) ?_
    have hP9 := hP.sub (ws' := [(h0, .inr (17, [.int o_stride, .ref o_dots, .int o_wide, .int o_high, .int o_orientation, .int o_marks, .int o_bytes, .int o_overrun, .int o_ink, .int o_value, .int o_sourceOpaque, .int o_inkOpaque]))]) [0] rfl
    have hD9 := hD.sub (ws' := [(h0, .inr (17, [.int o_stride, .ref o_dots, .int o_wide, .int o_high, .int o_orientation, .int o_marks, .int o_bytes, .int o_overrun, .int o_ink, .int o_value, .int o_sourceOpaque, .int o_inkOpaque]))]) [0] (by decide) rfl
    have hK9 := hK.sub (tys' := []) [] rfl
    exact W.iret (v := o_high) hx hb hr (fun t ht hW => ⟨⟨o_high, (), rfl, (show (o_high : Int32) = if (o_orientation - o_orientation / 2 * 2) = (0 : Int32) then o_high else o_wide from (by rw [if_pos c6])), by rw [ht]; exact hP9, va_K.moved hW.alike hK9, hD9⟩, hS.F ht⟩) hS.2.2 d_mSheet_down_20

abbrev at_g_mSheet_take (dC : Nat → ClassId) (dI : Nat → Nat → Nat) (h0 : Nat) (o_stride : Int32) (o_dots : Nat) (o_wide : Int32) (o_high : Int32) (o_orientation : Int32) (o_marks : Int32) (o_bytes : Int32) (o_overrun : Int32) (o_ink : Int32) (o_value : Int32) (o_sourceOpaque : Int32) (o_inkOpaque : Int32) (v0 : Int32) (A : Nat → Prop) (u : Int32 × Int32 × Int32) (t : State) : Prop := match u with
  | (z0, z1, z2) => va_P (dC, dI) vcl [(h0, .inr (17, [.int o_stride, .ref o_dots, .int o_wide, .int o_high, .int o_orientation, .int z0, .int z1, .int z2, .int o_ink, .int o_value, .int o_sourceOpaque, .int o_inkOpaque]))] t.heap ∧ va_K (dC, dI) vcl [] t ∧ va_D A [(h0, .inr (17, [.int o_stride, .ref o_dots, .int o_wide, .int o_high, .int o_orientation, .int z0, .int z1, .int z2, .int o_ink, .int o_value, .int o_sourceOpaque, .int o_inkOpaque]))]
abbrev po_g_mSheet_take (h0 : Nat) (o_stride : Int32) (o_dots : Nat) (o_wide : Int32) (o_high : Int32) (o_orientation : Int32) (o_marks : Int32) (o_bytes : Int32) (o_overrun : Int32) (o_ink : Int32) (o_value : Int32) (o_sourceOpaque : Int32) (o_inkOpaque : Int32) (v0 : Int32) (r : Int32) (u : Int32 × Int32 × Int32) : Prop := match u with
  | (z0, z1, z2) => (z0 = if o_marks = (4096 : Int32) then o_marks else (if (o_bytes + v0) ≤ (65536 : Int32) then (o_marks + 1) else o_marks)) ∧ (z1 = if o_marks = (4096 : Int32) then o_bytes else (if (o_bytes + v0) ≤ (65536 : Int32) then (o_bytes + v0) else o_bytes)) ∧ (z2 = if o_marks = (4096 : Int32) then 1 else (if (o_bytes + v0) ≤ (65536 : Int32) then o_overrun else 1)) ∧ (r = if o_marks = (4096 : Int32) then 0 else (if (o_bytes + v0) ≤ (65536 : Int32) then 1 else 0))
abbrev q_g_mSheet_take (dC : Nat → ClassId) (dI : Nat → Nat → Nat) (h0 : Nat) (o_stride : Int32) (o_dots : Nat) (o_wide : Int32) (o_high : Int32) (o_orientation : Int32) (o_marks : Int32) (o_bytes : Int32) (o_overrun : Int32) (o_ink : Int32) (o_value : Int32) (o_sourceOpaque : Int32) (o_inkOpaque : Int32) (v0 : Int32) (A : Nat → Prop) : Array Value → State → Outcome → State → Prop := va_Qi (po_g_mSheet_take h0 o_stride o_dots o_wide o_high o_orientation o_marks o_bytes o_overrun o_ink o_value o_sourceOpaque o_inkOpaque v0) (at_g_mSheet_take dC dI h0 o_stride o_dots o_wide o_high o_orientation o_marks o_bytes o_overrun o_ink o_value o_sourceOpaque o_inkOpaque v0 A) A
abbrev rm_g_mSheet_take : Room := { frames := 0, cells := 0, slots := 0, locals := 0 }
set_option maxHeartbeats 4000000 in
set_option maxRecDepth 100000 in
theorem g_mSheet_take (l : Launch) (dC : Nat → ClassId) (dI : Nat → Nat → Nat) (tt : Nat → Nat) (h0 : Nat) (o_stride : Int32) (o_dots : Nat) (o_wide : Int32) (o_high : Int32) (o_orientation : Int32) (o_marks : Int32) (o_bytes : Int32) (o_overrun : Int32) (o_ink : Int32) (o_value : Int32) (o_sourceOpaque : Int32) (o_inkOpaque : Int32) (v0 : Int32) (sz : Nat)  : Met l y_mSheet_take w_mSheet_take rm_g_mSheet_take (va_Pc [.ref h0, .int v0] (fun U => U.heap.size = sz ∧ va_P (dC, dI) vcl [(h0, .inr (17, [.int o_stride, .ref o_dots, .int o_wide, .int o_high, .int o_orientation, .int o_marks, .int o_bytes, .int o_overrun, .int o_ink, .int o_value, .int o_sourceOpaque, .int o_inkOpaque]))] U.heap ∧ va_K (dC, dI) vcl [] U ∧ va_D (fun _ => True) [(h0, .inr (17, [.int o_stride, .ref o_dots, .int o_wide, .int o_high, .int o_orientation, .int o_marks, .int o_bytes, .int o_overrun, .int o_ink, .int o_value, .int o_sourceOpaque, .int o_inkOpaque]))] ∧ SF tt (va_A [(h0, .inr (17, [.int o_stride, .ref o_dots, .int o_wide, .int o_high, .int o_orientation, .int o_marks, .int o_bytes, .int o_overrun, .int o_ink, .int o_value, .int o_sourceOpaque, .int o_inkOpaque]))] sz) U U.heap)) (q_g_mSheet_take dC dI h0 o_stride o_dots o_wide o_high o_orientation o_marks o_bytes o_overrun o_ink o_value o_sourceOpaque o_inkOpaque v0 (va_A [(h0, .inr (17, [.int o_stride, .ref o_dots, .int o_wide, .int o_high, .int o_orientation, .int o_marks, .int o_bytes, .int o_overrun, .int o_ink, .int o_value, .int o_sourceOpaque, .int o_inkOpaque]))] sz)) 0 0 (va_A [(h0, .inr (17, [.int o_stride, .ref o_dots, .int o_wide, .int o_high, .int o_orientation, .int o_marks, .int o_bytes, .int o_overrun, .int o_ink, .int o_value, .int o_sourceOpaque, .int o_inkOpaque]))] sz) := by
  refine Met.ofW (cc := b_mSheet_take) (maxL := 2) (ret := (some .boolean)) (by decide) rfl ?_
  intro p e s m args below meth c s₁ B hml hv
  obtain ⟨rfl, hsz, hP, hK, hD0, hF⟩ := hv
  have hx := B.exec
  have hb := B.bytes
  have hr := B.returns
  have hwd : ∀ w ∈ gT, w.before _ s = true := fun w h => atoms_spec (ws := w_mSheet_take) B.pre w (List.mem_cons_of_mem _ h)
  have hown : s.vm.findClass R_mSheet = some m.cls := findClass_of_methodNamed B.named
  have hlocks := B.notSynchronized
  subst hsz
  have hD := hD0.self (sz := s.heap.size)
  generalize hAe : va_A [(h0, .inr (17, [.int o_stride, .ref o_dots, .int o_wide, .int o_high, .int o_orientation, .int o_marks, .int o_bytes, .int o_overrun, .int o_ink, .int o_value, .int o_sourceOpaque, .int o_inkOpaque]))] s.heap.size = A at hD hF ⊢
  have hA : ∀ q : Nat, s.heap.size ≤ q → A q := fun q h => by rw [← hAe]; exact Or.inr h
  have hS : va_S A s.heap s.heap [] := va_S.rf
  have hP : va_P (dC, dI) vcl [(h0, .inr (17, [.int o_stride, .ref o_dots, .int o_wide, .int o_high, .int o_orientation, .int o_marks, .int o_bytes, .int o_overrun, .int o_ink, .int o_value, .int o_sourceOpaque, .int o_inkOpaque]))] s.heap := hP
  have hl := lv_entry ([.ref h0, .int v0]) (n := 2) (Nat.le_of_ble_eq_true rfl)
  rw [lg_entry_eq]
  generalize (lg_sl ([.ref h0, .int v0]) ++ List.replicate (2 - (lg_sl ([.ref h0, .int v0])).length) Slot.unset).toArray = ls at hl ⊢
  have hl : lv_has ls 2 [(0, .ref h0), (1, .int v0)] := hl
  refine lv_aload_n hx hb d_mSheet_take_0 rfl (lv_at hl 0 rfl) ?_
  refine va_get (D := (dC, dI)) (ci := 17) (v := .int o_marks) (C := R_mSheet) (T := F_mSheet) (N := 12) hx hb hwd i_mSheet hown hK hP 0 rfl rfl 5 (by decide) (hwd _ wd_11_28) (fun _ h9 => h9) rfl d_mSheet_take_1 ?_
  refine lv_sipush (v := 4096) hx hb d_mSheet_take_4 (by decide) ?_
  refine lv_icmp_eq (tgt := 21) hx hb d_mSheet_take_7 (by decide) (fun c7 => ?_) (fun c7 => ?_)
  · refine lv_aload_n hx hb d_mSheet_take_21 rfl (lv_at hl 0 rfl) ?_
    refine lv_iconst (v := 1) hx hb d_mSheet_take_22 (by decide) ?_
    refine va_put (D := (dC, dI)) (ci := 17) (v := .int 1) (ty := .boolean) (C := R_mSheet) (T := F_mSheet) (N := 12) hx hb hwd i_mSheet t_mSheet to_mSheet no_mSheet hown hK hP hD hS 0 rfl rfl 7 (by decide) (hwd _ wd_11_32) (fun _ h9 => h9) rfl (by decide +kernel) (by decide) rfl (Nat.le_of_ble_eq_true rfl) d_mSheet_take_23 ?_
    clear hP hD hS
    intro H locs hP hD hS
    replace hP : va_P (dC, dI) vcl [(h0, .inr (17, [.int o_stride, .ref o_dots, .int o_wide, .int o_high, .int o_orientation, .int o_marks, .int o_bytes, .int 1, .int o_ink, .int o_value, .int o_sourceOpaque, .int o_inkOpaque]))] H := hP
    replace hD : va_D A [(h0, .inr (17, [.int o_stride, .ref o_dots, .int o_wide, .int o_high, .int o_orientation, .int o_marks, .int o_bytes, .int 1, .int o_ink, .int o_value, .int o_sourceOpaque, .int o_inkOpaque]))] := hD
    refine lv_iconst (v := 0) hx hb d_mSheet_take_26 (by decide) ?_
    have hP9 := hP.sub (ws' := [(h0, .inr (17, [.int o_stride, .ref o_dots, .int o_wide, .int o_high, .int o_orientation, .int o_marks, .int o_bytes, .int 1, .int o_ink, .int o_value, .int o_sourceOpaque, .int o_inkOpaque]))]) [0] rfl
    have hD9 := hD.sub (ws' := [(h0, .inr (17, [.int o_stride, .ref o_dots, .int o_wide, .int o_high, .int o_orientation, .int o_marks, .int o_bytes, .int 1, .int o_ink, .int o_value, .int o_sourceOpaque, .int o_inkOpaque]))]) [0] (by decide) rfl
    have hK9 := hK.sub (tys' := []) [] rfl
    exact W.zret (v := 0) hx hb hr (by decide) (fun t ht hW => ⟨⟨0, (o_marks, o_bytes, 1), rfl, (show ((o_marks : Int32) = if o_marks = (4096 : Int32) then o_marks else (if (o_bytes + v0) ≤ (65536 : Int32) then (o_marks + 1) else o_marks)) ∧ ((o_bytes : Int32) = if o_marks = (4096 : Int32) then o_bytes else (if (o_bytes + v0) ≤ (65536 : Int32) then (o_bytes + v0) else o_bytes)) ∧ ((1 : Int32) = if o_marks = (4096 : Int32) then 1 else (if (o_bytes + v0) ≤ (65536 : Int32) then o_overrun else 1)) ∧ ((0 : Int32) = if o_marks = (4096 : Int32) then 0 else (if (o_bytes + v0) ≤ (65536 : Int32) then 1 else 0)) from (⟨by rw [if_pos c7], by rw [if_pos c7], by rw [if_pos c7], by rw [if_pos c7]⟩)), by rw [ht]; exact hP9, va_K.moved hW.alike hK9, hD9⟩, hS.F ht⟩) hS.2.2 d_mSheet_take_27
  · refine lv_aload_n hx hb d_mSheet_take_10 rfl (lv_at hl 0 rfl) ?_
    refine va_get (D := (dC, dI)) (ci := 17) (v := .int o_bytes) (C := R_mSheet) (T := F_mSheet) (N := 12) hx hb hwd i_mSheet hown hK hP 0 rfl rfl 6 (by decide) (hwd _ wd_11_30) (fun _ h9 => h9) rfl d_mSheet_take_11 ?_
    refine lv_iload_n hx hb d_mSheet_take_14 rfl (lv_at hl 1 rfl) ?_
    refine lv_iadd hx hb d_mSheet_take_15 ?_
    refine lv_ldc hx hb hown (hwd _ wd_13_236) d_mSheet_take_16 ?_
    refine lv_icmp_le (tgt := 28) hx hb d_mSheet_take_18 (by decide) (fun c18 => ?_) (fun c18 => ?_)
    · refine lv_aload_n hx hb d_mSheet_take_28 rfl (lv_at hl 0 rfl) ?_
      refine lv_dup hx hb d_mSheet_take_29 rfl ?_
      refine va_get (D := (dC, dI)) (ci := 17) (v := .int o_marks) (C := R_mSheet) (T := F_mSheet) (N := 12) hx hb hwd i_mSheet hown hK hP 0 rfl rfl 5 (by decide) (hwd _ wd_11_28) (fun _ h9 => h9) rfl d_mSheet_take_30 ?_
      refine lv_iconst (v := 1) hx hb d_mSheet_take_33 (by decide) ?_
      refine lv_iadd hx hb d_mSheet_take_34 ?_
      refine va_put (D := (dC, dI)) (ci := 17) (v := .int (o_marks + 1)) (ty := .int) (C := R_mSheet) (T := F_mSheet) (N := 12) hx hb hwd i_mSheet t_mSheet to_mSheet no_mSheet hown hK hP hD hS 0 rfl rfl 5 (by decide) (hwd _ wd_11_28) (fun _ h9 => h9) rfl (by decide +kernel) rfl rfl (Nat.le_of_ble_eq_true rfl) d_mSheet_take_35 ?_
      clear hP hD hS
      intro H locs hP hD hS
      replace hP : va_P (dC, dI) vcl [(h0, .inr (17, [.int o_stride, .ref o_dots, .int o_wide, .int o_high, .int o_orientation, .int (o_marks + 1), .int o_bytes, .int o_overrun, .int o_ink, .int o_value, .int o_sourceOpaque, .int o_inkOpaque]))] H := hP
      replace hD : va_D A [(h0, .inr (17, [.int o_stride, .ref o_dots, .int o_wide, .int o_high, .int o_orientation, .int (o_marks + 1), .int o_bytes, .int o_overrun, .int o_ink, .int o_value, .int o_sourceOpaque, .int o_inkOpaque]))] := hD
      refine lv_aload_n hx hb d_mSheet_take_38 rfl (lv_at hl 0 rfl) ?_
      refine lv_dup hx hb d_mSheet_take_39 rfl ?_
      refine va_get (D := (dC, dI)) (ci := 17) (v := .int o_bytes) (C := R_mSheet) (T := F_mSheet) (N := 12) hx hb hwd i_mSheet hown hK hP 0 rfl rfl 6 (by decide) (hwd _ wd_11_30) (fun _ h9 => h9) rfl d_mSheet_take_40 ?_
      refine lv_iload_n hx hb d_mSheet_take_43 rfl (lv_at hl 1 rfl) ?_
      refine lv_iadd hx hb d_mSheet_take_44 ?_
      refine va_put (D := (dC, dI)) (ci := 17) (v := .int (o_bytes + v0)) (ty := .int) (C := R_mSheet) (T := F_mSheet) (N := 12) hx hb hwd i_mSheet t_mSheet to_mSheet no_mSheet hown hK hP hD hS 0 rfl rfl 6 (by decide) (hwd _ wd_11_30) (fun _ h9 => h9) rfl (by decide +kernel) rfl rfl (Nat.le_of_ble_eq_true rfl) d_mSheet_take_45 ?_
      clear hP hD hS
      intro H locs hP hD hS
      replace hP : va_P (dC, dI) vcl [(h0, .inr (17, [.int o_stride, .ref o_dots, .int o_wide, .int o_high, .int o_orientation, .int (o_marks + 1), .int (o_bytes + v0), .int o_overrun, .int o_ink, .int o_value, .int o_sourceOpaque, .int o_inkOpaque]))] H := hP
      replace hD : va_D A [(h0, .inr (17, [.int o_stride, .ref o_dots, .int o_wide, .int o_high, .int o_orientation, .int (o_marks + 1), .int (o_bytes + v0), .int o_overrun, .int o_ink, .int o_value, .int o_sourceOpaque, .int o_inkOpaque]))] := hD
      refine lv_iconst (v := 1) hx hb d_mSheet_take_48 (by decide) ?_
      have hP9 := hP.sub (ws' := [(h0, .inr (17, [.int o_stride, .ref o_dots, .int o_wide, .int o_high, .int o_orientation, .int (o_marks + 1), .int (o_bytes + v0), .int o_overrun, .int o_ink, .int o_value, .int o_sourceOpaque, .int o_inkOpaque]))]) [0] rfl
      have hD9 := hD.sub (ws' := [(h0, .inr (17, [.int o_stride, .ref o_dots, .int o_wide, .int o_high, .int o_orientation, .int (o_marks + 1), .int (o_bytes + v0), .int o_overrun, .int o_ink, .int o_value, .int o_sourceOpaque, .int o_inkOpaque]))]) [0] (by decide) rfl
      have hK9 := hK.sub (tys' := []) [] rfl
      exact W.zret (v := 1) hx hb hr (by decide) (fun t ht hW => ⟨⟨1, (o_marks + 1, o_bytes + v0, o_overrun), rfl, (show ((o_marks + 1 : Int32) = if o_marks = (4096 : Int32) then o_marks else (if (o_bytes + v0) ≤ (65536 : Int32) then (o_marks + 1) else o_marks)) ∧ ((o_bytes + v0 : Int32) = if o_marks = (4096 : Int32) then o_bytes else (if (o_bytes + v0) ≤ (65536 : Int32) then (o_bytes + v0) else o_bytes)) ∧ ((o_overrun : Int32) = if o_marks = (4096 : Int32) then 1 else (if (o_bytes + v0) ≤ (65536 : Int32) then o_overrun else 1)) ∧ ((1 : Int32) = if o_marks = (4096 : Int32) then 0 else (if (o_bytes + v0) ≤ (65536 : Int32) then 1 else 0)) from (⟨by rw [if_neg c7, if_pos c18], by rw [if_neg c7, if_pos c18], by rw [if_neg c7, if_pos c18], by rw [if_neg c7, if_pos c18]⟩)), by rw [ht]; exact hP9, va_K.moved hW.alike hK9, hD9⟩, hS.F ht⟩) hS.2.2 d_mSheet_take_49
    · refine lv_aload_n hx hb d_mSheet_take_21 rfl (lv_at hl 0 rfl) ?_
      refine lv_iconst (v := 1) hx hb d_mSheet_take_22 (by decide) ?_
      refine va_put (D := (dC, dI)) (ci := 17) (v := .int 1) (ty := .boolean) (C := R_mSheet) (T := F_mSheet) (N := 12) hx hb hwd i_mSheet t_mSheet to_mSheet no_mSheet hown hK hP hD hS 0 rfl rfl 7 (by decide) (hwd _ wd_11_32) (fun _ h9 => h9) rfl (by decide +kernel) (by decide) rfl (Nat.le_of_ble_eq_true rfl) d_mSheet_take_23 ?_
      clear hP hD hS
      intro H locs hP hD hS
      replace hP : va_P (dC, dI) vcl [(h0, .inr (17, [.int o_stride, .ref o_dots, .int o_wide, .int o_high, .int o_orientation, .int o_marks, .int o_bytes, .int 1, .int o_ink, .int o_value, .int o_sourceOpaque, .int o_inkOpaque]))] H := hP
      replace hD : va_D A [(h0, .inr (17, [.int o_stride, .ref o_dots, .int o_wide, .int o_high, .int o_orientation, .int o_marks, .int o_bytes, .int 1, .int o_ink, .int o_value, .int o_sourceOpaque, .int o_inkOpaque]))] := hD
      refine lv_iconst (v := 0) hx hb d_mSheet_take_26 (by decide) ?_
      have hP9 := hP.sub (ws' := [(h0, .inr (17, [.int o_stride, .ref o_dots, .int o_wide, .int o_high, .int o_orientation, .int o_marks, .int o_bytes, .int 1, .int o_ink, .int o_value, .int o_sourceOpaque, .int o_inkOpaque]))]) [0] rfl
      have hD9 := hD.sub (ws' := [(h0, .inr (17, [.int o_stride, .ref o_dots, .int o_wide, .int o_high, .int o_orientation, .int o_marks, .int o_bytes, .int 1, .int o_ink, .int o_value, .int o_sourceOpaque, .int o_inkOpaque]))]) [0] (by decide) rfl
      have hK9 := hK.sub (tys' := []) [] rfl
      exact W.zret (v := 0) hx hb hr (by decide) (fun t ht hW => ⟨⟨0, (o_marks, o_bytes, 1), rfl, (show ((o_marks : Int32) = if o_marks = (4096 : Int32) then o_marks else (if (o_bytes + v0) ≤ (65536 : Int32) then (o_marks + 1) else o_marks)) ∧ ((o_bytes : Int32) = if o_marks = (4096 : Int32) then o_bytes else (if (o_bytes + v0) ≤ (65536 : Int32) then (o_bytes + v0) else o_bytes)) ∧ ((1 : Int32) = if o_marks = (4096 : Int32) then 1 else (if (o_bytes + v0) ≤ (65536 : Int32) then o_overrun else 1)) ∧ ((0 : Int32) = if o_marks = (4096 : Int32) then 0 else (if (o_bytes + v0) ≤ (65536 : Int32) then 1 else 0)) from (⟨by rw [if_neg c7, if_neg c18], by rw [if_neg c7, if_neg c18], by rw [if_neg c7, if_neg c18], by rw [if_neg c7, if_neg c18]⟩)), by rw [ht]; exact hP9, va_K.moved hW.alike hK9, hD9⟩, hS.F ht⟩) hS.2.2 d_mSheet_take_27

abbrev at_g_mShelf_hand (dC : Nat → ClassId) (dI : Nat → Nat → Nat) (h0 : Nat) (o_thrown : Int32) (o_fonts : Int32) (o_ids : Nat) (o_attributes : Nat) (o_permanent : Nat) (o_glyphs : Int32) (o_glyph : Nat) (o_used : Int32) (o_store : Nat) (o_draft : Nat) (o_wishes : Nat) (o_pins : Nat) (o_id : Int32) (o_code : Int32) (o_loading : Int32) (o_coming : Nat) (o_need : Int32) (o_came : Int32) (o_bytes : Nat) (o_left : Nat) (v0 : Int32) (v1 : Int32) (A : Nat → Prop) (u : Int32 × Int32 × Int32) (t : State) : Prop := match u with
  | (z0, z1, z2) => va_P (dC, dI) vcl [(h0, .inr (18, [.int 0, .int o_fonts, .ref o_ids, .ref o_attributes, .ref o_permanent, .int o_glyphs, .ref o_glyph, .int o_used, .ref o_store, .ref o_draft, .ref o_wishes, .ref o_pins, .int z0, .int z1, .int z2, .ref o_coming, .int o_need, .int o_came, .ref o_bytes, .ref o_left]))] t.heap ∧ va_K (dC, dI) vcl [] t ∧ va_D A [(h0, .inr (18, [.int 0, .int o_fonts, .ref o_ids, .ref o_attributes, .ref o_permanent, .int o_glyphs, .ref o_glyph, .int o_used, .ref o_store, .ref o_draft, .ref o_wishes, .ref o_pins, .int z0, .int z1, .int z2, .ref o_coming, .int o_need, .int o_came, .ref o_bytes, .ref o_left]))]
abbrev po_g_mShelf_hand (h0 : Nat) (o_thrown : Int32) (o_fonts : Int32) (o_ids : Nat) (o_attributes : Nat) (o_permanent : Nat) (o_glyphs : Int32) (o_glyph : Nat) (o_used : Int32) (o_store : Nat) (o_draft : Nat) (o_wishes : Nat) (o_pins : Nat) (o_id : Int32) (o_code : Int32) (o_loading : Int32) (o_coming : Nat) (o_need : Int32) (o_came : Int32) (o_bytes : Nat) (o_left : Nat) (v0 : Int32) (v1 : Int32) (r : Int32) (u : Int32 × Int32 × Int32) : Prop := match u with
  | (z0, z1, z2) => (z0 = if v1 < (0 : Int32) then o_id else (if v0 = (0 : Int32) then (if v1 ≤ (32767 : Int32) then (if v0 = (0 : Int32) then v1 else o_id) else o_id) else (if v1 ≤ (255 : Int32) then (if v0 = (0 : Int32) then v1 else o_id) else o_id))) ∧ (z1 = if v1 < (0 : Int32) then o_code else (if v0 = (0 : Int32) then (if v1 ≤ (32767 : Int32) then (if v0 = (0 : Int32) then o_code else v1) else o_code) else (if v1 ≤ (255 : Int32) then (if v0 = (0 : Int32) then o_code else v1) else o_code))) ∧ (z2 = if v1 < (0 : Int32) then o_loading else (if v0 = (0 : Int32) then (if v1 ≤ (32767 : Int32) then 0 else o_loading) else (if v1 ≤ (255 : Int32) then 0 else o_loading))) ∧ (r = if v1 < (0 : Int32) then 0 else (if v0 = (0 : Int32) then (if v1 ≤ (32767 : Int32) then 1 else 0) else (if v1 ≤ (255 : Int32) then 1 else 0)))
abbrev q_g_mShelf_hand (dC : Nat → ClassId) (dI : Nat → Nat → Nat) (h0 : Nat) (o_thrown : Int32) (o_fonts : Int32) (o_ids : Nat) (o_attributes : Nat) (o_permanent : Nat) (o_glyphs : Int32) (o_glyph : Nat) (o_used : Int32) (o_store : Nat) (o_draft : Nat) (o_wishes : Nat) (o_pins : Nat) (o_id : Int32) (o_code : Int32) (o_loading : Int32) (o_coming : Nat) (o_need : Int32) (o_came : Int32) (o_bytes : Nat) (o_left : Nat) (v0 : Int32) (v1 : Int32) (A : Nat → Prop) : Array Value → State → Outcome → State → Prop := va_Qi (po_g_mShelf_hand h0 o_thrown o_fonts o_ids o_attributes o_permanent o_glyphs o_glyph o_used o_store o_draft o_wishes o_pins o_id o_code o_loading o_coming o_need o_came o_bytes o_left v0 v1) (at_g_mShelf_hand dC dI h0 o_thrown o_fonts o_ids o_attributes o_permanent o_glyphs o_glyph o_used o_store o_draft o_wishes o_pins o_id o_code o_loading o_coming o_need o_came o_bytes o_left v0 v1 A) A
abbrev rm_g_mShelf_hand : Room := { frames := 0, cells := 0, slots := 0, locals := 0 }
set_option maxHeartbeats 4000000 in
set_option maxRecDepth 100000 in
theorem g_mShelf_hand (l : Launch) (dC : Nat → ClassId) (dI : Nat → Nat → Nat) (tt : Nat → Nat) (h0 : Nat) (o_thrown : Int32) (o_fonts : Int32) (o_ids : Nat) (o_attributes : Nat) (o_permanent : Nat) (o_glyphs : Int32) (o_glyph : Nat) (o_used : Int32) (o_store : Nat) (o_draft : Nat) (o_wishes : Nat) (o_pins : Nat) (o_id : Int32) (o_code : Int32) (o_loading : Int32) (o_coming : Nat) (o_need : Int32) (o_came : Int32) (o_bytes : Nat) (o_left : Nat) (v0 : Int32) (v1 : Int32) (sz : Nat)  : Met l y_mShelf_hand w_mShelf_hand rm_g_mShelf_hand (va_Pc [.ref h0, .int v0, .int v1] (fun U => U.heap.size = sz ∧ va_P (dC, dI) vcl [(h0, .inr (18, [.int o_thrown, .int o_fonts, .ref o_ids, .ref o_attributes, .ref o_permanent, .int o_glyphs, .ref o_glyph, .int o_used, .ref o_store, .ref o_draft, .ref o_wishes, .ref o_pins, .int o_id, .int o_code, .int o_loading, .ref o_coming, .int o_need, .int o_came, .ref o_bytes, .ref o_left]))] U.heap ∧ va_K (dC, dI) vcl [] U ∧ va_D (fun _ => True) [(h0, .inr (18, [.int o_thrown, .int o_fonts, .ref o_ids, .ref o_attributes, .ref o_permanent, .int o_glyphs, .ref o_glyph, .int o_used, .ref o_store, .ref o_draft, .ref o_wishes, .ref o_pins, .int o_id, .int o_code, .int o_loading, .ref o_coming, .int o_need, .int o_came, .ref o_bytes, .ref o_left]))] ∧ SF tt (va_A [(h0, .inr (18, [.int o_thrown, .int o_fonts, .ref o_ids, .ref o_attributes, .ref o_permanent, .int o_glyphs, .ref o_glyph, .int o_used, .ref o_store, .ref o_draft, .ref o_wishes, .ref o_pins, .int o_id, .int o_code, .int o_loading, .ref o_coming, .int o_need, .int o_came, .ref o_bytes, .ref o_left]))] sz) U U.heap)) (q_g_mShelf_hand dC dI h0 o_thrown o_fonts o_ids o_attributes o_permanent o_glyphs o_glyph o_used o_store o_draft o_wishes o_pins o_id o_code o_loading o_coming o_need o_came o_bytes o_left v0 v1 (va_A [(h0, .inr (18, [.int o_thrown, .int o_fonts, .ref o_ids, .ref o_attributes, .ref o_permanent, .int o_glyphs, .ref o_glyph, .int o_used, .ref o_store, .ref o_draft, .ref o_wishes, .ref o_pins, .int o_id, .int o_code, .int o_loading, .ref o_coming, .int o_need, .int o_came, .ref o_bytes, .ref o_left]))] sz)) 0 0 (va_A [(h0, .inr (18, [.int o_thrown, .int o_fonts, .ref o_ids, .ref o_attributes, .ref o_permanent, .int o_glyphs, .ref o_glyph, .int o_used, .ref o_store, .ref o_draft, .ref o_wishes, .ref o_pins, .int o_id, .int o_code, .int o_loading, .ref o_coming, .int o_need, .int o_came, .ref o_bytes, .ref o_left]))] sz) := by
  refine Met.ofW (cc := b_mShelf_hand) (maxL := 3) (ret := (some .boolean)) (by decide) rfl ?_
  intro p e s m args below meth c s₁ B hml hv
  obtain ⟨rfl, hsz, hP, hK, hD0, hF⟩ := hv
  have hx := B.exec
  have hb := B.bytes
  have hr := B.returns
  have hwd : ∀ w ∈ gT, w.before _ s = true := fun w h => atoms_spec (ws := w_mShelf_hand) B.pre w (List.mem_cons_of_mem _ h)
  have hown : s.vm.findClass R_mShelf = some m.cls := findClass_of_methodNamed B.named
  have hlocks := B.notSynchronized
  subst hsz
  have hD := hD0.self (sz := s.heap.size)
  generalize hAe : va_A [(h0, .inr (18, [.int o_thrown, .int o_fonts, .ref o_ids, .ref o_attributes, .ref o_permanent, .int o_glyphs, .ref o_glyph, .int o_used, .ref o_store, .ref o_draft, .ref o_wishes, .ref o_pins, .int o_id, .int o_code, .int o_loading, .ref o_coming, .int o_need, .int o_came, .ref o_bytes, .ref o_left]))] s.heap.size = A at hD hF ⊢
  have hA : ∀ q : Nat, s.heap.size ≤ q → A q := fun q h => by rw [← hAe]; exact Or.inr h
  have hS : va_S A s.heap s.heap [] := va_S.rf
  have hP : va_P (dC, dI) vcl [(h0, .inr (18, [.int o_thrown, .int o_fonts, .ref o_ids, .ref o_attributes, .ref o_permanent, .int o_glyphs, .ref o_glyph, .int o_used, .ref o_store, .ref o_draft, .ref o_wishes, .ref o_pins, .int o_id, .int o_code, .int o_loading, .ref o_coming, .int o_need, .int o_came, .ref o_bytes, .ref o_left]))] s.heap := hP
  have hl := lv_entry ([.ref h0, .int v0, .int v1]) (n := 3) (Nat.le_of_ble_eq_true rfl)
  rw [lg_entry_eq]
  generalize (lg_sl ([.ref h0, .int v0, .int v1]) ++ List.replicate (3 - (lg_sl ([.ref h0, .int v0, .int v1])).length) Slot.unset).toArray = ls at hl ⊢
  have hl : lv_has ls 3 [(0, .ref h0), (1, .int v0), (2, .int v1)] := hl
  refine lv_aload_n hx hb d_mShelf_hand_0 rfl (lv_at hl 0 rfl) ?_
  refine lv_iconst (v := 0) hx hb d_mShelf_hand_1 (by decide) ?_
  refine va_put (D := (dC, dI)) (ci := 18) (v := .int 0) (ty := .int) (C := R_mShelf) (T := F_mShelf) (N := 20) hx hb hwd i_mShelf t_mShelf to_mShelf no_mShelf hown hK hP hD hS 0 rfl rfl 0 (by decide) (hwd _ wd_9_203) (fun _ h9 => h9) rfl (by decide +kernel) rfl rfl (Nat.le_of_ble_eq_true rfl) d_mShelf_hand_2 ?_
  clear hP hD hS
  intro H locs hP hD hS
  replace hP : va_P (dC, dI) vcl [(h0, .inr (18, [.int 0, .int o_fonts, .ref o_ids, .ref o_attributes, .ref o_permanent, .int o_glyphs, .ref o_glyph, .int o_used, .ref o_store, .ref o_draft, .ref o_wishes, .ref o_pins, .int o_id, .int o_code, .int o_loading, .ref o_coming, .int o_need, .int o_came, .ref o_bytes, .ref o_left]))] H := hP
  replace hD : va_D A [(h0, .inr (18, [.int 0, .int o_fonts, .ref o_ids, .ref o_attributes, .ref o_permanent, .int o_glyphs, .ref o_glyph, .int o_used, .ref o_store, .ref o_draft, .ref o_wishes, .ref o_pins, .int o_id, .int o_code, .int o_loading, .ref o_coming, .int o_need, .int o_came, .ref o_bytes, .ref o_left]))] := hD
  refine lv_iload_n hx hb d_mShelf_hand_5 rfl (lv_at hl 2 rfl) ?_
  refine lv_if_lt (tgt := 26) hx hb d_mShelf_hand_6 (by decide) (fun c6 => ?_) (fun c6 => ?_)
  · refine lv_iconst (v := 0) hx hb d_mShelf_hand_26 (by decide) ?_
    have hP9 := hP.sub (ws' := [(h0, .inr (18, [.int 0, .int o_fonts, .ref o_ids, .ref o_attributes, .ref o_permanent, .int o_glyphs, .ref o_glyph, .int o_used, .ref o_store, .ref o_draft, .ref o_wishes, .ref o_pins, .int o_id, .int o_code, .int o_loading, .ref o_coming, .int o_need, .int o_came, .ref o_bytes, .ref o_left]))]) [0] rfl
    have hD9 := hD.sub (ws' := [(h0, .inr (18, [.int 0, .int o_fonts, .ref o_ids, .ref o_attributes, .ref o_permanent, .int o_glyphs, .ref o_glyph, .int o_used, .ref o_store, .ref o_draft, .ref o_wishes, .ref o_pins, .int o_id, .int o_code, .int o_loading, .ref o_coming, .int o_need, .int o_came, .ref o_bytes, .ref o_left]))]) [0] (by decide) rfl
    have hK9 := hK.sub (tys' := []) [] rfl
    exact W.zret (v := 0) hx hb hr (by decide) (fun t ht hW => ⟨⟨0, (o_id, o_code, o_loading), rfl, (show ((o_id : Int32) = if v1 < (0 : Int32) then o_id else (if v0 = (0 : Int32) then (if v1 ≤ (32767 : Int32) then (if v0 = (0 : Int32) then v1 else o_id) else o_id) else (if v1 ≤ (255 : Int32) then (if v0 = (0 : Int32) then v1 else o_id) else o_id))) ∧ ((o_code : Int32) = if v1 < (0 : Int32) then o_code else (if v0 = (0 : Int32) then (if v1 ≤ (32767 : Int32) then (if v0 = (0 : Int32) then o_code else v1) else o_code) else (if v1 ≤ (255 : Int32) then (if v0 = (0 : Int32) then o_code else v1) else o_code))) ∧ ((o_loading : Int32) = if v1 < (0 : Int32) then o_loading else (if v0 = (0 : Int32) then (if v1 ≤ (32767 : Int32) then 0 else o_loading) else (if v1 ≤ (255 : Int32) then 0 else o_loading))) ∧ ((0 : Int32) = if v1 < (0 : Int32) then 0 else (if v0 = (0 : Int32) then (if v1 ≤ (32767 : Int32) then 1 else 0) else (if v1 ≤ (255 : Int32) then 1 else 0))) from (⟨by rw [if_pos c6], by rw [if_pos c6], by rw [if_pos c6], by rw [if_pos c6]⟩)), by rw [ht]; exact hP9, va_K.moved hW.alike hK9, hD9⟩, hS.F ht⟩) hS.2.2 d_mShelf_hand_27
  · refine lv_iload_n hx hb d_mShelf_hand_9 rfl (lv_at hl 2 rfl) ?_
    refine lv_iload_n hx hb d_mShelf_hand_10 rfl (lv_at hl 1 rfl) ?_
    refine lv_if_eq (tgt := 20) hx hb d_mShelf_hand_11 (by decide) (fun c11 => ?_) (fun c11 => ?_)
    · refine lv_sipush (v := 32767) hx hb d_mShelf_hand_20 (by decide) ?_
      refine lv_icmp_le (tgt := 28) hx hb d_mShelf_hand_23 (by decide) (fun c23 => ?_) (fun c23 => ?_)
      · refine lv_aload_n hx hb d_mShelf_hand_28 rfl (lv_at hl 0 rfl) ?_
        refine lv_iload_n hx hb d_mShelf_hand_29 rfl (lv_at hl 1 rfl) ?_
        refine lv_if_eq (tgt := 37) hx hb d_mShelf_hand_30 (by decide) (fun c30 => ?_) (fun c30 => ?_)
        · refine lv_aload_n hx hb d_mShelf_hand_37 rfl (lv_at hl 0 rfl) ?_
          refine va_get (D := (dC, dI)) (ci := 18) (v := .int o_code) (C := R_mShelf) (T := F_mShelf) (N := 20) hx hb hwd i_mShelf hown hK hP 0 rfl rfl 13 (by decide) (hwd _ wd_9_222) (fun _ h9 => h9) rfl d_mShelf_hand_38 ?_
          refine va_put (D := (dC, dI)) (ci := 18) (v := .int o_code) (ty := .int) (C := R_mShelf) (T := F_mShelf) (N := 20) hx hb hwd i_mShelf t_mShelf to_mShelf no_mShelf hown hK hP hD hS 0 rfl rfl 13 (by decide) (hwd _ wd_9_222) (fun _ h9 => h9) rfl (by decide +kernel) rfl rfl (Nat.le_of_ble_eq_true rfl) d_mShelf_hand_41 ?_
          clear hP hD hS
          intro H locs hP hD hS
          replace hP : va_P (dC, dI) vcl [(h0, .inr (18, [.int 0, .int o_fonts, .ref o_ids, .ref o_attributes, .ref o_permanent, .int o_glyphs, .ref o_glyph, .int o_used, .ref o_store, .ref o_draft, .ref o_wishes, .ref o_pins, .int o_id, .int o_code, .int o_loading, .ref o_coming, .int o_need, .int o_came, .ref o_bytes, .ref o_left]))] H := hP
          replace hD : va_D A [(h0, .inr (18, [.int 0, .int o_fonts, .ref o_ids, .ref o_attributes, .ref o_permanent, .int o_glyphs, .ref o_glyph, .int o_used, .ref o_store, .ref o_draft, .ref o_wishes, .ref o_pins, .int o_id, .int o_code, .int o_loading, .ref o_coming, .int o_need, .int o_came, .ref o_bytes, .ref o_left]))] := hD
          refine lv_aload_n hx hb d_mShelf_hand_44 rfl (lv_at hl 0 rfl) ?_
          refine lv_iload_n hx hb d_mShelf_hand_45 rfl (lv_at hl 1 rfl) ?_
          refine lv_if_eq (tgt := 56) hx hb d_mShelf_hand_46 (by decide) (fun c46 => ?_) (fun c46 => ?_)
          · refine lv_iload_n hx hb d_mShelf_hand_56 rfl (lv_at hl 2 rfl) ?_
            refine va_put (D := (dC, dI)) (ci := 18) (v := .int v1) (ty := .int) (C := R_mShelf) (T := F_mShelf) (N := 20) hx hb hwd i_mShelf t_mShelf to_mShelf no_mShelf hown hK hP hD hS 0 rfl rfl 12 (by decide) (hwd _ wd_9_221) (fun _ h9 => h9) rfl (by decide +kernel) rfl rfl (Nat.le_of_ble_eq_true rfl) d_mShelf_hand_57 ?_
            clear hP hD hS
            intro H locs hP hD hS
            replace hP : va_P (dC, dI) vcl [(h0, .inr (18, [.int 0, .int o_fonts, .ref o_ids, .ref o_attributes, .ref o_permanent, .int o_glyphs, .ref o_glyph, .int o_used, .ref o_store, .ref o_draft, .ref o_wishes, .ref o_pins, .int v1, .int o_code, .int o_loading, .ref o_coming, .int o_need, .int o_came, .ref o_bytes, .ref o_left]))] H := hP
            replace hD : va_D A [(h0, .inr (18, [.int 0, .int o_fonts, .ref o_ids, .ref o_attributes, .ref o_permanent, .int o_glyphs, .ref o_glyph, .int o_used, .ref o_store, .ref o_draft, .ref o_wishes, .ref o_pins, .int v1, .int o_code, .int o_loading, .ref o_coming, .int o_need, .int o_came, .ref o_bytes, .ref o_left]))] := hD
            refine lv_aload_n hx hb d_mShelf_hand_60 rfl (lv_at hl 0 rfl) ?_
            refine lv_iconst (v := 0) hx hb d_mShelf_hand_61 (by decide) ?_
            refine va_put (D := (dC, dI)) (ci := 18) (v := .int 0) (ty := .boolean) (C := R_mShelf) (T := F_mShelf) (N := 20) hx hb hwd i_mShelf t_mShelf to_mShelf no_mShelf hown hK hP hD hS 0 rfl rfl 14 (by decide) (hwd _ wd_9_223) (fun _ h9 => h9) rfl (by decide +kernel) (by decide) rfl (Nat.le_of_ble_eq_true rfl) d_mShelf_hand_62 ?_
            clear hP hD hS
            intro H locs hP hD hS
            replace hP : va_P (dC, dI) vcl [(h0, .inr (18, [.int 0, .int o_fonts, .ref o_ids, .ref o_attributes, .ref o_permanent, .int o_glyphs, .ref o_glyph, .int o_used, .ref o_store, .ref o_draft, .ref o_wishes, .ref o_pins, .int v1, .int o_code, .int 0, .ref o_coming, .int o_need, .int o_came, .ref o_bytes, .ref o_left]))] H := hP
            replace hD : va_D A [(h0, .inr (18, [.int 0, .int o_fonts, .ref o_ids, .ref o_attributes, .ref o_permanent, .int o_glyphs, .ref o_glyph, .int o_used, .ref o_store, .ref o_draft, .ref o_wishes, .ref o_pins, .int v1, .int o_code, .int 0, .ref o_coming, .int o_need, .int o_came, .ref o_bytes, .ref o_left]))] := hD
            refine lv_iconst (v := 1) hx hb d_mShelf_hand_65 (by decide) ?_
            have hP9 := hP.sub (ws' := [(h0, .inr (18, [.int 0, .int o_fonts, .ref o_ids, .ref o_attributes, .ref o_permanent, .int o_glyphs, .ref o_glyph, .int o_used, .ref o_store, .ref o_draft, .ref o_wishes, .ref o_pins, .int v1, .int o_code, .int 0, .ref o_coming, .int o_need, .int o_came, .ref o_bytes, .ref o_left]))]) [0] rfl
            have hD9 := hD.sub (ws' := [(h0, .inr (18, [.int 0, .int o_fonts, .ref o_ids, .ref o_attributes, .ref o_permanent, .int o_glyphs, .ref o_glyph, .int o_used, .ref o_store, .ref o_draft, .ref o_wishes, .ref o_pins, .int v1, .int o_code, .int 0, .ref o_coming, .int o_need, .int o_came, .ref o_bytes, .ref o_left]))]) [0] (by decide) rfl
            have hK9 := hK.sub (tys' := []) [] rfl
            exact W.zret (v := 1) hx hb hr (by decide) (fun t ht hW => ⟨⟨1, (v1, o_code, 0), rfl, (show ((v1 : Int32) = if v1 < (0 : Int32) then o_id else (if v0 = (0 : Int32) then (if v1 ≤ (32767 : Int32) then (if v0 = (0 : Int32) then v1 else o_id) else o_id) else (if v1 ≤ (255 : Int32) then (if v0 = (0 : Int32) then v1 else o_id) else o_id))) ∧ ((o_code : Int32) = if v1 < (0 : Int32) then o_code else (if v0 = (0 : Int32) then (if v1 ≤ (32767 : Int32) then (if v0 = (0 : Int32) then o_code else v1) else o_code) else (if v1 ≤ (255 : Int32) then (if v0 = (0 : Int32) then o_code else v1) else o_code))) ∧ ((0 : Int32) = if v1 < (0 : Int32) then o_loading else (if v0 = (0 : Int32) then (if v1 ≤ (32767 : Int32) then 0 else o_loading) else (if v1 ≤ (255 : Int32) then 0 else o_loading))) ∧ ((1 : Int32) = if v1 < (0 : Int32) then 0 else (if v0 = (0 : Int32) then (if v1 ≤ (32767 : Int32) then 1 else 0) else (if v1 ≤ (255 : Int32) then 1 else 0))) from (⟨by rw [if_neg c6, if_pos c11, if_pos c23, if_pos c46], by rw [if_neg c6, if_pos c11, if_pos c23, if_pos c30], by rw [if_neg c6, if_pos c11, if_pos c23], by rw [if_neg c6, if_pos c11, if_pos c23]⟩)), by rw [ht]; exact hP9, va_K.moved hW.alike hK9, hD9⟩, hS.F ht⟩) hS.2.2 d_mShelf_hand_66
          · refine lv_aload_n hx hb d_mShelf_hand_49 rfl (lv_at hl 0 rfl) ?_
            refine va_get (D := (dC, dI)) (ci := 18) (v := .int o_id) (C := R_mShelf) (T := F_mShelf) (N := 20) hx hb hwd i_mShelf hown hK hP 0 rfl rfl 12 (by decide) (hwd _ wd_9_221) (fun _ h9 => h9) rfl d_mShelf_hand_50 ?_
            refine lv_goto (tgt := 57) hx hb d_mShelf_hand_53 (by decide) ?_
            refine va_put (D := (dC, dI)) (ci := 18) (v := .int o_id) (ty := .int) (C := R_mShelf) (T := F_mShelf) (N := 20) hx hb hwd i_mShelf t_mShelf to_mShelf no_mShelf hown hK hP hD hS 0 rfl rfl 12 (by decide) (hwd _ wd_9_221) (fun _ h9 => h9) rfl (by decide +kernel) rfl rfl (Nat.le_of_ble_eq_true rfl) d_mShelf_hand_57 ?_
            clear hP hD hS
            intro H locs hP hD hS
            replace hP : va_P (dC, dI) vcl [(h0, .inr (18, [.int 0, .int o_fonts, .ref o_ids, .ref o_attributes, .ref o_permanent, .int o_glyphs, .ref o_glyph, .int o_used, .ref o_store, .ref o_draft, .ref o_wishes, .ref o_pins, .int o_id, .int o_code, .int o_loading, .ref o_coming, .int o_need, .int o_came, .ref o_bytes, .ref o_left]))] H := hP
            replace hD : va_D A [(h0, .inr (18, [.int 0, .int o_fonts, .ref o_ids, .ref o_attributes, .ref o_permanent, .int o_glyphs, .ref o_glyph, .int o_used, .ref o_store, .ref o_draft, .ref o_wishes, .ref o_pins, .int o_id, .int o_code, .int o_loading, .ref o_coming, .int o_need, .int o_came, .ref o_bytes, .ref o_left]))] := hD
            refine lv_aload_n hx hb d_mShelf_hand_60 rfl (lv_at hl 0 rfl) ?_
            refine lv_iconst (v := 0) hx hb d_mShelf_hand_61 (by decide) ?_
            refine va_put (D := (dC, dI)) (ci := 18) (v := .int 0) (ty := .boolean) (C := R_mShelf) (T := F_mShelf) (N := 20) hx hb hwd i_mShelf t_mShelf to_mShelf no_mShelf hown hK hP hD hS 0 rfl rfl 14 (by decide) (hwd _ wd_9_223) (fun _ h9 => h9) rfl (by decide +kernel) (by decide) rfl (Nat.le_of_ble_eq_true rfl) d_mShelf_hand_62 ?_
            clear hP hD hS
            intro H locs hP hD hS
            replace hP : va_P (dC, dI) vcl [(h0, .inr (18, [.int 0, .int o_fonts, .ref o_ids, .ref o_attributes, .ref o_permanent, .int o_glyphs, .ref o_glyph, .int o_used, .ref o_store, .ref o_draft, .ref o_wishes, .ref o_pins, .int o_id, .int o_code, .int 0, .ref o_coming, .int o_need, .int o_came, .ref o_bytes, .ref o_left]))] H := hP
            replace hD : va_D A [(h0, .inr (18, [.int 0, .int o_fonts, .ref o_ids, .ref o_attributes, .ref o_permanent, .int o_glyphs, .ref o_glyph, .int o_used, .ref o_store, .ref o_draft, .ref o_wishes, .ref o_pins, .int o_id, .int o_code, .int 0, .ref o_coming, .int o_need, .int o_came, .ref o_bytes, .ref o_left]))] := hD
            refine lv_iconst (v := 1) hx hb d_mShelf_hand_65 (by decide) ?_
            have hP9 := hP.sub (ws' := [(h0, .inr (18, [.int 0, .int o_fonts, .ref o_ids, .ref o_attributes, .ref o_permanent, .int o_glyphs, .ref o_glyph, .int o_used, .ref o_store, .ref o_draft, .ref o_wishes, .ref o_pins, .int o_id, .int o_code, .int 0, .ref o_coming, .int o_need, .int o_came, .ref o_bytes, .ref o_left]))]) [0] rfl
            have hD9 := hD.sub (ws' := [(h0, .inr (18, [.int 0, .int o_fonts, .ref o_ids, .ref o_attributes, .ref o_permanent, .int o_glyphs, .ref o_glyph, .int o_used, .ref o_store, .ref o_draft, .ref o_wishes, .ref o_pins, .int o_id, .int o_code, .int 0, .ref o_coming, .int o_need, .int o_came, .ref o_bytes, .ref o_left]))]) [0] (by decide) rfl
            have hK9 := hK.sub (tys' := []) [] rfl
            exact W.zret (v := 1) hx hb hr (by decide) (fun t ht hW => ⟨⟨1, (o_id, o_code, 0), rfl, (show ((o_id : Int32) = if v1 < (0 : Int32) then o_id else (if v0 = (0 : Int32) then (if v1 ≤ (32767 : Int32) then (if v0 = (0 : Int32) then v1 else o_id) else o_id) else (if v1 ≤ (255 : Int32) then (if v0 = (0 : Int32) then v1 else o_id) else o_id))) ∧ ((o_code : Int32) = if v1 < (0 : Int32) then o_code else (if v0 = (0 : Int32) then (if v1 ≤ (32767 : Int32) then (if v0 = (0 : Int32) then o_code else v1) else o_code) else (if v1 ≤ (255 : Int32) then (if v0 = (0 : Int32) then o_code else v1) else o_code))) ∧ ((0 : Int32) = if v1 < (0 : Int32) then o_loading else (if v0 = (0 : Int32) then (if v1 ≤ (32767 : Int32) then 0 else o_loading) else (if v1 ≤ (255 : Int32) then 0 else o_loading))) ∧ ((1 : Int32) = if v1 < (0 : Int32) then 0 else (if v0 = (0 : Int32) then (if v1 ≤ (32767 : Int32) then 1 else 0) else (if v1 ≤ (255 : Int32) then 1 else 0))) from (⟨by rw [if_neg c6, if_pos c11, if_pos c23, if_neg c46], by rw [if_neg c6, if_pos c11, if_pos c23, if_pos c30], by rw [if_neg c6, if_pos c11, if_pos c23], by rw [if_neg c6, if_pos c11, if_pos c23]⟩)), by rw [ht]; exact hP9, va_K.moved hW.alike hK9, hD9⟩, hS.F ht⟩) hS.2.2 d_mShelf_hand_66
        · refine lv_iload_n hx hb d_mShelf_hand_33 rfl (lv_at hl 2 rfl) ?_
          refine lv_goto (tgt := 41) hx hb d_mShelf_hand_34 (by decide) ?_
          refine va_put (D := (dC, dI)) (ci := 18) (v := .int v1) (ty := .int) (C := R_mShelf) (T := F_mShelf) (N := 20) hx hb hwd i_mShelf t_mShelf to_mShelf no_mShelf hown hK hP hD hS 0 rfl rfl 13 (by decide) (hwd _ wd_9_222) (fun _ h9 => h9) rfl (by decide +kernel) rfl rfl (Nat.le_of_ble_eq_true rfl) d_mShelf_hand_41 ?_
          clear hP hD hS
          intro H locs hP hD hS
          replace hP : va_P (dC, dI) vcl [(h0, .inr (18, [.int 0, .int o_fonts, .ref o_ids, .ref o_attributes, .ref o_permanent, .int o_glyphs, .ref o_glyph, .int o_used, .ref o_store, .ref o_draft, .ref o_wishes, .ref o_pins, .int o_id, .int v1, .int o_loading, .ref o_coming, .int o_need, .int o_came, .ref o_bytes, .ref o_left]))] H := hP
          replace hD : va_D A [(h0, .inr (18, [.int 0, .int o_fonts, .ref o_ids, .ref o_attributes, .ref o_permanent, .int o_glyphs, .ref o_glyph, .int o_used, .ref o_store, .ref o_draft, .ref o_wishes, .ref o_pins, .int o_id, .int v1, .int o_loading, .ref o_coming, .int o_need, .int o_came, .ref o_bytes, .ref o_left]))] := hD
          refine lv_aload_n hx hb d_mShelf_hand_44 rfl (lv_at hl 0 rfl) ?_
          refine lv_iload_n hx hb d_mShelf_hand_45 rfl (lv_at hl 1 rfl) ?_
          refine lv_if_eq (tgt := 56) hx hb d_mShelf_hand_46 (by decide) (fun c46 => ?_) (fun c46 => ?_)
          · refine lv_iload_n hx hb d_mShelf_hand_56 rfl (lv_at hl 2 rfl) ?_
            refine va_put (D := (dC, dI)) (ci := 18) (v := .int v1) (ty := .int) (C := R_mShelf) (T := F_mShelf) (N := 20) hx hb hwd i_mShelf t_mShelf to_mShelf no_mShelf hown hK hP hD hS 0 rfl rfl 12 (by decide) (hwd _ wd_9_221) (fun _ h9 => h9) rfl (by decide +kernel) rfl rfl (Nat.le_of_ble_eq_true rfl) d_mShelf_hand_57 ?_
            clear hP hD hS
            intro H locs hP hD hS
            replace hP : va_P (dC, dI) vcl [(h0, .inr (18, [.int 0, .int o_fonts, .ref o_ids, .ref o_attributes, .ref o_permanent, .int o_glyphs, .ref o_glyph, .int o_used, .ref o_store, .ref o_draft, .ref o_wishes, .ref o_pins, .int v1, .int v1, .int o_loading, .ref o_coming, .int o_need, .int o_came, .ref o_bytes, .ref o_left]))] H := hP
            replace hD : va_D A [(h0, .inr (18, [.int 0, .int o_fonts, .ref o_ids, .ref o_attributes, .ref o_permanent, .int o_glyphs, .ref o_glyph, .int o_used, .ref o_store, .ref o_draft, .ref o_wishes, .ref o_pins, .int v1, .int v1, .int o_loading, .ref o_coming, .int o_need, .int o_came, .ref o_bytes, .ref o_left]))] := hD
            refine lv_aload_n hx hb d_mShelf_hand_60 rfl (lv_at hl 0 rfl) ?_
            refine lv_iconst (v := 0) hx hb d_mShelf_hand_61 (by decide) ?_
            refine va_put (D := (dC, dI)) (ci := 18) (v := .int 0) (ty := .boolean) (C := R_mShelf) (T := F_mShelf) (N := 20) hx hb hwd i_mShelf t_mShelf to_mShelf no_mShelf hown hK hP hD hS 0 rfl rfl 14 (by decide) (hwd _ wd_9_223) (fun _ h9 => h9) rfl (by decide +kernel) (by decide) rfl (Nat.le_of_ble_eq_true rfl) d_mShelf_hand_62 ?_
            clear hP hD hS
            intro H locs hP hD hS
            replace hP : va_P (dC, dI) vcl [(h0, .inr (18, [.int 0, .int o_fonts, .ref o_ids, .ref o_attributes, .ref o_permanent, .int o_glyphs, .ref o_glyph, .int o_used, .ref o_store, .ref o_draft, .ref o_wishes, .ref o_pins, .int v1, .int v1, .int 0, .ref o_coming, .int o_need, .int o_came, .ref o_bytes, .ref o_left]))] H := hP
            replace hD : va_D A [(h0, .inr (18, [.int 0, .int o_fonts, .ref o_ids, .ref o_attributes, .ref o_permanent, .int o_glyphs, .ref o_glyph, .int o_used, .ref o_store, .ref o_draft, .ref o_wishes, .ref o_pins, .int v1, .int v1, .int 0, .ref o_coming, .int o_need, .int o_came, .ref o_bytes, .ref o_left]))] := hD
            refine lv_iconst (v := 1) hx hb d_mShelf_hand_65 (by decide) ?_
            have hP9 := hP.sub (ws' := [(h0, .inr (18, [.int 0, .int o_fonts, .ref o_ids, .ref o_attributes, .ref o_permanent, .int o_glyphs, .ref o_glyph, .int o_used, .ref o_store, .ref o_draft, .ref o_wishes, .ref o_pins, .int v1, .int v1, .int 0, .ref o_coming, .int o_need, .int o_came, .ref o_bytes, .ref o_left]))]) [0] rfl
            have hD9 := hD.sub (ws' := [(h0, .inr (18, [.int 0, .int o_fonts, .ref o_ids, .ref o_attributes, .ref o_permanent, .int o_glyphs, .ref o_glyph, .int o_used, .ref o_store, .ref o_draft, .ref o_wishes, .ref o_pins, .int v1, .int v1, .int 0, .ref o_coming, .int o_need, .int o_came, .ref o_bytes, .ref o_left]))]) [0] (by decide) rfl
            have hK9 := hK.sub (tys' := []) [] rfl
            exact W.zret (v := 1) hx hb hr (by decide) (fun t ht hW => ⟨⟨1, (v1, v1, 0), rfl, (show ((v1 : Int32) = if v1 < (0 : Int32) then o_id else (if v0 = (0 : Int32) then (if v1 ≤ (32767 : Int32) then (if v0 = (0 : Int32) then v1 else o_id) else o_id) else (if v1 ≤ (255 : Int32) then (if v0 = (0 : Int32) then v1 else o_id) else o_id))) ∧ ((v1 : Int32) = if v1 < (0 : Int32) then o_code else (if v0 = (0 : Int32) then (if v1 ≤ (32767 : Int32) then (if v0 = (0 : Int32) then o_code else v1) else o_code) else (if v1 ≤ (255 : Int32) then (if v0 = (0 : Int32) then o_code else v1) else o_code))) ∧ ((0 : Int32) = if v1 < (0 : Int32) then o_loading else (if v0 = (0 : Int32) then (if v1 ≤ (32767 : Int32) then 0 else o_loading) else (if v1 ≤ (255 : Int32) then 0 else o_loading))) ∧ ((1 : Int32) = if v1 < (0 : Int32) then 0 else (if v0 = (0 : Int32) then (if v1 ≤ (32767 : Int32) then 1 else 0) else (if v1 ≤ (255 : Int32) then 1 else 0))) from (⟨by rw [if_neg c6, if_pos c11, if_pos c23, if_pos c46], by rw [if_neg c6, if_pos c11, if_pos c23, if_neg c30], by rw [if_neg c6, if_pos c11, if_pos c23], by rw [if_neg c6, if_pos c11, if_pos c23]⟩)), by rw [ht]; exact hP9, va_K.moved hW.alike hK9, hD9⟩, hS.F ht⟩) hS.2.2 d_mShelf_hand_66
          · refine lv_aload_n hx hb d_mShelf_hand_49 rfl (lv_at hl 0 rfl) ?_
            refine va_get (D := (dC, dI)) (ci := 18) (v := .int o_id) (C := R_mShelf) (T := F_mShelf) (N := 20) hx hb hwd i_mShelf hown hK hP 0 rfl rfl 12 (by decide) (hwd _ wd_9_221) (fun _ h9 => h9) rfl d_mShelf_hand_50 ?_
            refine lv_goto (tgt := 57) hx hb d_mShelf_hand_53 (by decide) ?_
            refine va_put (D := (dC, dI)) (ci := 18) (v := .int o_id) (ty := .int) (C := R_mShelf) (T := F_mShelf) (N := 20) hx hb hwd i_mShelf t_mShelf to_mShelf no_mShelf hown hK hP hD hS 0 rfl rfl 12 (by decide) (hwd _ wd_9_221) (fun _ h9 => h9) rfl (by decide +kernel) rfl rfl (Nat.le_of_ble_eq_true rfl) d_mShelf_hand_57 ?_
            clear hP hD hS
            intro H locs hP hD hS
            replace hP : va_P (dC, dI) vcl [(h0, .inr (18, [.int 0, .int o_fonts, .ref o_ids, .ref o_attributes, .ref o_permanent, .int o_glyphs, .ref o_glyph, .int o_used, .ref o_store, .ref o_draft, .ref o_wishes, .ref o_pins, .int o_id, .int v1, .int o_loading, .ref o_coming, .int o_need, .int o_came, .ref o_bytes, .ref o_left]))] H := hP
            replace hD : va_D A [(h0, .inr (18, [.int 0, .int o_fonts, .ref o_ids, .ref o_attributes, .ref o_permanent, .int o_glyphs, .ref o_glyph, .int o_used, .ref o_store, .ref o_draft, .ref o_wishes, .ref o_pins, .int o_id, .int v1, .int o_loading, .ref o_coming, .int o_need, .int o_came, .ref o_bytes, .ref o_left]))] := hD
            refine lv_aload_n hx hb d_mShelf_hand_60 rfl (lv_at hl 0 rfl) ?_
            refine lv_iconst (v := 0) hx hb d_mShelf_hand_61 (by decide) ?_
            refine va_put (D := (dC, dI)) (ci := 18) (v := .int 0) (ty := .boolean) (C := R_mShelf) (T := F_mShelf) (N := 20) hx hb hwd i_mShelf t_mShelf to_mShelf no_mShelf hown hK hP hD hS 0 rfl rfl 14 (by decide) (hwd _ wd_9_223) (fun _ h9 => h9) rfl (by decide +kernel) (by decide) rfl (Nat.le_of_ble_eq_true rfl) d_mShelf_hand_62 ?_
            clear hP hD hS
            intro H locs hP hD hS
            replace hP : va_P (dC, dI) vcl [(h0, .inr (18, [.int 0, .int o_fonts, .ref o_ids, .ref o_attributes, .ref o_permanent, .int o_glyphs, .ref o_glyph, .int o_used, .ref o_store, .ref o_draft, .ref o_wishes, .ref o_pins, .int o_id, .int v1, .int 0, .ref o_coming, .int o_need, .int o_came, .ref o_bytes, .ref o_left]))] H := hP
            replace hD : va_D A [(h0, .inr (18, [.int 0, .int o_fonts, .ref o_ids, .ref o_attributes, .ref o_permanent, .int o_glyphs, .ref o_glyph, .int o_used, .ref o_store, .ref o_draft, .ref o_wishes, .ref o_pins, .int o_id, .int v1, .int 0, .ref o_coming, .int o_need, .int o_came, .ref o_bytes, .ref o_left]))] := hD
            refine lv_iconst (v := 1) hx hb d_mShelf_hand_65 (by decide) ?_
            have hP9 := hP.sub (ws' := [(h0, .inr (18, [.int 0, .int o_fonts, .ref o_ids, .ref o_attributes, .ref o_permanent, .int o_glyphs, .ref o_glyph, .int o_used, .ref o_store, .ref o_draft, .ref o_wishes, .ref o_pins, .int o_id, .int v1, .int 0, .ref o_coming, .int o_need, .int o_came, .ref o_bytes, .ref o_left]))]) [0] rfl
            have hD9 := hD.sub (ws' := [(h0, .inr (18, [.int 0, .int o_fonts, .ref o_ids, .ref o_attributes, .ref o_permanent, .int o_glyphs, .ref o_glyph, .int o_used, .ref o_store, .ref o_draft, .ref o_wishes, .ref o_pins, .int o_id, .int v1, .int 0, .ref o_coming, .int o_need, .int o_came, .ref o_bytes, .ref o_left]))]) [0] (by decide) rfl
            have hK9 := hK.sub (tys' := []) [] rfl
            exact W.zret (v := 1) hx hb hr (by decide) (fun t ht hW => ⟨⟨1, (o_id, v1, 0), rfl, (show ((o_id : Int32) = if v1 < (0 : Int32) then o_id else (if v0 = (0 : Int32) then (if v1 ≤ (32767 : Int32) then (if v0 = (0 : Int32) then v1 else o_id) else o_id) else (if v1 ≤ (255 : Int32) then (if v0 = (0 : Int32) then v1 else o_id) else o_id))) ∧ ((v1 : Int32) = if v1 < (0 : Int32) then o_code else (if v0 = (0 : Int32) then (if v1 ≤ (32767 : Int32) then (if v0 = (0 : Int32) then o_code else v1) else o_code) else (if v1 ≤ (255 : Int32) then (if v0 = (0 : Int32) then o_code else v1) else o_code))) ∧ ((0 : Int32) = if v1 < (0 : Int32) then o_loading else (if v0 = (0 : Int32) then (if v1 ≤ (32767 : Int32) then 0 else o_loading) else (if v1 ≤ (255 : Int32) then 0 else o_loading))) ∧ ((1 : Int32) = if v1 < (0 : Int32) then 0 else (if v0 = (0 : Int32) then (if v1 ≤ (32767 : Int32) then 1 else 0) else (if v1 ≤ (255 : Int32) then 1 else 0))) from (⟨by rw [if_neg c6, if_pos c11, if_pos c23, if_neg c46], by rw [if_neg c6, if_pos c11, if_pos c23, if_neg c30], by rw [if_neg c6, if_pos c11, if_pos c23], by rw [if_neg c6, if_pos c11, if_pos c23]⟩)), by rw [ht]; exact hP9, va_K.moved hW.alike hK9, hD9⟩, hS.F ht⟩) hS.2.2 d_mShelf_hand_66
      · refine lv_iconst (v := 0) hx hb d_mShelf_hand_26 (by decide) ?_
        have hP9 := hP.sub (ws' := [(h0, .inr (18, [.int 0, .int o_fonts, .ref o_ids, .ref o_attributes, .ref o_permanent, .int o_glyphs, .ref o_glyph, .int o_used, .ref o_store, .ref o_draft, .ref o_wishes, .ref o_pins, .int o_id, .int o_code, .int o_loading, .ref o_coming, .int o_need, .int o_came, .ref o_bytes, .ref o_left]))]) [0] rfl
        have hD9 := hD.sub (ws' := [(h0, .inr (18, [.int 0, .int o_fonts, .ref o_ids, .ref o_attributes, .ref o_permanent, .int o_glyphs, .ref o_glyph, .int o_used, .ref o_store, .ref o_draft, .ref o_wishes, .ref o_pins, .int o_id, .int o_code, .int o_loading, .ref o_coming, .int o_need, .int o_came, .ref o_bytes, .ref o_left]))]) [0] (by decide) rfl
        have hK9 := hK.sub (tys' := []) [] rfl
        exact W.zret (v := 0) hx hb hr (by decide) (fun t ht hW => ⟨⟨0, (o_id, o_code, o_loading), rfl, (show ((o_id : Int32) = if v1 < (0 : Int32) then o_id else (if v0 = (0 : Int32) then (if v1 ≤ (32767 : Int32) then (if v0 = (0 : Int32) then v1 else o_id) else o_id) else (if v1 ≤ (255 : Int32) then (if v0 = (0 : Int32) then v1 else o_id) else o_id))) ∧ ((o_code : Int32) = if v1 < (0 : Int32) then o_code else (if v0 = (0 : Int32) then (if v1 ≤ (32767 : Int32) then (if v0 = (0 : Int32) then o_code else v1) else o_code) else (if v1 ≤ (255 : Int32) then (if v0 = (0 : Int32) then o_code else v1) else o_code))) ∧ ((o_loading : Int32) = if v1 < (0 : Int32) then o_loading else (if v0 = (0 : Int32) then (if v1 ≤ (32767 : Int32) then 0 else o_loading) else (if v1 ≤ (255 : Int32) then 0 else o_loading))) ∧ ((0 : Int32) = if v1 < (0 : Int32) then 0 else (if v0 = (0 : Int32) then (if v1 ≤ (32767 : Int32) then 1 else 0) else (if v1 ≤ (255 : Int32) then 1 else 0))) from (⟨by rw [if_neg c6, if_pos c11, if_neg c23], by rw [if_neg c6, if_pos c11, if_neg c23], by rw [if_neg c6, if_pos c11, if_neg c23], by rw [if_neg c6, if_pos c11, if_neg c23]⟩)), by rw [ht]; exact hP9, va_K.moved hW.alike hK9, hD9⟩, hS.F ht⟩) hS.2.2 d_mShelf_hand_27
    · refine lv_sipush (v := 255) hx hb d_mShelf_hand_14 (by decide) ?_
      refine lv_goto (tgt := 23) hx hb d_mShelf_hand_17 (by decide) ?_
      refine lv_icmp_le (tgt := 28) hx hb d_mShelf_hand_23 (by decide) (fun c23 => ?_) (fun c23 => ?_)
      · refine lv_aload_n hx hb d_mShelf_hand_28 rfl (lv_at hl 0 rfl) ?_
        refine lv_iload_n hx hb d_mShelf_hand_29 rfl (lv_at hl 1 rfl) ?_
        refine lv_if_eq (tgt := 37) hx hb d_mShelf_hand_30 (by decide) (fun c30 => ?_) (fun c30 => ?_)
        · refine lv_aload_n hx hb d_mShelf_hand_37 rfl (lv_at hl 0 rfl) ?_
          refine va_get (D := (dC, dI)) (ci := 18) (v := .int o_code) (C := R_mShelf) (T := F_mShelf) (N := 20) hx hb hwd i_mShelf hown hK hP 0 rfl rfl 13 (by decide) (hwd _ wd_9_222) (fun _ h9 => h9) rfl d_mShelf_hand_38 ?_
          refine va_put (D := (dC, dI)) (ci := 18) (v := .int o_code) (ty := .int) (C := R_mShelf) (T := F_mShelf) (N := 20) hx hb hwd i_mShelf t_mShelf to_mShelf no_mShelf hown hK hP hD hS 0 rfl rfl 13 (by decide) (hwd _ wd_9_222) (fun _ h9 => h9) rfl (by decide +kernel) rfl rfl (Nat.le_of_ble_eq_true rfl) d_mShelf_hand_41 ?_
          clear hP hD hS
          intro H locs hP hD hS
          replace hP : va_P (dC, dI) vcl [(h0, .inr (18, [.int 0, .int o_fonts, .ref o_ids, .ref o_attributes, .ref o_permanent, .int o_glyphs, .ref o_glyph, .int o_used, .ref o_store, .ref o_draft, .ref o_wishes, .ref o_pins, .int o_id, .int o_code, .int o_loading, .ref o_coming, .int o_need, .int o_came, .ref o_bytes, .ref o_left]))] H := hP
          replace hD : va_D A [(h0, .inr (18, [.int 0, .int o_fonts, .ref o_ids, .ref o_attributes, .ref o_permanent, .int o_glyphs, .ref o_glyph, .int o_used, .ref o_store, .ref o_draft, .ref o_wishes, .ref o_pins, .int o_id, .int o_code, .int o_loading, .ref o_coming, .int o_need, .int o_came, .ref o_bytes, .ref o_left]))] := hD
          refine lv_aload_n hx hb d_mShelf_hand_44 rfl (lv_at hl 0 rfl) ?_
          refine lv_iload_n hx hb d_mShelf_hand_45 rfl (lv_at hl 1 rfl) ?_
          refine lv_if_eq (tgt := 56) hx hb d_mShelf_hand_46 (by decide) (fun c46 => ?_) (fun c46 => ?_)
          · refine lv_iload_n hx hb d_mShelf_hand_56 rfl (lv_at hl 2 rfl) ?_
            refine va_put (D := (dC, dI)) (ci := 18) (v := .int v1) (ty := .int) (C := R_mShelf) (T := F_mShelf) (N := 20) hx hb hwd i_mShelf t_mShelf to_mShelf no_mShelf hown hK hP hD hS 0 rfl rfl 12 (by decide) (hwd _ wd_9_221) (fun _ h9 => h9) rfl (by decide +kernel) rfl rfl (Nat.le_of_ble_eq_true rfl) d_mShelf_hand_57 ?_
            clear hP hD hS
            intro H locs hP hD hS
            replace hP : va_P (dC, dI) vcl [(h0, .inr (18, [.int 0, .int o_fonts, .ref o_ids, .ref o_attributes, .ref o_permanent, .int o_glyphs, .ref o_glyph, .int o_used, .ref o_store, .ref o_draft, .ref o_wishes, .ref o_pins, .int v1, .int o_code, .int o_loading, .ref o_coming, .int o_need, .int o_came, .ref o_bytes, .ref o_left]))] H := hP
            replace hD : va_D A [(h0, .inr (18, [.int 0, .int o_fonts, .ref o_ids, .ref o_attributes, .ref o_permanent, .int o_glyphs, .ref o_glyph, .int o_used, .ref o_store, .ref o_draft, .ref o_wishes, .ref o_pins, .int v1, .int o_code, .int o_loading, .ref o_coming, .int o_need, .int o_came, .ref o_bytes, .ref o_left]))] := hD
            refine lv_aload_n hx hb d_mShelf_hand_60 rfl (lv_at hl 0 rfl) ?_
            refine lv_iconst (v := 0) hx hb d_mShelf_hand_61 (by decide) ?_
            refine va_put (D := (dC, dI)) (ci := 18) (v := .int 0) (ty := .boolean) (C := R_mShelf) (T := F_mShelf) (N := 20) hx hb hwd i_mShelf t_mShelf to_mShelf no_mShelf hown hK hP hD hS 0 rfl rfl 14 (by decide) (hwd _ wd_9_223) (fun _ h9 => h9) rfl (by decide +kernel) (by decide) rfl (Nat.le_of_ble_eq_true rfl) d_mShelf_hand_62 ?_
            clear hP hD hS
            intro H locs hP hD hS
            replace hP : va_P (dC, dI) vcl [(h0, .inr (18, [.int 0, .int o_fonts, .ref o_ids, .ref o_attributes, .ref o_permanent, .int o_glyphs, .ref o_glyph, .int o_used, .ref o_store, .ref o_draft, .ref o_wishes, .ref o_pins, .int v1, .int o_code, .int 0, .ref o_coming, .int o_need, .int o_came, .ref o_bytes, .ref o_left]))] H := hP
            replace hD : va_D A [(h0, .inr (18, [.int 0, .int o_fonts, .ref o_ids, .ref o_attributes, .ref o_permanent, .int o_glyphs, .ref o_glyph, .int o_used, .ref o_store, .ref o_draft, .ref o_wishes, .ref o_pins, .int v1, .int o_code, .int 0, .ref o_coming, .int o_need, .int o_came, .ref o_bytes, .ref o_left]))] := hD
            refine lv_iconst (v := 1) hx hb d_mShelf_hand_65 (by decide) ?_
            have hP9 := hP.sub (ws' := [(h0, .inr (18, [.int 0, .int o_fonts, .ref o_ids, .ref o_attributes, .ref o_permanent, .int o_glyphs, .ref o_glyph, .int o_used, .ref o_store, .ref o_draft, .ref o_wishes, .ref o_pins, .int v1, .int o_code, .int 0, .ref o_coming, .int o_need, .int o_came, .ref o_bytes, .ref o_left]))]) [0] rfl
            have hD9 := hD.sub (ws' := [(h0, .inr (18, [.int 0, .int o_fonts, .ref o_ids, .ref o_attributes, .ref o_permanent, .int o_glyphs, .ref o_glyph, .int o_used, .ref o_store, .ref o_draft, .ref o_wishes, .ref o_pins, .int v1, .int o_code, .int 0, .ref o_coming, .int o_need, .int o_came, .ref o_bytes, .ref o_left]))]) [0] (by decide) rfl
            have hK9 := hK.sub (tys' := []) [] rfl
            exact W.zret (v := 1) hx hb hr (by decide) (fun t ht hW => ⟨⟨1, (v1, o_code, 0), rfl, (show ((v1 : Int32) = if v1 < (0 : Int32) then o_id else (if v0 = (0 : Int32) then (if v1 ≤ (32767 : Int32) then (if v0 = (0 : Int32) then v1 else o_id) else o_id) else (if v1 ≤ (255 : Int32) then (if v0 = (0 : Int32) then v1 else o_id) else o_id))) ∧ ((o_code : Int32) = if v1 < (0 : Int32) then o_code else (if v0 = (0 : Int32) then (if v1 ≤ (32767 : Int32) then (if v0 = (0 : Int32) then o_code else v1) else o_code) else (if v1 ≤ (255 : Int32) then (if v0 = (0 : Int32) then o_code else v1) else o_code))) ∧ ((0 : Int32) = if v1 < (0 : Int32) then o_loading else (if v0 = (0 : Int32) then (if v1 ≤ (32767 : Int32) then 0 else o_loading) else (if v1 ≤ (255 : Int32) then 0 else o_loading))) ∧ ((1 : Int32) = if v1 < (0 : Int32) then 0 else (if v0 = (0 : Int32) then (if v1 ≤ (32767 : Int32) then 1 else 0) else (if v1 ≤ (255 : Int32) then 1 else 0))) from (⟨by rw [if_neg c6, if_neg c11, if_pos c23, if_pos c46], by rw [if_neg c6, if_neg c11, if_pos c23, if_pos c30], by rw [if_neg c6, if_neg c11, if_pos c23], by rw [if_neg c6, if_neg c11, if_pos c23]⟩)), by rw [ht]; exact hP9, va_K.moved hW.alike hK9, hD9⟩, hS.F ht⟩) hS.2.2 d_mShelf_hand_66
          · refine lv_aload_n hx hb d_mShelf_hand_49 rfl (lv_at hl 0 rfl) ?_
            refine va_get (D := (dC, dI)) (ci := 18) (v := .int o_id) (C := R_mShelf) (T := F_mShelf) (N := 20) hx hb hwd i_mShelf hown hK hP 0 rfl rfl 12 (by decide) (hwd _ wd_9_221) (fun _ h9 => h9) rfl d_mShelf_hand_50 ?_
            refine lv_goto (tgt := 57) hx hb d_mShelf_hand_53 (by decide) ?_
            refine va_put (D := (dC, dI)) (ci := 18) (v := .int o_id) (ty := .int) (C := R_mShelf) (T := F_mShelf) (N := 20) hx hb hwd i_mShelf t_mShelf to_mShelf no_mShelf hown hK hP hD hS 0 rfl rfl 12 (by decide) (hwd _ wd_9_221) (fun _ h9 => h9) rfl (by decide +kernel) rfl rfl (Nat.le_of_ble_eq_true rfl) d_mShelf_hand_57 ?_
            clear hP hD hS
            intro H locs hP hD hS
            replace hP : va_P (dC, dI) vcl [(h0, .inr (18, [.int 0, .int o_fonts, .ref o_ids, .ref o_attributes, .ref o_permanent, .int o_glyphs, .ref o_glyph, .int o_used, .ref o_store, .ref o_draft, .ref o_wishes, .ref o_pins, .int o_id, .int o_code, .int o_loading, .ref o_coming, .int o_need, .int o_came, .ref o_bytes, .ref o_left]))] H := hP
            replace hD : va_D A [(h0, .inr (18, [.int 0, .int o_fonts, .ref o_ids, .ref o_attributes, .ref o_permanent, .int o_glyphs, .ref o_glyph, .int o_used, .ref o_store, .ref o_draft, .ref o_wishes, .ref o_pins, .int o_id, .int o_code, .int o_loading, .ref o_coming, .int o_need, .int o_came, .ref o_bytes, .ref o_left]))] := hD
            refine lv_aload_n hx hb d_mShelf_hand_60 rfl (lv_at hl 0 rfl) ?_
            refine lv_iconst (v := 0) hx hb d_mShelf_hand_61 (by decide) ?_
            refine va_put (D := (dC, dI)) (ci := 18) (v := .int 0) (ty := .boolean) (C := R_mShelf) (T := F_mShelf) (N := 20) hx hb hwd i_mShelf t_mShelf to_mShelf no_mShelf hown hK hP hD hS 0 rfl rfl 14 (by decide) (hwd _ wd_9_223) (fun _ h9 => h9) rfl (by decide +kernel) (by decide) rfl (Nat.le_of_ble_eq_true rfl) d_mShelf_hand_62 ?_
            clear hP hD hS
            intro H locs hP hD hS
            replace hP : va_P (dC, dI) vcl [(h0, .inr (18, [.int 0, .int o_fonts, .ref o_ids, .ref o_attributes, .ref o_permanent, .int o_glyphs, .ref o_glyph, .int o_used, .ref o_store, .ref o_draft, .ref o_wishes, .ref o_pins, .int o_id, .int o_code, .int 0, .ref o_coming, .int o_need, .int o_came, .ref o_bytes, .ref o_left]))] H := hP
            replace hD : va_D A [(h0, .inr (18, [.int 0, .int o_fonts, .ref o_ids, .ref o_attributes, .ref o_permanent, .int o_glyphs, .ref o_glyph, .int o_used, .ref o_store, .ref o_draft, .ref o_wishes, .ref o_pins, .int o_id, .int o_code, .int 0, .ref o_coming, .int o_need, .int o_came, .ref o_bytes, .ref o_left]))] := hD
            refine lv_iconst (v := 1) hx hb d_mShelf_hand_65 (by decide) ?_
            have hP9 := hP.sub (ws' := [(h0, .inr (18, [.int 0, .int o_fonts, .ref o_ids, .ref o_attributes, .ref o_permanent, .int o_glyphs, .ref o_glyph, .int o_used, .ref o_store, .ref o_draft, .ref o_wishes, .ref o_pins, .int o_id, .int o_code, .int 0, .ref o_coming, .int o_need, .int o_came, .ref o_bytes, .ref o_left]))]) [0] rfl
            have hD9 := hD.sub (ws' := [(h0, .inr (18, [.int 0, .int o_fonts, .ref o_ids, .ref o_attributes, .ref o_permanent, .int o_glyphs, .ref o_glyph, .int o_used, .ref o_store, .ref o_draft, .ref o_wishes, .ref o_pins, .int o_id, .int o_code, .int 0, .ref o_coming, .int o_need, .int o_came, .ref o_bytes, .ref o_left]))]) [0] (by decide) rfl
            have hK9 := hK.sub (tys' := []) [] rfl
            exact W.zret (v := 1) hx hb hr (by decide) (fun t ht hW => ⟨⟨1, (o_id, o_code, 0), rfl, (show ((o_id : Int32) = if v1 < (0 : Int32) then o_id else (if v0 = (0 : Int32) then (if v1 ≤ (32767 : Int32) then (if v0 = (0 : Int32) then v1 else o_id) else o_id) else (if v1 ≤ (255 : Int32) then (if v0 = (0 : Int32) then v1 else o_id) else o_id))) ∧ ((o_code : Int32) = if v1 < (0 : Int32) then o_code else (if v0 = (0 : Int32) then (if v1 ≤ (32767 : Int32) then (if v0 = (0 : Int32) then o_code else v1) else o_code) else (if v1 ≤ (255 : Int32) then (if v0 = (0 : Int32) then o_code else v1) else o_code))) ∧ ((0 : Int32) = if v1 < (0 : Int32) then o_loading else (if v0 = (0 : Int32) then (if v1 ≤ (32767 : Int32) then 0 else o_loading) else (if v1 ≤ (255 : Int32) then 0 else o_loading))) ∧ ((1 : Int32) = if v1 < (0 : Int32) then 0 else (if v0 = (0 : Int32) then (if v1 ≤ (32767 : Int32) then 1 else 0) else (if v1 ≤ (255 : Int32) then 1 else 0))) from (⟨by rw [if_neg c6, if_neg c11, if_pos c23, if_neg c46], by rw [if_neg c6, if_neg c11, if_pos c23, if_pos c30], by rw [if_neg c6, if_neg c11, if_pos c23], by rw [if_neg c6, if_neg c11, if_pos c23]⟩)), by rw [ht]; exact hP9, va_K.moved hW.alike hK9, hD9⟩, hS.F ht⟩) hS.2.2 d_mShelf_hand_66
        · refine lv_iload_n hx hb d_mShelf_hand_33 rfl (lv_at hl 2 rfl) ?_
          refine lv_goto (tgt := 41) hx hb d_mShelf_hand_34 (by decide) ?_
          refine va_put (D := (dC, dI)) (ci := 18) (v := .int v1) (ty := .int) (C := R_mShelf) (T := F_mShelf) (N := 20) hx hb hwd i_mShelf t_mShelf to_mShelf no_mShelf hown hK hP hD hS 0 rfl rfl 13 (by decide) (hwd _ wd_9_222) (fun _ h9 => h9) rfl (by decide +kernel) rfl rfl (Nat.le_of_ble_eq_true rfl) d_mShelf_hand_41 ?_
          clear hP hD hS
          intro H locs hP hD hS
          replace hP : va_P (dC, dI) vcl [(h0, .inr (18, [.int 0, .int o_fonts, .ref o_ids, .ref o_attributes, .ref o_permanent, .int o_glyphs, .ref o_glyph, .int o_used, .ref o_store, .ref o_draft, .ref o_wishes, .ref o_pins, .int o_id, .int v1, .int o_loading, .ref o_coming, .int o_need, .int o_came, .ref o_bytes, .ref o_left]))] H := hP
          replace hD : va_D A [(h0, .inr (18, [.int 0, .int o_fonts, .ref o_ids, .ref o_attributes, .ref o_permanent, .int o_glyphs, .ref o_glyph, .int o_used, .ref o_store, .ref o_draft, .ref o_wishes, .ref o_pins, .int o_id, .int v1, .int o_loading, .ref o_coming, .int o_need, .int o_came, .ref o_bytes, .ref o_left]))] := hD
          refine lv_aload_n hx hb d_mShelf_hand_44 rfl (lv_at hl 0 rfl) ?_
          refine lv_iload_n hx hb d_mShelf_hand_45 rfl (lv_at hl 1 rfl) ?_
          refine lv_if_eq (tgt := 56) hx hb d_mShelf_hand_46 (by decide) (fun c46 => ?_) (fun c46 => ?_)
          · refine lv_iload_n hx hb d_mShelf_hand_56 rfl (lv_at hl 2 rfl) ?_
            refine va_put (D := (dC, dI)) (ci := 18) (v := .int v1) (ty := .int) (C := R_mShelf) (T := F_mShelf) (N := 20) hx hb hwd i_mShelf t_mShelf to_mShelf no_mShelf hown hK hP hD hS 0 rfl rfl 12 (by decide) (hwd _ wd_9_221) (fun _ h9 => h9) rfl (by decide +kernel) rfl rfl (Nat.le_of_ble_eq_true rfl) d_mShelf_hand_57 ?_
            clear hP hD hS
            intro H locs hP hD hS
            replace hP : va_P (dC, dI) vcl [(h0, .inr (18, [.int 0, .int o_fonts, .ref o_ids, .ref o_attributes, .ref o_permanent, .int o_glyphs, .ref o_glyph, .int o_used, .ref o_store, .ref o_draft, .ref o_wishes, .ref o_pins, .int v1, .int v1, .int o_loading, .ref o_coming, .int o_need, .int o_came, .ref o_bytes, .ref o_left]))] H := hP
            replace hD : va_D A [(h0, .inr (18, [.int 0, .int o_fonts, .ref o_ids, .ref o_attributes, .ref o_permanent, .int o_glyphs, .ref o_glyph, .int o_used, .ref o_store, .ref o_draft, .ref o_wishes, .ref o_pins, .int v1, .int v1, .int o_loading, .ref o_coming, .int o_need, .int o_came, .ref o_bytes, .ref o_left]))] := hD
            refine lv_aload_n hx hb d_mShelf_hand_60 rfl (lv_at hl 0 rfl) ?_
            refine lv_iconst (v := 0) hx hb d_mShelf_hand_61 (by decide) ?_
            refine va_put (D := (dC, dI)) (ci := 18) (v := .int 0) (ty := .boolean) (C := R_mShelf) (T := F_mShelf) (N := 20) hx hb hwd i_mShelf t_mShelf to_mShelf no_mShelf hown hK hP hD hS 0 rfl rfl 14 (by decide) (hwd _ wd_9_223) (fun _ h9 => h9) rfl (by decide +kernel) (by decide) rfl (Nat.le_of_ble_eq_true rfl) d_mShelf_hand_62 ?_
            clear hP hD hS
            intro H locs hP hD hS
            replace hP : va_P (dC, dI) vcl [(h0, .inr (18, [.int 0, .int o_fonts, .ref o_ids, .ref o_attributes, .ref o_permanent, .int o_glyphs, .ref o_glyph, .int o_used, .ref o_store, .ref o_draft, .ref o_wishes, .ref o_pins, .int v1, .int v1, .int 0, .ref o_coming, .int o_need, .int o_came, .ref o_bytes, .ref o_left]))] H := hP
            replace hD : va_D A [(h0, .inr (18, [.int 0, .int o_fonts, .ref o_ids, .ref o_attributes, .ref o_permanent, .int o_glyphs, .ref o_glyph, .int o_used, .ref o_store, .ref o_draft, .ref o_wishes, .ref o_pins, .int v1, .int v1, .int 0, .ref o_coming, .int o_need, .int o_came, .ref o_bytes, .ref o_left]))] := hD
            refine lv_iconst (v := 1) hx hb d_mShelf_hand_65 (by decide) ?_
            have hP9 := hP.sub (ws' := [(h0, .inr (18, [.int 0, .int o_fonts, .ref o_ids, .ref o_attributes, .ref o_permanent, .int o_glyphs, .ref o_glyph, .int o_used, .ref o_store, .ref o_draft, .ref o_wishes, .ref o_pins, .int v1, .int v1, .int 0, .ref o_coming, .int o_need, .int o_came, .ref o_bytes, .ref o_left]))]) [0] rfl
            have hD9 := hD.sub (ws' := [(h0, .inr (18, [.int 0, .int o_fonts, .ref o_ids, .ref o_attributes, .ref o_permanent, .int o_glyphs, .ref o_glyph, .int o_used, .ref o_store, .ref o_draft, .ref o_wishes, .ref o_pins, .int v1, .int v1, .int 0, .ref o_coming, .int o_need, .int o_came, .ref o_bytes, .ref o_left]))]) [0] (by decide) rfl
            have hK9 := hK.sub (tys' := []) [] rfl
            exact W.zret (v := 1) hx hb hr (by decide) (fun t ht hW => ⟨⟨1, (v1, v1, 0), rfl, (show ((v1 : Int32) = if v1 < (0 : Int32) then o_id else (if v0 = (0 : Int32) then (if v1 ≤ (32767 : Int32) then (if v0 = (0 : Int32) then v1 else o_id) else o_id) else (if v1 ≤ (255 : Int32) then (if v0 = (0 : Int32) then v1 else o_id) else o_id))) ∧ ((v1 : Int32) = if v1 < (0 : Int32) then o_code else (if v0 = (0 : Int32) then (if v1 ≤ (32767 : Int32) then (if v0 = (0 : Int32) then o_code else v1) else o_code) else (if v1 ≤ (255 : Int32) then (if v0 = (0 : Int32) then o_code else v1) else o_code))) ∧ ((0 : Int32) = if v1 < (0 : Int32) then o_loading else (if v0 = (0 : Int32) then (if v1 ≤ (32767 : Int32) then 0 else o_loading) else (if v1 ≤ (255 : Int32) then 0 else o_loading))) ∧ ((1 : Int32) = if v1 < (0 : Int32) then 0 else (if v0 = (0 : Int32) then (if v1 ≤ (32767 : Int32) then 1 else 0) else (if v1 ≤ (255 : Int32) then 1 else 0))) from (⟨by rw [if_neg c6, if_neg c11, if_pos c23, if_pos c46], by rw [if_neg c6, if_neg c11, if_pos c23, if_neg c30], by rw [if_neg c6, if_neg c11, if_pos c23], by rw [if_neg c6, if_neg c11, if_pos c23]⟩)), by rw [ht]; exact hP9, va_K.moved hW.alike hK9, hD9⟩, hS.F ht⟩) hS.2.2 d_mShelf_hand_66
          · refine lv_aload_n hx hb d_mShelf_hand_49 rfl (lv_at hl 0 rfl) ?_
            refine va_get (D := (dC, dI)) (ci := 18) (v := .int o_id) (C := R_mShelf) (T := F_mShelf) (N := 20) hx hb hwd i_mShelf hown hK hP 0 rfl rfl 12 (by decide) (hwd _ wd_9_221) (fun _ h9 => h9) rfl d_mShelf_hand_50 ?_
            refine lv_goto (tgt := 57) hx hb d_mShelf_hand_53 (by decide) ?_
            refine va_put (D := (dC, dI)) (ci := 18) (v := .int o_id) (ty := .int) (C := R_mShelf) (T := F_mShelf) (N := 20) hx hb hwd i_mShelf t_mShelf to_mShelf no_mShelf hown hK hP hD hS 0 rfl rfl 12 (by decide) (hwd _ wd_9_221) (fun _ h9 => h9) rfl (by decide +kernel) rfl rfl (Nat.le_of_ble_eq_true rfl) d_mShelf_hand_57 ?_
            clear hP hD hS
            intro H locs hP hD hS
            replace hP : va_P (dC, dI) vcl [(h0, .inr (18, [.int 0, .int o_fonts, .ref o_ids, .ref o_attributes, .ref o_permanent, .int o_glyphs, .ref o_glyph, .int o_used, .ref o_store, .ref o_draft, .ref o_wishes, .ref o_pins, .int o_id, .int v1, .int o_loading, .ref o_coming, .int o_need, .int o_came, .ref o_bytes, .ref o_left]))] H := hP
            replace hD : va_D A [(h0, .inr (18, [.int 0, .int o_fonts, .ref o_ids, .ref o_attributes, .ref o_permanent, .int o_glyphs, .ref o_glyph, .int o_used, .ref o_store, .ref o_draft, .ref o_wishes, .ref o_pins, .int o_id, .int v1, .int o_loading, .ref o_coming, .int o_need, .int o_came, .ref o_bytes, .ref o_left]))] := hD
            refine lv_aload_n hx hb d_mShelf_hand_60 rfl (lv_at hl 0 rfl) ?_
            refine lv_iconst (v := 0) hx hb d_mShelf_hand_61 (by decide) ?_
            refine va_put (D := (dC, dI)) (ci := 18) (v := .int 0) (ty := .boolean) (C := R_mShelf) (T := F_mShelf) (N := 20) hx hb hwd i_mShelf t_mShelf to_mShelf no_mShelf hown hK hP hD hS 0 rfl rfl 14 (by decide) (hwd _ wd_9_223) (fun _ h9 => h9) rfl (by decide +kernel) (by decide) rfl (Nat.le_of_ble_eq_true rfl) d_mShelf_hand_62 ?_
            clear hP hD hS
            intro H locs hP hD hS
            replace hP : va_P (dC, dI) vcl [(h0, .inr (18, [.int 0, .int o_fonts, .ref o_ids, .ref o_attributes, .ref o_permanent, .int o_glyphs, .ref o_glyph, .int o_used, .ref o_store, .ref o_draft, .ref o_wishes, .ref o_pins, .int o_id, .int v1, .int 0, .ref o_coming, .int o_need, .int o_came, .ref o_bytes, .ref o_left]))] H := hP
            replace hD : va_D A [(h0, .inr (18, [.int 0, .int o_fonts, .ref o_ids, .ref o_attributes, .ref o_permanent, .int o_glyphs, .ref o_glyph, .int o_used, .ref o_store, .ref o_draft, .ref o_wishes, .ref o_pins, .int o_id, .int v1, .int 0, .ref o_coming, .int o_need, .int o_came, .ref o_bytes, .ref o_left]))] := hD
            refine lv_iconst (v := 1) hx hb d_mShelf_hand_65 (by decide) ?_
            have hP9 := hP.sub (ws' := [(h0, .inr (18, [.int 0, .int o_fonts, .ref o_ids, .ref o_attributes, .ref o_permanent, .int o_glyphs, .ref o_glyph, .int o_used, .ref o_store, .ref o_draft, .ref o_wishes, .ref o_pins, .int o_id, .int v1, .int 0, .ref o_coming, .int o_need, .int o_came, .ref o_bytes, .ref o_left]))]) [0] rfl
            have hD9 := hD.sub (ws' := [(h0, .inr (18, [.int 0, .int o_fonts, .ref o_ids, .ref o_attributes, .ref o_permanent, .int o_glyphs, .ref o_glyph, .int o_used, .ref o_store, .ref o_draft, .ref o_wishes, .ref o_pins, .int o_id, .int v1, .int 0, .ref o_coming, .int o_need, .int o_came, .ref o_bytes, .ref o_left]))]) [0] (by decide) rfl
            have hK9 := hK.sub (tys' := []) [] rfl
            exact W.zret (v := 1) hx hb hr (by decide) (fun t ht hW => ⟨⟨1, (o_id, v1, 0), rfl, (show ((o_id : Int32) = if v1 < (0 : Int32) then o_id else (if v0 = (0 : Int32) then (if v1 ≤ (32767 : Int32) then (if v0 = (0 : Int32) then v1 else o_id) else o_id) else (if v1 ≤ (255 : Int32) then (if v0 = (0 : Int32) then v1 else o_id) else o_id))) ∧ ((v1 : Int32) = if v1 < (0 : Int32) then o_code else (if v0 = (0 : Int32) then (if v1 ≤ (32767 : Int32) then (if v0 = (0 : Int32) then o_code else v1) else o_code) else (if v1 ≤ (255 : Int32) then (if v0 = (0 : Int32) then o_code else v1) else o_code))) ∧ ((0 : Int32) = if v1 < (0 : Int32) then o_loading else (if v0 = (0 : Int32) then (if v1 ≤ (32767 : Int32) then 0 else o_loading) else (if v1 ≤ (255 : Int32) then 0 else o_loading))) ∧ ((1 : Int32) = if v1 < (0 : Int32) then 0 else (if v0 = (0 : Int32) then (if v1 ≤ (32767 : Int32) then 1 else 0) else (if v1 ≤ (255 : Int32) then 1 else 0))) from (⟨by rw [if_neg c6, if_neg c11, if_pos c23, if_neg c46], by rw [if_neg c6, if_neg c11, if_pos c23, if_neg c30], by rw [if_neg c6, if_neg c11, if_pos c23], by rw [if_neg c6, if_neg c11, if_pos c23]⟩)), by rw [ht]; exact hP9, va_K.moved hW.alike hK9, hD9⟩, hS.F ht⟩) hS.2.2 d_mShelf_hand_66
      · refine lv_iconst (v := 0) hx hb d_mShelf_hand_26 (by decide) ?_
        have hP9 := hP.sub (ws' := [(h0, .inr (18, [.int 0, .int o_fonts, .ref o_ids, .ref o_attributes, .ref o_permanent, .int o_glyphs, .ref o_glyph, .int o_used, .ref o_store, .ref o_draft, .ref o_wishes, .ref o_pins, .int o_id, .int o_code, .int o_loading, .ref o_coming, .int o_need, .int o_came, .ref o_bytes, .ref o_left]))]) [0] rfl
        have hD9 := hD.sub (ws' := [(h0, .inr (18, [.int 0, .int o_fonts, .ref o_ids, .ref o_attributes, .ref o_permanent, .int o_glyphs, .ref o_glyph, .int o_used, .ref o_store, .ref o_draft, .ref o_wishes, .ref o_pins, .int o_id, .int o_code, .int o_loading, .ref o_coming, .int o_need, .int o_came, .ref o_bytes, .ref o_left]))]) [0] (by decide) rfl
        have hK9 := hK.sub (tys' := []) [] rfl
        exact W.zret (v := 0) hx hb hr (by decide) (fun t ht hW => ⟨⟨0, (o_id, o_code, o_loading), rfl, (show ((o_id : Int32) = if v1 < (0 : Int32) then o_id else (if v0 = (0 : Int32) then (if v1 ≤ (32767 : Int32) then (if v0 = (0 : Int32) then v1 else o_id) else o_id) else (if v1 ≤ (255 : Int32) then (if v0 = (0 : Int32) then v1 else o_id) else o_id))) ∧ ((o_code : Int32) = if v1 < (0 : Int32) then o_code else (if v0 = (0 : Int32) then (if v1 ≤ (32767 : Int32) then (if v0 = (0 : Int32) then o_code else v1) else o_code) else (if v1 ≤ (255 : Int32) then (if v0 = (0 : Int32) then o_code else v1) else o_code))) ∧ ((o_loading : Int32) = if v1 < (0 : Int32) then o_loading else (if v0 = (0 : Int32) then (if v1 ≤ (32767 : Int32) then 0 else o_loading) else (if v1 ≤ (255 : Int32) then 0 else o_loading))) ∧ ((0 : Int32) = if v1 < (0 : Int32) then 0 else (if v0 = (0 : Int32) then (if v1 ≤ (32767 : Int32) then 1 else 0) else (if v1 ≤ (255 : Int32) then 1 else 0))) from (⟨by rw [if_neg c6, if_neg c11, if_neg c23], by rw [if_neg c6, if_neg c11, if_neg c23], by rw [if_neg c6, if_neg c11, if_neg c23], by rw [if_neg c6, if_neg c11, if_neg c23]⟩)), by rw [ht]; exact hP9, va_K.moved hW.alike hK9, hD9⟩, hS.F ht⟩) hS.2.2 d_mShelf_hand_27
