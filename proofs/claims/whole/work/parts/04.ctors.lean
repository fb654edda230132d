theorem wd_1_9 : (Jvm.Cond.initialized "SheetPrinter$Raster") ∈ gT := gT_in (in_1 _ (List.mem_of_getElem? (i := 9) rfl)) rfl
theorem wd_1_11 : (Jvm.Cond.initialized "SheetPrinter$Parser") ∈ gT := gT_in (in_1 _ (List.mem_of_getElem? (i := 11) rfl)) rfl
theorem wd_1_166 : (Jvm.Cond.arrayClass Jvm.ClassFile.FieldType.byte) ∈ gT := gT_in (in_1 _ (List.mem_of_getElem? (i := 166) rfl)) rfl
theorem wd_2_150 : (Jvm.Cond.arrayClass Jvm.ClassFile.FieldType.boolean) ∈ gT := gT_in (in_2 _ (List.mem_of_getElem? (i := 150) rfl)) rfl
theorem wd_2_155 : (Jvm.Cond.code ({ cls := "SheetPrinter$Macros", name := "<init>", desc := "()V" } : Jvm.MethodName) prog_6_method_1_code (1 : Nat) (Option.none : Option Jvm.ClassFile.FieldType)) ∈ gT := gT_in (in_2 _ (List.mem_of_getElem? (i := 155) rfl)) rfl
theorem wd_2_156 : (Jvm.Cond.methodLink "SheetPrinter$Macros" (3 : Nat) ({ cls := "java/lang/Object", name := "<init>", desc := "()V" } : Jvm.MethodName)) ∈ gT := gT_in (in_2 _ (List.mem_of_getElem? (i := 156) rfl)) rfl
theorem wd_2_157 : (Jvm.Cond.fieldLink "SheetPrinter$Macros" (29 : Nat) "SheetPrinter$Macros" "READING_ENDS" "[B") ∈ gT := gT_in (in_2 _ (List.mem_of_getElem? (i := 157) rfl)) rfl
theorem wd_2_159 : (Jvm.Cond.fieldLink "SheetPrinter$Macros" (11 : Nat) "SheetPrinter$Macros" "ids" "[I") ∈ gT := gT_in (in_2 _ (List.mem_of_getElem? (i := 159) rfl)) rfl
theorem wd_2_160 : (Jvm.Cond.fieldLink "SheetPrinter$Macros" (15 : Nat) "SheetPrinter$Macros" "places" "[I") ∈ gT := gT_in (in_2 _ (List.mem_of_getElem? (i := 160) rfl)) rfl
theorem wd_2_161 : (Jvm.Cond.fieldLink "SheetPrinter$Macros" (18 : Nat) "SheetPrinter$Macros" "lengths" "[I") ∈ gT := gT_in (in_2 _ (List.mem_of_getElem? (i := 161) rfl)) rfl
theorem wd_2_162 : (Jvm.Cond.fieldLink "SheetPrinter$Macros" (21 : Nat) "SheetPrinter$Macros" "permanent" "[Z") ∈ gT := gT_in (in_2 _ (List.mem_of_getElem? (i := 162) rfl)) rfl
theorem wd_2_165 : (Jvm.Cond.fieldLink "SheetPrinter$Macros" (25 : Nat) "SheetPrinter$Macros" "bytes" "[B") ∈ gT := gT_in (in_2 _ (List.mem_of_getElem? (i := 165) rfl)) rfl
theorem wd_2_175 : (Jvm.Cond.fieldLink "SheetPrinter$Macros" (32 : Nat) "SheetPrinter$Macros" "collected" "[B") ∈ gT := gT_in (in_2 _ (List.mem_of_getElem? (i := 175) rfl)) rfl
theorem wd_2_178 : (Jvm.Cond.fieldLink "SheetPrinter$Macros" (35 : Nat) "SheetPrinter$Macros" "saidActs" "[I") ∈ gT := gT_in (in_2 _ (List.mem_of_getElem? (i := 178) rfl)) rfl
theorem wd_2_180 : (Jvm.Cond.fieldLink "SheetPrinter$Macros" (38 : Nat) "SheetPrinter$Macros" "saidIds" "[I") ∈ gT := gT_in (in_2 _ (List.mem_of_getElem? (i := 180) rfl)) rfl
theorem wd_2_184 : (Jvm.Cond.laysFinal "SheetPrinter$Macros" "SheetPrinter$Macros" "ids" "[I") ∈ gT := gT_in (in_2 _ (List.mem_of_getElem? (i := 184) rfl)) rfl
theorem wd_2_186 : (Jvm.Cond.laysFinal "SheetPrinter$Macros" "SheetPrinter$Macros" "places" "[I") ∈ gT := gT_in (in_2 _ (List.mem_of_getElem? (i := 186) rfl)) rfl
theorem wd_2_188 : (Jvm.Cond.laysFinal "SheetPrinter$Macros" "SheetPrinter$Macros" "lengths" "[I") ∈ gT := gT_in (in_2 _ (List.mem_of_getElem? (i := 188) rfl)) rfl
theorem wd_2_190 : (Jvm.Cond.laysFinal "SheetPrinter$Macros" "SheetPrinter$Macros" "permanent" "[Z") ∈ gT := gT_in (in_2 _ (List.mem_of_getElem? (i := 190) rfl)) rfl
theorem wd_2_192 : (Jvm.Cond.lays "SheetPrinter$Macros" "SheetPrinter$Macros" "count" "I") ∈ gT := gT_in (in_2 _ (List.mem_of_getElem? (i := 192) rfl)) rfl
theorem wd_2_194 : (Jvm.Cond.laysFinal "SheetPrinter$Macros" "SheetPrinter$Macros" "bytes" "[B") ∈ gT := gT_in (in_2 _ (List.mem_of_getElem? (i := 194) rfl)) rfl
theorem wd_2_196 : (Jvm.Cond.lays "SheetPrinter$Macros" "SheetPrinter$Macros" "used" "I") ∈ gT := gT_in (in_2 _ (List.mem_of_getElem? (i := 196) rfl)) rfl
theorem wd_2_198 : (Jvm.Cond.lays "SheetPrinter$Macros" "SheetPrinter$Macros" "had" "I") ∈ gT := gT_in (in_2 _ (List.mem_of_getElem? (i := 198) rfl)) rfl
theorem wd_2_200 : (Jvm.Cond.lays "SheetPrinter$Macros" "SheetPrinter$Macros" "id" "I") ∈ gT := gT_in (in_2 _ (List.mem_of_getElem? (i := 200) rfl)) rfl
theorem wd_2_202 : (Jvm.Cond.lays "SheetPrinter$Macros" "SheetPrinter$Macros" "reading" "Z") ∈ gT := gT_in (in_2 _ (List.mem_of_getElem? (i := 202) rfl)) rfl
theorem wd_2_204 : (Jvm.Cond.lays "SheetPrinter$Macros" "SheetPrinter$Macros" "readingId" "I") ∈ gT := gT_in (in_2 _ (List.mem_of_getElem? (i := 204) rfl)) rfl
theorem wd_2_206 : (Jvm.Cond.laysFinal "SheetPrinter$Macros" "SheetPrinter$Macros" "collected" "[B") ∈ gT := gT_in (in_2 _ (List.mem_of_getElem? (i := 206) rfl)) rfl
theorem wd_2_208 : (Jvm.Cond.lays "SheetPrinter$Macros" "SheetPrinter$Macros" "collectedCount" "I") ∈ gT := gT_in (in_2 _ (List.mem_of_getElem? (i := 208) rfl)) rfl
theorem wd_2_210 : (Jvm.Cond.lays "SheetPrinter$Macros" "SheetPrinter$Macros" "matched" "I") ∈ gT := gT_in (in_2 _ (List.mem_of_getElem? (i := 210) rfl)) rfl
theorem wd_2_212 : (Jvm.Cond.laysFinal "SheetPrinter$Macros" "SheetPrinter$Macros" "saidActs" "[I") ∈ gT := gT_in (in_2 _ (List.mem_of_getElem? (i := 212) rfl)) rfl
theorem wd_2_214 : (Jvm.Cond.laysFinal "SheetPrinter$Macros" "SheetPrinter$Macros" "saidIds" "[I") ∈ gT := gT_in (in_2 _ (List.mem_of_getElem? (i := 214) rfl)) rfl
theorem wd_2_216 : (Jvm.Cond.lays "SheetPrinter$Macros" "SheetPrinter$Macros" "said" "I") ∈ gT := gT_in (in_2 _ (List.mem_of_getElem? (i := 216) rfl)) rfl
theorem wd_2_223 : (Jvm.Cond.code ({ cls := "SheetPrinter$Raster", name := "<init>", desc := "(I)V" } : Jvm.MethodName) prog_11_method_1_code (2 : Nat) (Option.none : Option Jvm.ClassFile.FieldType)) ∈ gT := gT_in (in_2 _ (List.mem_of_getElem? (i := 223) rfl)) rfl
theorem wd_2_224 : (Jvm.Cond.methodLink "SheetPrinter$Raster" (1 : Nat) ({ cls := "java/lang/Object", name := "<init>", desc := "()V" } : Jvm.MethodName)) ∈ gT := gT_in (in_2 _ (List.mem_of_getElem? (i := 224) rfl)) rfl
theorem wd_2_225 : (Jvm.Cond.methodLink "SheetPrinter$Raster" (17 : Nat) ({ cls := "SheetPrinter$Raster", name := "endJob", desc := "()V" } : Jvm.MethodName)) ∈ gT := gT_in (in_2 _ (List.mem_of_getElem? (i := 225) rfl)) rfl
theorem wd_2_226 : (Jvm.Cond.instanceMethod ({ cls := "SheetPrinter$Raster", name := "endJob", desc := "()V" } : Jvm.MethodName)) ∈ gT := gT_in (in_2 _ (List.mem_of_getElem? (i := 226) rfl)) rfl
theorem wd_2_227 : (Jvm.Cond.selects "SheetPrinter$Raster" ({ cls := "SheetPrinter$Raster", name := "endJob", desc := "()V" } : Jvm.MethodName) ({ cls := "SheetPrinter$Raster", name := "endJob", desc := "()V" } : Jvm.MethodName)) ∈ gT := gT_in (in_2 _ (List.mem_of_getElem? (i := 227) rfl)) rfl
theorem wd_2_228 : (Jvm.Cond.code ({ cls := "SheetPrinter$Raster", name := "endJob", desc := "()V" } : Jvm.MethodName) prog_11_method_2_code (1 : Nat) (Option.none : Option Jvm.ClassFile.FieldType)) ∈ gT := gT_in (in_2 _ (List.mem_of_getElem? (i := 228) rfl)) rfl
theorem wd_2_229 : (Jvm.Cond.fieldLink "SheetPrinter$Raster" (13 : Nat) "SheetPrinter$Raster" "dpi" "I") ∈ gT := gT_in (in_2 _ (List.mem_of_getElem? (i := 229) rfl)) rfl
theorem wd_2_230 : (Jvm.Cond.fieldLink "SheetPrinter$Raster" (20 : Nat) "SheetPrinter$Raster" "open" "Z") ∈ gT := gT_in (in_2 _ (List.mem_of_getElem? (i := 230) rfl)) rfl
theorem wd_3_6 : (Jvm.Cond.fieldLink "SheetPrinter$Raster" (9 : Nat) "SheetPrinter$Raster" "seed" "[B") ∈ gT := gT_in (in_3 _ (List.mem_of_getElem? (i := 6) rfl)) rfl
theorem wd_3_8 : (Jvm.Cond.fieldLink "SheetPrinter$Raster" (24 : Nat) "SheetPrinter$Raster" "resolution" "I") ∈ gT := gT_in (in_3 _ (List.mem_of_getElem? (i := 8) rfl)) rfl
theorem wd_3_9 : (Jvm.Cond.fieldLink "SheetPrinter$Raster" (27 : Nat) "SheetPrinter$Raster" "method" "I") ∈ gT := gT_in (in_3 _ (List.mem_of_getElem? (i := 9) rfl)) rfl
theorem wd_3_10 : (Jvm.Cond.fieldLink "SheetPrinter$Raster" (30 : Nat) "SheetPrinter$Raster" "nextWidth" "I") ∈ gT := gT_in (in_3 _ (List.mem_of_getElem? (i := 10) rfl)) rfl
theorem wd_3_11 : (Jvm.Cond.fieldLink "SheetPrinter$Raster" (33 : Nat) "SheetPrinter$Raster" "nextHeight" "I") ∈ gT := gT_in (in_3 _ (List.mem_of_getElem? (i := 11) rfl)) rfl
theorem wd_3_12 : (Jvm.Cond.laysFinal "SheetPrinter$Raster" "SheetPrinter$Raster" "dpi" "I") ∈ gT := gT_in (in_3 _ (List.mem_of_getElem? (i := 12) rfl)) rfl
theorem wd_3_14 : (Jvm.Cond.lays "SheetPrinter$Raster" "SheetPrinter$Raster" "open" "Z") ∈ gT := gT_in (in_3 _ (List.mem_of_getElem? (i := 14) rfl)) rfl
theorem wd_3_16 : (Jvm.Cond.lays "SheetPrinter$Raster" "SheetPrinter$Raster" "x" "I") ∈ gT := gT_in (in_3 _ (List.mem_of_getElem? (i := 16) rfl)) rfl
theorem wd_3_18 : (Jvm.Cond.lays "SheetPrinter$Raster" "SheetPrinter$Raster" "y" "I") ∈ gT := gT_in (in_3 _ (List.mem_of_getElem? (i := 18) rfl)) rfl
theorem wd_3_20 : (Jvm.Cond.lays "SheetPrinter$Raster" "SheetPrinter$Raster" "scale" "I") ∈ gT := gT_in (in_3 _ (List.mem_of_getElem? (i := 20) rfl)) rfl
theorem wd_3_22 : (Jvm.Cond.lays "SheetPrinter$Raster" "SheetPrinter$Raster" "row" "I") ∈ gT := gT_in (in_3 _ (List.mem_of_getElem? (i := 22) rfl)) rfl
theorem wd_3_24 : (Jvm.Cond.lays "SheetPrinter$Raster" "SheetPrinter$Raster" "width" "I") ∈ gT := gT_in (in_3 _ (List.mem_of_getElem? (i := 24) rfl)) rfl
theorem wd_3_26 : (Jvm.Cond.lays "SheetPrinter$Raster" "SheetPrinter$Raster" "height" "I") ∈ gT := gT_in (in_3 _ (List.mem_of_getElem? (i := 26) rfl)) rfl
theorem wd_3_28 : (Jvm.Cond.lays "SheetPrinter$Raster" "SheetPrinter$Raster" "rowBytes" "I") ∈ gT := gT_in (in_3 _ (List.mem_of_getElem? (i := 28) rfl)) rfl
theorem wd_3_30 : (Jvm.Cond.laysFinal "SheetPrinter$Raster" "SheetPrinter$Raster" "seed" "[B") ∈ gT := gT_in (in_3 _ (List.mem_of_getElem? (i := 30) rfl)) rfl
theorem wd_3_32 : (Jvm.Cond.lays "SheetPrinter$Raster" "SheetPrinter$Raster" "resolution" "I") ∈ gT := gT_in (in_3 _ (List.mem_of_getElem? (i := 32) rfl)) rfl
theorem wd_3_34 : (Jvm.Cond.lays "SheetPrinter$Raster" "SheetPrinter$Raster" "method" "I") ∈ gT := gT_in (in_3 _ (List.mem_of_getElem? (i := 34) rfl)) rfl
theorem wd_3_36 : (Jvm.Cond.lays "SheetPrinter$Raster" "SheetPrinter$Raster" "nextWidth" "I") ∈ gT := gT_in (in_3 _ (List.mem_of_getElem? (i := 36) rfl)) rfl
theorem wd_3_38 : (Jvm.Cond.lays "SheetPrinter$Raster" "SheetPrinter$Raster" "nextHeight" "I") ∈ gT := gT_in (in_3 _ (List.mem_of_getElem? (i := 38) rfl)) rfl
theorem wd_3_45 : (Jvm.Cond.code ({ cls := "SheetPrinter$Interpreter", name := "<init>", desc := "([BLSheetPrinter$Page;LSheetPrinter$Sheet;LSheetPrinter$FontShelf;LSheetPrinter$Macros;LSheetPrinter$Raster;)V" } : Jvm.MethodName) prog_4_method_1_code (7 : Nat) (Option.none : Option Jvm.ClassFile.FieldType)) ∈ gT := gT_in (in_3 _ (List.mem_of_getElem? (i := 45) rfl)) rfl
theorem wd_3_46 : (Jvm.Cond.methodLink "SheetPrinter$Interpreter" (5 : Nat) ({ cls := "java/lang/Object", name := "<init>", desc := "()V" } : Jvm.MethodName)) ∈ gT := gT_in (in_3 _ (List.mem_of_getElem? (i := 46) rfl)) rfl
theorem wd_3_47 : (Jvm.Cond.classLink "SheetPrinter$Interpreter" (1 : Nat) "SheetPrinter$Parser") ∈ gT := gT_in (in_3 _ (List.mem_of_getElem? (i := 47) rfl)) rfl
theorem wd_3_48 : (Jvm.Cond.instantiable "SheetPrinter$Parser" (16 : Nat)) ∈ gT := gT_in (in_3 _ (List.mem_of_getElem? (i := 48) rfl)) rfl
theorem wd_3_50 : (Jvm.Cond.instanceMethod ({ cls := "SheetPrinter$Parser", name := "<init>", desc := "()V" } : Jvm.MethodName)) ∈ gT := gT_in (in_3 _ (List.mem_of_getElem? (i := 50) rfl)) rfl
theorem wd_3_51 : (Jvm.Cond.code ({ cls := "SheetPrinter$Parser", name := "<init>", desc := "()V" } : Jvm.MethodName) prog_9_method_1_code (1 : Nat) (Option.none : Option Jvm.ClassFile.FieldType)) ∈ gT := gT_in (in_3 _ (List.mem_of_getElem? (i := 51) rfl)) rfl
theorem wd_3_52 : (Jvm.Cond.methodLink "SheetPrinter$Parser" (1 : Nat) ({ cls := "java/lang/Object", name := "<init>", desc := "()V" } : Jvm.MethodName)) ∈ gT := gT_in (in_3 _ (List.mem_of_getElem? (i := 52) rfl)) rfl
theorem wd_3_73 : (Jvm.Cond.fieldLink "SheetPrinter$Parser" (9 : Nat) "SheetPrinter$Parser" "data" "[B") ∈ gT := gT_in (in_3 _ (List.mem_of_getElem? (i := 73) rfl)) rfl
theorem wd_3_77 : (Jvm.Cond.lays "SheetPrinter$Parser" "SheetPrinter$Parser" "mode" "I") ∈ gT := gT_in (in_3 _ (List.mem_of_getElem? (i := 77) rfl)) rfl
theorem wd_3_79 : (Jvm.Cond.lays "SheetPrinter$Parser" "SheetPrinter$Parser" "taken" "I") ∈ gT := gT_in (in_3 _ (List.mem_of_getElem? (i := 79) rfl)) rfl
theorem wd_3_81 : (Jvm.Cond.lays "SheetPrinter$Parser" "SheetPrinter$Parser" "family" "I") ∈ gT := gT_in (in_3 _ (List.mem_of_getElem? (i := 81) rfl)) rfl
theorem wd_3_83 : (Jvm.Cond.lays "SheetPrinter$Parser" "SheetPrinter$Parser" "group" "I") ∈ gT := gT_in (in_3 _ (List.mem_of_getElem? (i := 83) rfl)) rfl
theorem wd_3_85 : (Jvm.Cond.lays "SheetPrinter$Parser" "SheetPrinter$Parser" "end" "I") ∈ gT := gT_in (in_3 _ (List.mem_of_getElem? (i := 85) rfl)) rfl
theorem wd_3_87 : (Jvm.Cond.lays "SheetPrinter$Parser" "SheetPrinter$Parser" "last" "Z") ∈ gT := gT_in (in_3 _ (List.mem_of_getElem? (i := 87) rfl)) rfl
theorem wd_3_89 : (Jvm.Cond.lays "SheetPrinter$Parser" "SheetPrinter$Parser" "phase" "I") ∈ gT := gT_in (in_3 _ (List.mem_of_getElem? (i := 89) rfl)) rfl
theorem wd_3_91 : (Jvm.Cond.lays "SheetPrinter$Parser" "SheetPrinter$Parser" "sign" "I") ∈ gT := gT_in (in_3 _ (List.mem_of_getElem? (i := 91) rfl)) rfl
theorem wd_3_93 : (Jvm.Cond.lays "SheetPrinter$Parser" "SheetPrinter$Parser" "whole" "I") ∈ gT := gT_in (in_3 _ (List.mem_of_getElem? (i := 93) rfl)) rfl
theorem wd_3_95 : (Jvm.Cond.lays "SheetPrinter$Parser" "SheetPrinter$Parser" "fraction" "I") ∈ gT := gT_in (in_3 _ (List.mem_of_getElem? (i := 95) rfl)) rfl
theorem wd_3_97 : (Jvm.Cond.lays "SheetPrinter$Parser" "SheetPrinter$Parser" "digitWorth" "I") ∈ gT := gT_in (in_3 _ (List.mem_of_getElem? (i := 97) rfl)) rfl
theorem wd_3_99 : (Jvm.Cond.lays "SheetPrinter$Parser" "SheetPrinter$Parser" "value" "I") ∈ gT := gT_in (in_3 _ (List.mem_of_getElem? (i := 99) rfl)) rfl
theorem wd_3_101 : (Jvm.Cond.lays "SheetPrinter$Parser" "SheetPrinter$Parser" "signed" "Z") ∈ gT := gT_in (in_3 _ (List.mem_of_getElem? (i := 101) rfl)) rfl
theorem wd_3_103 : (Jvm.Cond.lays "SheetPrinter$Parser" "SheetPrinter$Parser" "dataLeft" "I") ∈ gT := gT_in (in_3 _ (List.mem_of_getElem? (i := 103) rfl)) rfl
theorem wd_3_105 : (Jvm.Cond.laysFinal "SheetPrinter$Parser" "SheetPrinter$Parser" "data" "[B") ∈ gT := gT_in (in_3 _ (List.mem_of_getElem? (i := 105) rfl)) rfl
theorem wd_3_107 : (Jvm.Cond.lays "SheetPrinter$Parser" "SheetPrinter$Parser" "dataCount" "I") ∈ gT := gT_in (in_3 _ (List.mem_of_getElem? (i := 107) rfl)) rfl
theorem wd_3_110 : (Jvm.Cond.constant "SheetPrinter$Interpreter" (20 : Nat) (32768 : Int32)) ∈ gT := gT_in (in_3 _ (List.mem_of_getElem? (i := 110) rfl)) rfl
theorem wd_3_111 : (Jvm.Cond.fieldLink "SheetPrinter$Interpreter" (48 : Nat) "SheetPrinter$Interpreter" "tape" "[B") ∈ gT := gT_in (in_3 _ (List.mem_of_getElem? (i := 111) rfl)) rfl
theorem wd_3_112 : (Jvm.Cond.fieldLink "SheetPrinter$Interpreter" (51 : Nat) "SheetPrinter$Interpreter" "page" "LSheetPrinter$Page;") ∈ gT := gT_in (in_3 _ (List.mem_of_getElem? (i := 112) rfl)) rfl
theorem wd_3_113 : (Jvm.Cond.fieldLink "SheetPrinter$Interpreter" (55 : Nat) "SheetPrinter$Interpreter" "sheet" "LSheetPrinter$Sheet;") ∈ gT := gT_in (in_3 _ (List.mem_of_getElem? (i := 113) rfl)) rfl
theorem wd_3_114 : (Jvm.Cond.fieldLink "SheetPrinter$Interpreter" (59 : Nat) "SheetPrinter$Interpreter" "fonts" "LSheetPrinter$FontShelf;") ∈ gT := gT_in (in_3 _ (List.mem_of_getElem? (i := 114) rfl)) rfl
theorem wd_3_115 : (Jvm.Cond.fieldLink "SheetPrinter$Interpreter" (63 : Nat) "SheetPrinter$Interpreter" "macros" "LSheetPrinter$Macros;") ∈ gT := gT_in (in_3 _ (List.mem_of_getElem? (i := 115) rfl)) rfl
theorem wd_3_116 : (Jvm.Cond.fieldLink "SheetPrinter$Interpreter" (67 : Nat) "SheetPrinter$Interpreter" "raster" "LSheetPrinter$Raster;") ∈ gT := gT_in (in_3 _ (List.mem_of_getElem? (i := 116) rfl)) rfl
theorem wd_3_117 : (Jvm.Cond.fieldLink "SheetPrinter$Interpreter" (12 : Nat) "SheetPrinter$Interpreter" "parser" "LSheetPrinter$Parser;") ∈ gT := gT_in (in_3 _ (List.mem_of_getElem? (i := 117) rfl)) rfl
theorem wd_3_118 : (Jvm.Cond.fieldLink "SheetPrinter$Interpreter" (21 : Nat) "SheetPrinter$Interpreter" "copies" "[B") ∈ gT := gT_in (in_3 _ (List.mem_of_getElem? (i := 118) rfl)) rfl
theorem wd_3_120 : (Jvm.Cond.fieldLink "SheetPrinter$Interpreter" (25 : Nat) "SheetPrinter$Interpreter" "at" "[I") ∈ gT := gT_in (in_3 _ (List.mem_of_getElem? (i := 120) rfl)) rfl
theorem wd_3_121 : (Jvm.Cond.fieldLink "SheetPrinter$Interpreter" (29 : Nat) "SheetPrinter$Interpreter" "ends" "[I") ∈ gT := gT_in (in_3 _ (List.mem_of_getElem? (i := 121) rfl)) rfl
theorem wd_3_122 : (Jvm.Cond.fieldLink "SheetPrinter$Interpreter" (32 : Nat) "SheetPrinter$Interpreter" "called" "[Z") ∈ gT := gT_in (in_3 _ (List.mem_of_getElem? (i := 122) rfl)) rfl
theorem wd_3_123 : (Jvm.Cond.fieldLink "SheetPrinter$Interpreter" (36 : Nat) "SheetPrinter$Interpreter" "acts" "[I") ∈ gT := gT_in (in_3 _ (List.mem_of_getElem? (i := 123) rfl)) rfl
theorem wd_3_124 : (Jvm.Cond.fieldLink "SheetPrinter$Interpreter" (39 : Nat) "SheetPrinter$Interpreter" "actIds" "[I") ∈ gT := gT_in (in_3 _ (List.mem_of_getElem? (i := 124) rfl)) rfl
theorem wd_3_125 : (Jvm.Cond.fieldLink "SheetPrinter$Interpreter" (42 : Nat) "SheetPrinter$Interpreter" "actCount" "[I") ∈ gT := gT_in (in_3 _ (List.mem_of_getElem? (i := 125) rfl)) rfl
theorem wd_3_126 : (Jvm.Cond.fieldLink "SheetPrinter$Interpreter" (45 : Nat) "SheetPrinter$Interpreter" "actNext" "[I") ∈ gT := gT_in (in_3 _ (List.mem_of_getElem? (i := 126) rfl)) rfl
theorem wd_3_132 : (Jvm.Cond.laysFinal "SheetPrinter$Interpreter" "SheetPrinter$Interpreter" "tape" "[B") ∈ gT := gT_in (in_3 _ (List.mem_of_getElem? (i := 132) rfl)) rfl
theorem wd_3_134 : (Jvm.Cond.laysFinal "SheetPrinter$Interpreter" "SheetPrinter$Interpreter" "page" "LSheetPrinter$Page;") ∈ gT := gT_in (in_3 _ (List.mem_of_getElem? (i := 134) rfl)) rfl
theorem wd_3_136 : (Jvm.Cond.laysFinal "SheetPrinter$Interpreter" "SheetPrinter$Interpreter" "sheet" "LSheetPrinter$Sheet;") ∈ gT := gT_in (in_3 _ (List.mem_of_getElem? (i := 136) rfl)) rfl
theorem wd_3_138 : (Jvm.Cond.laysFinal "SheetPrinter$Interpreter" "SheetPrinter$Interpreter" "fonts" "LSheetPrinter$FontShelf;") ∈ gT := gT_in (in_3 _ (List.mem_of_getElem? (i := 138) rfl)) rfl
theorem wd_3_140 : (Jvm.Cond.laysFinal "SheetPrinter$Interpreter" "SheetPrinter$Interpreter" "macros" "LSheetPrinter$Macros;") ∈ gT := gT_in (in_3 _ (List.mem_of_getElem? (i := 140) rfl)) rfl
theorem wd_3_142 : (Jvm.Cond.laysFinal "SheetPrinter$Interpreter" "SheetPrinter$Interpreter" "raster" "LSheetPrinter$Raster;") ∈ gT := gT_in (in_3 _ (List.mem_of_getElem? (i := 142) rfl)) rfl
theorem wd_3_144 : (Jvm.Cond.laysFinal "SheetPrinter$Interpreter" "SheetPrinter$Interpreter" "parser" "LSheetPrinter$Parser;") ∈ gT := gT_in (in_3 _ (List.mem_of_getElem? (i := 144) rfl)) rfl
theorem wd_3_146 : (Jvm.Cond.laysFinal "SheetPrinter$Interpreter" "SheetPrinter$Interpreter" "copies" "[B") ∈ gT := gT_in (in_3 _ (List.mem_of_getElem? (i := 146) rfl)) rfl
theorem wd_3_148 : (Jvm.Cond.lays "SheetPrinter$Interpreter" "SheetPrinter$Interpreter" "level" "I") ∈ gT := gT_in (in_3 _ (List.mem_of_getElem? (i := 148) rfl)) rfl
theorem wd_3_150 : (Jvm.Cond.laysFinal "SheetPrinter$Interpreter" "SheetPrinter$Interpreter" "at" "[I") ∈ gT := gT_in (in_3 _ (List.mem_of_getElem? (i := 150) rfl)) rfl
theorem wd_3_152 : (Jvm.Cond.laysFinal "SheetPrinter$Interpreter" "SheetPrinter$Interpreter" "ends" "[I") ∈ gT := gT_in (in_3 _ (List.mem_of_getElem? (i := 152) rfl)) rfl
theorem wd_3_154 : (Jvm.Cond.laysFinal "SheetPrinter$Interpreter" "SheetPrinter$Interpreter" "called" "[Z") ∈ gT := gT_in (in_3 _ (List.mem_of_getElem? (i := 154) rfl)) rfl
theorem wd_3_156 : (Jvm.Cond.laysFinal "SheetPrinter$Interpreter" "SheetPrinter$Interpreter" "acts" "[I") ∈ gT := gT_in (in_3 _ (List.mem_of_getElem? (i := 156) rfl)) rfl
theorem wd_3_158 : (Jvm.Cond.laysFinal "SheetPrinter$Interpreter" "SheetPrinter$Interpreter" "actIds" "[I") ∈ gT := gT_in (in_3 _ (List.mem_of_getElem? (i := 158) rfl)) rfl
theorem wd_3_160 : (Jvm.Cond.laysFinal "SheetPrinter$Interpreter" "SheetPrinter$Interpreter" "actCount" "[I") ∈ gT := gT_in (in_3 _ (List.mem_of_getElem? (i := 160) rfl)) rfl
theorem wd_3_162 : (Jvm.Cond.laysFinal "SheetPrinter$Interpreter" "SheetPrinter$Interpreter" "actNext" "[I") ∈ gT := gT_in (in_3 _ (List.mem_of_getElem? (i := 162) rfl)) rfl
theorem wd_3_164 : (Jvm.Cond.lays "SheetPrinter$Interpreter" "SheetPrinter$Interpreter" "ejecting" "Z") ∈ gT := gT_in (in_3 _ (List.mem_of_getElem? (i := 164) rfl)) rfl
theorem wd_3_166 : (Jvm.Cond.lays "SheetPrinter$Interpreter" "SheetPrinter$Interpreter" "then" "I") ∈ gT := gT_in (in_3 _ (List.mem_of_getElem? (i := 166) rfl)) rfl
theorem wd_3_168 : (Jvm.Cond.lays "SheetPrinter$Interpreter" "SheetPrinter$Interpreter" "thenNumber" "I") ∈ gT := gT_in (in_3 _ (List.mem_of_getElem? (i := 168) rfl)) rfl
theorem wd_3_170 : (Jvm.Cond.lays "SheetPrinter$Interpreter" "SheetPrinter$Interpreter" "thenStep" "I") ∈ gT := gT_in (in_3 _ (List.mem_of_getElem? (i := 170) rfl)) rfl
theorem wd_3_177 : (Jvm.Cond.code ({ cls := "SheetPrinter$PictureFile", name := "<init>", desc := "([B)V" } : Jvm.MethodName) prog_10_method_1_code (2 : Nat) (Option.none : Option Jvm.ClassFile.FieldType)) ∈ gT := gT_in (in_3 _ (List.mem_of_getElem? (i := 177) rfl)) rfl
theorem wd_3_178 : (Jvm.Cond.methodLink "SheetPrinter$PictureFile" (3 : Nat) ({ cls := "java/lang/Object", name := "<init>", desc := "()V" } : Jvm.MethodName)) ∈ gT := gT_in (in_3 _ (List.mem_of_getElem? (i := 178) rfl)) rfl
theorem wd_3_179 : (Jvm.Cond.fieldLink "SheetPrinter$PictureFile" (9 : Nat) "SheetPrinter$PictureFile" "TAGS" "[I") ∈ gT := gT_in (in_3 _ (List.mem_of_getElem? (i := 179) rfl)) rfl
theorem wd_3_181 : (Jvm.Cond.fieldLink "SheetPrinter$PictureFile" (24 : Nat) "SheetPrinter$PictureFile" "bytes" "[B") ∈ gT := gT_in (in_3 _ (List.mem_of_getElem? (i := 181) rfl)) rfl
theorem wd_3_186 : (Jvm.Cond.fieldLink "SheetPrinter$PictureFile" (15 : Nat) "SheetPrinter$PictureFile" "types" "[I") ∈ gT := gT_in (in_3 _ (List.mem_of_getElem? (i := 186) rfl)) rfl
theorem wd_3_187 : (Jvm.Cond.fieldLink "SheetPrinter$PictureFile" (18 : Nat) "SheetPrinter$PictureFile" "counts" "[I") ∈ gT := gT_in (in_3 _ (List.mem_of_getElem? (i := 187) rfl)) rfl
theorem wd_3_188 : (Jvm.Cond.fieldLink "SheetPrinter$PictureFile" (21 : Nat) "SheetPrinter$PictureFile" "places" "[I") ∈ gT := gT_in (in_3 _ (List.mem_of_getElem? (i := 188) rfl)) rfl
theorem wd_3_189 : (Jvm.Cond.laysFinal "SheetPrinter$PictureFile" "SheetPrinter$PictureFile" "bytes" "[B") ∈ gT := gT_in (in_3 _ (List.mem_of_getElem? (i := 189) rfl)) rfl
theorem wd_3_191 : (Jvm.Cond.lays "SheetPrinter$PictureFile" "SheetPrinter$PictureFile" "length" "I") ∈ gT := gT_in (in_3 _ (List.mem_of_getElem? (i := 191) rfl)) rfl
theorem wd_3_193 : (Jvm.Cond.lays "SheetPrinter$PictureFile" "SheetPrinter$PictureFile" "highFirst" "Z") ∈ gT := gT_in (in_3 _ (List.mem_of_getElem? (i := 193) rfl)) rfl
theorem wd_3_195 : (Jvm.Cond.lays "SheetPrinter$PictureFile" "SheetPrinter$PictureFile" "next" "J") ∈ gT := gT_in (in_3 _ (List.mem_of_getElem? (i := 195) rfl)) rfl
theorem wd_3_197 : (Jvm.Cond.lays "SheetPrinter$PictureFile" "SheetPrinter$PictureFile" "stripsBefore" "J") ∈ gT := gT_in (in_3 _ (List.mem_of_getElem? (i := 197) rfl)) rfl
theorem wd_3_199 : (Jvm.Cond.laysFinal "SheetPrinter$PictureFile" "SheetPrinter$PictureFile" "types" "[I") ∈ gT := gT_in (in_3 _ (List.mem_of_getElem? (i := 199) rfl)) rfl
theorem wd_3_201 : (Jvm.Cond.laysFinal "SheetPrinter$PictureFile" "SheetPrinter$PictureFile" "counts" "[I") ∈ gT := gT_in (in_3 _ (List.mem_of_getElem? (i := 201) rfl)) rfl
theorem wd_3_203 : (Jvm.Cond.laysFinal "SheetPrinter$PictureFile" "SheetPrinter$PictureFile" "places" "[I") ∈ gT := gT_in (in_3 _ (List.mem_of_getElem? (i := 203) rfl)) rfl
theorem wd_3_210 : (Jvm.Cond.code ({ cls := "SheetPrinter$OutFile", name := "<init>", desc := "()V" } : Jvm.MethodName) prog_7_method_1_code (1 : Nat) (Option.none : Option Jvm.ClassFile.FieldType)) ∈ gT := gT_in (in_3 _ (List.mem_of_getElem? (i := 210) rfl)) rfl
theorem wd_3_211 : (Jvm.Cond.methodLink "SheetPrinter$OutFile" (1 : Nat) ({ cls := "java/lang/Object", name := "<init>", desc := "()V" } : Jvm.MethodName)) ∈ gT := gT_in (in_3 _ (List.mem_of_getElem? (i := 211) rfl)) rfl
theorem wd_3_212 : (Jvm.Cond.constant "SheetPrinter$OutFile" (9 : Nat) (60160 : Int32)) ∈ gT := gT_in (in_3 _ (List.mem_of_getElem? (i := 212) rfl)) rfl
theorem wd_3_213 : (Jvm.Cond.fieldLink "SheetPrinter$OutFile" (10 : Nat) "SheetPrinter$OutFile" "bytes" "[B") ∈ gT := gT_in (in_3 _ (List.mem_of_getElem? (i := 213) rfl)) rfl
theorem wd_3_216 : (Jvm.Cond.fieldLink "SheetPrinter$OutFile" (14 : Nat) "SheetPrinter$OutFile" "table" "[I") ∈ gT := gT_in (in_3 _ (List.mem_of_getElem? (i := 216) rfl)) rfl
theorem wd_3_224 : (Jvm.Cond.laysFinal "SheetPrinter$OutFile" "SheetPrinter$OutFile" "bytes" "[B") ∈ gT := gT_in (in_3 _ (List.mem_of_getElem? (i := 224) rfl)) rfl
theorem wd_3_226 : (Jvm.Cond.laysFinal "SheetPrinter$OutFile" "SheetPrinter$OutFile" "table" "[I") ∈ gT := gT_in (in_3 _ (List.mem_of_getElem? (i := 226) rfl)) rfl
theorem wd_3_228 : (Jvm.Cond.lays "SheetPrinter$OutFile" "SheetPrinter$OutFile" "length" "I") ∈ gT := gT_in (in_3 _ (List.mem_of_getElem? (i := 228) rfl)) rfl
theorem wd_3_230 : (Jvm.Cond.lays "SheetPrinter$OutFile" "SheetPrinter$OutFile" "pages" "I") ∈ gT := gT_in (in_3 _ (List.mem_of_getElem? (i := 230) rfl)) rfl
theorem wd_3_232 : (Jvm.Cond.lays "SheetPrinter$OutFile" "SheetPrinter$OutFile" "link" "I") ∈ gT := gT_in (in_3 _ (List.mem_of_getElem? (i := 232) rfl)) rfl
theorem wd_3_239 : (Jvm.Cond.code ({ cls := "SheetPrinter$Coder", name := "<init>", desc := "(LSheetPrinter$OutFile;)V" } : Jvm.MethodName) prog_2_method_1_code (2 : Nat) (Option.none : Option Jvm.ClassFile.FieldType)) ∈ gT := gT_in (in_3 _ (List.mem_of_getElem? (i := 239) rfl)) rfl
theorem wd_4_0 : (Jvm.Cond.methodLink "SheetPrinter$Coder" (3 : Nat) ({ cls := "java/lang/Object", name := "<init>", desc := "()V" } : Jvm.MethodName)) ∈ gT := gT_in (in_4 _ (List.mem_of_getElem? (i := 0) rfl)) rfl
theorem wd_4_1 : (Jvm.Cond.fieldLink "SheetPrinter$Coder" (18 : Nat) "SheetPrinter$Coder" "file" "LSheetPrinter$OutFile;") ∈ gT := gT_in (in_4 _ (List.mem_of_getElem? (i := 1) rfl)) rfl
theorem wd_4_9 : (Jvm.Cond.fieldLink "SheetPrinter$Coder" (9 : Nat) "SheetPrinter$Coder" "above" "[I") ∈ gT := gT_in (in_4 _ (List.mem_of_getElem? (i := 9) rfl)) rfl
theorem wd_4_11 : (Jvm.Cond.fieldLink "SheetPrinter$Coder" (15 : Nat) "SheetPrinter$Coder" "line" "[I") ∈ gT := gT_in (in_4 _ (List.mem_of_getElem? (i := 11) rfl)) rfl
theorem wd_4_13 : (Jvm.Cond.lays "SheetPrinter$Coder" "SheetPrinter$Coder" "file" "LSheetPrinter$OutFile;") ∈ gT := gT_in (in_4 _ (List.mem_of_getElem? (i := 13) rfl)) rfl
theorem wd_4_15 : (Jvm.Cond.lays "SheetPrinter$Coder" "SheetPrinter$Coder" "width" "I") ∈ gT := gT_in (in_4 _ (List.mem_of_getElem? (i := 15) rfl)) rfl
theorem wd_4_17 : (Jvm.Cond.lays "SheetPrinter$Coder" "SheetPrinter$Coder" "start" "I") ∈ gT := gT_in (in_4 _ (List.mem_of_getElem? (i := 17) rfl)) rfl
theorem wd_4_19 : (Jvm.Cond.lays "SheetPrinter$Coder" "SheetPrinter$Coder" "at" "I") ∈ gT := gT_in (in_4 _ (List.mem_of_getElem? (i := 19) rfl)) rfl
theorem wd_4_21 : (Jvm.Cond.lays "SheetPrinter$Coder" "SheetPrinter$Coder" "held" "I") ∈ gT := gT_in (in_4 _ (List.mem_of_getElem? (i := 21) rfl)) rfl
theorem wd_4_23 : (Jvm.Cond.lays "SheetPrinter$Coder" "SheetPrinter$Coder" "heldBits" "I") ∈ gT := gT_in (in_4 _ (List.mem_of_getElem? (i := 23) rfl)) rfl
theorem wd_4_25 : (Jvm.Cond.lays "SheetPrinter$Coder" "SheetPrinter$Coder" "full" "Z") ∈ gT := gT_in (in_4 _ (List.mem_of_getElem? (i := 25) rfl)) rfl
theorem wd_4_27 : (Jvm.Cond.lays "SheetPrinter$Coder" "SheetPrinter$Coder" "above" "[I") ∈ gT := gT_in (in_4 _ (List.mem_of_getElem? (i := 27) rfl)) rfl
theorem wd_4_29 : (Jvm.Cond.lays "SheetPrinter$Coder" "SheetPrinter$Coder" "aboveCount" "I") ∈ gT := gT_in (in_4 _ (List.mem_of_getElem? (i := 29) rfl)) rfl
theorem wd_4_31 : (Jvm.Cond.lays "SheetPrinter$Coder" "SheetPrinter$Coder" "line" "[I") ∈ gT := gT_in (in_4 _ (List.mem_of_getElem? (i := 31) rfl)) rfl
theorem wd_4_33 : (Jvm.Cond.lays "SheetPrinter$Coder" "SheetPrinter$Coder" "lineCount" "I") ∈ gT := gT_in (in_4 _ (List.mem_of_getElem? (i := 33) rfl)) rfl
theorem i_OutFile : ∀ w ∈ u_ws R_OutFile F_OutFile 5, w ∈ gT := by
  intro w h
  obtain ⟨k, hk, rfl⟩ := List.mem_map.mp h
  have hk := List.mem_range.mp hk
  match k, hk with
  | 0, _ => exact wd_3_224
  | 1, _ => exact wd_3_226
  | 2, _ => exact wd_3_228
  | 3, _ => exact wd_3_230
  | 4, _ => exact wd_3_232
  | k + 5, hk => exact absurd hk (by omega)
theorem i_Coder : ∀ w ∈ u_ws R_Coder F_Coder 11, w ∈ gT := by
  intro w h
  obtain ⟨k, hk, rfl⟩ := List.mem_map.mp h
  have hk := List.mem_range.mp hk
  match k, hk with
  | 0, _ => exact wd_4_13
  | 1, _ => exact wd_4_15
  | 2, _ => exact wd_4_17
  | 3, _ => exact wd_4_19
  | 4, _ => exact wd_4_21
  | 5, _ => exact wd_4_23
  | 6, _ => exact wd_4_25
  | 7, _ => exact wd_4_27
  | 8, _ => exact wd_4_29
  | 9, _ => exact wd_4_31
  | 10, _ => exact wd_4_33
  | k + 11, hk => exact absurd hk (by omega)
theorem i_Parser : ∀ w ∈ u_ws R_Parser F_Parser 16, w ∈ gT := by
  intro w h
  obtain ⟨k, hk, rfl⟩ := List.mem_map.mp h
  have hk := List.mem_range.mp hk
  match k, hk with
  | 0, _ => exact wd_3_77
  | 1, _ => exact wd_3_79
  | 2, _ => exact wd_3_81
  | 3, _ => exact wd_3_83
  | 4, _ => exact wd_3_85
  | 5, _ => exact wd_3_87
  | 6, _ => exact wd_3_89
  | 7, _ => exact wd_3_91
  | 8, _ => exact wd_3_93
  | 9, _ => exact wd_3_95
  | 10, _ => exact wd_3_97
  | 11, _ => exact wd_3_99
  | 12, _ => exact wd_3_101
  | 13, _ => exact wd_3_103
  | 14, _ => exact wd_3_105
  | 15, _ => exact wd_3_107
  | k + 16, hk => exact absurd hk (by omega)
theorem i_Macros : ∀ w ∈ u_ws R_Macros F_Macros 17, w ∈ gT := by
  intro w h
  obtain ⟨k, hk, rfl⟩ := List.mem_map.mp h
  have hk := List.mem_range.mp hk
  match k, hk with
  | 0, _ => exact wd_2_184
  | 1, _ => exact wd_2_186
  | 2, _ => exact wd_2_188
  | 3, _ => exact wd_2_190
  | 4, _ => exact wd_2_192
  | 5, _ => exact wd_2_194
  | 6, _ => exact wd_2_196
  | 7, _ => exact wd_2_198
  | 8, _ => exact wd_2_200
  | 9, _ => exact wd_2_202
  | 10, _ => exact wd_2_204
  | 11, _ => exact wd_2_206
  | 12, _ => exact wd_2_208
  | 13, _ => exact wd_2_210
  | 14, _ => exact wd_2_212
  | 15, _ => exact wd_2_214
  | 16, _ => exact wd_2_216
  | k + 17, hk => exact absurd hk (by omega)
theorem i_Raster : ∀ w ∈ u_ws R_Raster F_Raster 14, w ∈ gT := by
  intro w h
  obtain ⟨k, hk, rfl⟩ := List.mem_map.mp h
  have hk := List.mem_range.mp hk
  match k, hk with
  | 0, _ => exact wd_3_12
  | 1, _ => exact wd_3_14
  | 2, _ => exact wd_3_16
  | 3, _ => exact wd_3_18
  | 4, _ => exact wd_3_20
  | 5, _ => exact wd_3_22
  | 6, _ => exact wd_3_24
  | 7, _ => exact wd_3_26
  | 8, _ => exact wd_3_28
  | 9, _ => exact wd_3_30
  | 10, _ => exact wd_3_32
  | 11, _ => exact wd_3_34
  | 12, _ => exact wd_3_36
  | 13, _ => exact wd_3_38
  | k + 14, hk => exact absurd hk (by omega)
theorem i_PictureFile : ∀ w ∈ u_ws R_PictureFile F_PictureFile 8, w ∈ gT := by
  intro w h
  obtain ⟨k, hk, rfl⟩ := List.mem_map.mp h
  have hk := List.mem_range.mp hk
  match k, hk with
  | 0, _ => exact wd_3_189
  | 1, _ => exact wd_3_191
  | 2, _ => exact wd_3_193
  | 3, _ => exact wd_3_195
  | 4, _ => exact wd_3_197
  | 5, _ => exact wd_3_199
  | 6, _ => exact wd_3_201
  | 7, _ => exact wd_3_203
  | k + 8, hk => exact absurd hk (by omega)
theorem i_Interpreter : ∀ w ∈ u_ws R_Interpreter F_Interpreter 20, w ∈ gT := by
  intro w h
  obtain ⟨k, hk, rfl⟩ := List.mem_map.mp h
  have hk := List.mem_range.mp hk
  match k, hk with
  | 0, _ => exact wd_3_132
  | 1, _ => exact wd_3_134
  | 2, _ => exact wd_3_136
  | 3, _ => exact wd_3_138
  | 4, _ => exact wd_3_140
  | 5, _ => exact wd_3_142
  | 6, _ => exact wd_3_144
  | 7, _ => exact wd_3_146
  | 8, _ => exact wd_3_148
  | 9, _ => exact wd_3_150
  | 10, _ => exact wd_3_152
  | 11, _ => exact wd_3_154
  | 12, _ => exact wd_3_156
  | 13, _ => exact wd_3_158
  | 14, _ => exact wd_3_160
  | 15, _ => exact wd_3_162
  | 16, _ => exact wd_3_164
  | 17, _ => exact wd_3_166
  | 18, _ => exact wd_3_168
  | 19, _ => exact wd_3_170
  | k + 20, hk => exact absurd hk (by omega)
abbrev b_OutFile_init : ByteArray := prog_7_method_1_code
abbrev y_OutFile_init : MethodName := ⟨"SheetPrinter$OutFile", "<init>", "()V"⟩
abbrev w_OutFile_init : List Cond := .code y_OutFile_init b_OutFile_init 1 none :: gT
theorem gd_OutFile_init : GoodIn gT w_OutFile_init := gW wd_3_210
theorem d_OutFile_init_0 : decode b_OutFile_init 0 = .ok (.aload_n 0, 1) := by decide +kernel
theorem d_OutFile_init_1 : decode b_OutFile_init 1 = .ok (.invokespecial 1, 3) := by decide +kernel
theorem d_OutFile_init_4 : decode b_OutFile_init 4 = .ok (.aload_n 0, 1) := by decide +kernel
theorem d_OutFile_init_5 : decode b_OutFile_init 5 = .ok (.ldc 9, 2) := by decide +kernel
theorem d_OutFile_init_7 : decode b_OutFile_init 7 = .ok (.newarray .byte, 2) := by decide +kernel
theorem d_OutFile_init_9 : decode b_OutFile_init 9 = .ok (.putfield 10, 3) := by decide +kernel
theorem d_OutFile_init_12 : decode b_OutFile_init 12 = .ok (.aload_n 0, 1) := by decide +kernel
theorem d_OutFile_init_13 : decode b_OutFile_init 13 = .ok (.sipush 160, 3) := by decide +kernel
theorem d_OutFile_init_16 : decode b_OutFile_init 16 = .ok (.newarray .int, 2) := by decide +kernel
theorem d_OutFile_init_18 : decode b_OutFile_init 18 = .ok (.putfield 14, 3) := by decide +kernel
theorem d_OutFile_init_21 : decode b_OutFile_init 21 = .ok (.return_, 1) := by decide +kernel
abbrev b_Coder_init : ByteArray := prog_2_method_1_code
abbrev y_Coder_init : MethodName := ⟨"SheetPrinter$Coder", "<init>", "(LSheetPrinter$OutFile;)V"⟩
abbrev w_Coder_init : List Cond := .code y_Coder_init b_Coder_init 2 none :: gT
theorem gd_Coder_init : GoodIn gT w_Coder_init := gW wd_3_239
theorem d_Coder_init_0 : decode b_Coder_init 0 = .ok (.aload_n 0, 1) := by decide +kernel
theorem d_Coder_init_1 : decode b_Coder_init 1 = .ok (.invokespecial 3, 3) := by decide +kernel
theorem d_Coder_init_4 : decode b_Coder_init 4 = .ok (.aload_n 0, 1) := by decide +kernel
theorem d_Coder_init_5 : decode b_Coder_init 5 = .ok (.sipush 10000, 3) := by decide +kernel
theorem d_Coder_init_8 : decode b_Coder_init 8 = .ok (.newarray .int, 2) := by decide +kernel
theorem d_Coder_init_10 : decode b_Coder_init 10 = .ok (.putfield 9, 3) := by decide +kernel
theorem d_Coder_init_13 : decode b_Coder_init 13 = .ok (.aload_n 0, 1) := by decide +kernel
theorem d_Coder_init_14 : decode b_Coder_init 14 = .ok (.sipush 10000, 3) := by decide +kernel
theorem d_Coder_init_17 : decode b_Coder_init 17 = .ok (.newarray .int, 2) := by decide +kernel
theorem d_Coder_init_19 : decode b_Coder_init 19 = .ok (.putfield 15, 3) := by decide +kernel
theorem d_Coder_init_22 : decode b_Coder_init 22 = .ok (.aload_n 0, 1) := by decide +kernel
theorem d_Coder_init_23 : decode b_Coder_init 23 = .ok (.aload_n 1, 1) := by decide +kernel
theorem d_Coder_init_24 : decode b_Coder_init 24 = .ok (.putfield 18, 3) := by decide +kernel
theorem d_Coder_init_27 : decode b_Coder_init 27 = .ok (.return_, 1) := by decide +kernel
abbrev b_Parser_init : ByteArray := prog_9_method_1_code
abbrev y_Parser_init : MethodName := ⟨"SheetPrinter$Parser", "<init>", "()V"⟩
abbrev w_Parser_init : List Cond := .code y_Parser_init b_Parser_init 1 none :: gT
theorem gd_Parser_init : GoodIn gT w_Parser_init := gW wd_3_51
theorem d_Parser_init_0 : decode b_Parser_init 0 = .ok (.aload_n 0, 1) := by decide +kernel
theorem d_Parser_init_1 : decode b_Parser_init 1 = .ok (.invokespecial 1, 3) := by decide +kernel
theorem d_Parser_init_4 : decode b_Parser_init 4 = .ok (.aload_n 0, 1) := by decide +kernel
theorem d_Parser_init_5 : decode b_Parser_init 5 = .ok (.sipush 4096, 3) := by decide +kernel
theorem d_Parser_init_8 : decode b_Parser_init 8 = .ok (.newarray .byte, 2) := by decide +kernel
theorem d_Parser_init_10 : decode b_Parser_init 10 = .ok (.putfield 9, 3) := by decide +kernel
theorem d_Parser_init_13 : decode b_Parser_init 13 = .ok (.return_, 1) := by decide +kernel
abbrev b_Macros_init : ByteArray := prog_6_method_1_code
abbrev y_Macros_init : MethodName := ⟨"SheetPrinter$Macros", "<init>", "()V"⟩
abbrev w_Macros_init : List Cond := .code y_Macros_init b_Macros_init 1 none :: gT
theorem gd_Macros_init : GoodIn gT w_Macros_init := gW wd_2_155
theorem d_Macros_init_0 : decode b_Macros_init 0 = .ok (.aload_n 0, 1) := by decide +kernel
theorem d_Macros_init_1 : decode b_Macros_init 1 = .ok (.invokespecial 3, 3) := by decide +kernel
theorem d_Macros_init_4 : decode b_Macros_init 4 = .ok (.aload_n 0, 1) := by decide +kernel
theorem d_Macros_init_5 : decode b_Macros_init 5 = .ok (.bipush 32, 2) := by decide +kernel
theorem d_Macros_init_7 : decode b_Macros_init 7 = .ok (.newarray .int, 2) := by decide +kernel
theorem d_Macros_init_9 : decode b_Macros_init 9 = .ok (.putfield 11, 3) := by decide +kernel
theorem d_Macros_init_12 : decode b_Macros_init 12 = .ok (.aload_n 0, 1) := by decide +kernel
theorem d_Macros_init_13 : decode b_Macros_init 13 = .ok (.bipush 32, 2) := by decide +kernel
theorem d_Macros_init_15 : decode b_Macros_init 15 = .ok (.newarray .int, 2) := by decide +kernel
theorem d_Macros_init_17 : decode b_Macros_init 17 = .ok (.putfield 15, 3) := by decide +kernel
theorem d_Macros_init_20 : decode b_Macros_init 20 = .ok (.aload_n 0, 1) := by decide +kernel
theorem d_Macros_init_21 : decode b_Macros_init 21 = .ok (.bipush 32, 2) := by decide +kernel
theorem d_Macros_init_23 : decode b_Macros_init 23 = .ok (.newarray .int, 2) := by decide +kernel
theorem d_Macros_init_25 : decode b_Macros_init 25 = .ok (.putfield 18, 3) := by decide +kernel
theorem d_Macros_init_28 : decode b_Macros_init 28 = .ok (.aload_n 0, 1) := by decide +kernel
theorem d_Macros_init_29 : decode b_Macros_init 29 = .ok (.bipush 32, 2) := by decide +kernel
theorem d_Macros_init_31 : decode b_Macros_init 31 = .ok (.newarray .boolean, 2) := by decide +kernel
theorem d_Macros_init_33 : decode b_Macros_init 33 = .ok (.putfield 21, 3) := by decide +kernel
theorem d_Macros_init_36 : decode b_Macros_init 36 = .ok (.aload_n 0, 1) := by decide +kernel
theorem d_Macros_init_37 : decode b_Macros_init 37 = .ok (.sipush 16384, 3) := by decide +kernel
theorem d_Macros_init_40 : decode b_Macros_init 40 = .ok (.newarray .byte, 2) := by decide +kernel
theorem d_Macros_init_42 : decode b_Macros_init 42 = .ok (.putfield 25, 3) := by decide +kernel
theorem d_Macros_init_45 : decode b_Macros_init 45 = .ok (.aload_n 0, 1) := by decide +kernel
theorem d_Macros_init_46 : decode b_Macros_init 46 = .ok (.sipush 16384, 3) := by decide +kernel
theorem d_Macros_init_49 : decode b_Macros_init 49 = .ok (.getstatic 29, 3) := by decide +kernel
theorem d_Macros_init_52 : decode b_Macros_init 52 = .ok (.arraylength, 1) := by decide +kernel
theorem d_Macros_init_53 : decode b_Macros_init 53 = .ok (.iadd, 1) := by decide +kernel
theorem d_Macros_init_54 : decode b_Macros_init 54 = .ok (.newarray .byte, 2) := by decide +kernel
theorem d_Macros_init_56 : decode b_Macros_init 56 = .ok (.putfield 32, 3) := by decide +kernel
theorem d_Macros_init_59 : decode b_Macros_init 59 = .ok (.aload_n 0, 1) := by decide +kernel
theorem d_Macros_init_60 : decode b_Macros_init 60 = .ok (.bipush 8, 2) := by decide +kernel
theorem d_Macros_init_62 : decode b_Macros_init 62 = .ok (.newarray .int, 2) := by decide +kernel
theorem d_Macros_init_64 : decode b_Macros_init 64 = .ok (.putfield 35, 3) := by decide +kernel
theorem d_Macros_init_67 : decode b_Macros_init 67 = .ok (.aload_n 0, 1) := by decide +kernel
theorem d_Macros_init_68 : decode b_Macros_init 68 = .ok (.bipush 8, 2) := by decide +kernel
theorem d_Macros_init_70 : decode b_Macros_init 70 = .ok (.newarray .int, 2) := by decide +kernel
theorem d_Macros_init_72 : decode b_Macros_init 72 = .ok (.putfield 38, 3) := by decide +kernel
theorem d_Macros_init_75 : decode b_Macros_init 75 = .ok (.return_, 1) := by decide +kernel
abbrev b_Raster_endJob : ByteArray := prog_11_method_2_code
abbrev y_Raster_endJob : MethodName := ⟨"SheetPrinter$Raster", "endJob", "()V"⟩
abbrev w_Raster_endJob : List Cond := .code y_Raster_endJob b_Raster_endJob 1 none :: gT
theorem gd_Raster_endJob : GoodIn gT w_Raster_endJob := gW wd_2_228
theorem d_Raster_endJob_0 : decode b_Raster_endJob 0 = .ok (.aload_n 0, 1) := by decide +kernel
theorem d_Raster_endJob_1 : decode b_Raster_endJob 1 = .ok (.iconst 0, 1) := by decide +kernel
theorem d_Raster_endJob_2 : decode b_Raster_endJob 2 = .ok (.putfield 20, 3) := by decide +kernel
theorem d_Raster_endJob_5 : decode b_Raster_endJob 5 = .ok (.aload_n 0, 1) := by decide +kernel
theorem d_Raster_endJob_6 : decode b_Raster_endJob 6 = .ok (.bipush 75, 2) := by decide +kernel
theorem d_Raster_endJob_8 : decode b_Raster_endJob 8 = .ok (.putfield 24, 3) := by decide +kernel
theorem d_Raster_endJob_11 : decode b_Raster_endJob 11 = .ok (.aload_n 0, 1) := by decide +kernel
theorem d_Raster_endJob_12 : decode b_Raster_endJob 12 = .ok (.iconst 0, 1) := by decide +kernel
theorem d_Raster_endJob_13 : decode b_Raster_endJob 13 = .ok (.putfield 27, 3) := by decide +kernel
theorem d_Raster_endJob_16 : decode b_Raster_endJob 16 = .ok (.aload_n 0, 1) := by decide +kernel
theorem d_Raster_endJob_17 : decode b_Raster_endJob 17 = .ok (.iconst 0, 1) := by decide +kernel
theorem d_Raster_endJob_18 : decode b_Raster_endJob 18 = .ok (.putfield 30, 3) := by decide +kernel
theorem d_Raster_endJob_21 : decode b_Raster_endJob 21 = .ok (.aload_n 0, 1) := by decide +kernel
theorem d_Raster_endJob_22 : decode b_Raster_endJob 22 = .ok (.iconst 0, 1) := by decide +kernel
theorem d_Raster_endJob_23 : decode b_Raster_endJob 23 = .ok (.putfield 33, 3) := by decide +kernel
theorem d_Raster_endJob_26 : decode b_Raster_endJob 26 = .ok (.return_, 1) := by decide +kernel
abbrev b_Raster_init : ByteArray := prog_11_method_1_code
abbrev y_Raster_init : MethodName := ⟨"SheetPrinter$Raster", "<init>", "(I)V"⟩
abbrev w_Raster_init : List Cond := .code y_Raster_init b_Raster_init 2 none :: gT
theorem gd_Raster_init : GoodIn gT w_Raster_init := gW wd_2_223
theorem d_Raster_init_0 : decode b_Raster_init 0 = .ok (.aload_n 0, 1) := by decide +kernel
theorem d_Raster_init_1 : decode b_Raster_init 1 = .ok (.invokespecial 1, 3) := by decide +kernel
theorem d_Raster_init_4 : decode b_Raster_init 4 = .ok (.aload_n 0, 1) := by decide +kernel
theorem d_Raster_init_5 : decode b_Raster_init 5 = .ok (.sipush 640, 3) := by decide +kernel
theorem d_Raster_init_8 : decode b_Raster_init 8 = .ok (.newarray .byte, 2) := by decide +kernel
theorem d_Raster_init_10 : decode b_Raster_init 10 = .ok (.putfield 9, 3) := by decide +kernel
theorem d_Raster_init_13 : decode b_Raster_init 13 = .ok (.aload_n 0, 1) := by decide +kernel
theorem d_Raster_init_14 : decode b_Raster_init 14 = .ok (.iload_n 1, 1) := by decide +kernel
theorem d_Raster_init_15 : decode b_Raster_init 15 = .ok (.putfield 13, 3) := by decide +kernel
theorem d_Raster_init_18 : decode b_Raster_init 18 = .ok (.aload_n 0, 1) := by decide +kernel
theorem d_Raster_init_19 : decode b_Raster_init 19 = .ok (.invokevirtual 17, 3) := by decide +kernel
theorem d_Raster_init_22 : decode b_Raster_init 22 = .ok (.return_, 1) := by decide +kernel
abbrev b_PictureFile_init : ByteArray := prog_10_method_1_code
abbrev y_PictureFile_init : MethodName := ⟨"SheetPrinter$PictureFile", "<init>", "([B)V"⟩
abbrev w_PictureFile_init : List Cond := .code y_PictureFile_init b_PictureFile_init 2 none :: gT
theorem gd_PictureFile_init : GoodIn gT w_PictureFile_init := gW wd_3_177
theorem d_PictureFile_init_0 : decode b_PictureFile_init 0 = .ok (.aload_n 0, 1) := by decide +kernel
theorem d_PictureFile_init_1 : decode b_PictureFile_init 1 = .ok (.invokespecial 3, 3) := by decide +kernel
theorem d_PictureFile_init_4 : decode b_PictureFile_init 4 = .ok (.aload_n 0, 1) := by decide +kernel
theorem d_PictureFile_init_5 : decode b_PictureFile_init 5 = .ok (.getstatic 9, 3) := by decide +kernel
theorem d_PictureFile_init_8 : decode b_PictureFile_init 8 = .ok (.arraylength, 1) := by decide +kernel
theorem d_PictureFile_init_9 : decode b_PictureFile_init 9 = .ok (.newarray .int, 2) := by decide +kernel
theorem d_PictureFile_init_11 : decode b_PictureFile_init 11 = .ok (.putfield 15, 3) := by decide +kernel
theorem d_PictureFile_init_14 : decode b_PictureFile_init 14 = .ok (.aload_n 0, 1) := by decide +kernel
theorem d_PictureFile_init_15 : decode b_PictureFile_init 15 = .ok (.getstatic 9, 3) := by decide +kernel
theorem d_PictureFile_init_18 : decode b_PictureFile_init 18 = .ok (.arraylength, 1) := by decide +kernel
theorem d_PictureFile_init_19 : decode b_PictureFile_init 19 = .ok (.newarray .int, 2) := by decide +kernel
theorem d_PictureFile_init_21 : decode b_PictureFile_init 21 = .ok (.putfield 18, 3) := by decide +kernel
theorem d_PictureFile_init_24 : decode b_PictureFile_init 24 = .ok (.aload_n 0, 1) := by decide +kernel
theorem d_PictureFile_init_25 : decode b_PictureFile_init 25 = .ok (.getstatic 9, 3) := by decide +kernel
theorem d_PictureFile_init_28 : decode b_PictureFile_init 28 = .ok (.arraylength, 1) := by decide +kernel
theorem d_PictureFile_init_29 : decode b_PictureFile_init 29 = .ok (.newarray .int, 2) := by decide +kernel
theorem d_PictureFile_init_31 : decode b_PictureFile_init 31 = .ok (.putfield 21, 3) := by decide +kernel
theorem d_PictureFile_init_34 : decode b_PictureFile_init 34 = .ok (.aload_n 0, 1) := by decide +kernel
theorem d_PictureFile_init_35 : decode b_PictureFile_init 35 = .ok (.aload_n 1, 1) := by decide +kernel
theorem d_PictureFile_init_36 : decode b_PictureFile_init 36 = .ok (.putfield 24, 3) := by decide +kernel
theorem d_PictureFile_init_39 : decode b_PictureFile_init 39 = .ok (.return_, 1) := by decide +kernel
abbrev b_Interpreter_init : ByteArray := prog_4_method_1_code
abbrev y_Interpreter_init : MethodName := ⟨"SheetPrinter$Interpreter", "<init>", "([BLSheetPrinter$Page;LSheetPrinter$Sheet;LSheetPrinter$FontShelf;LSheetPrinter$Macros;LSheetPrinter$Raster;)V"⟩
abbrev w_Interpreter_init : List Cond := .code y_Interpreter_init b_Interpreter_init 7 none :: gT
theorem gd_Interpreter_init : GoodIn gT w_Interpreter_init := gW wd_3_45
theorem d_Interpreter_init_0 : decode b_Interpreter_init 0 = .ok (.aload_n 0, 1) := by decide +kernel
theorem d_Interpreter_init_1 : decode b_Interpreter_init 1 = .ok (.invokespecial 5, 3) := by decide +kernel
theorem d_Interpreter_init_4 : decode b_Interpreter_init 4 = .ok (.aload_n 0, 1) := by decide +kernel
theorem d_Interpreter_init_5 : decode b_Interpreter_init 5 = .ok (.new 1, 3) := by decide +kernel
theorem d_Interpreter_init_8 : decode b_Interpreter_init 8 = .ok (.dup, 1) := by decide +kernel
theorem d_Interpreter_init_9 : decode b_Interpreter_init 9 = .ok (.invokespecial 11, 3) := by decide +kernel
theorem d_Interpreter_init_12 : decode b_Interpreter_init 12 = .ok (.putfield 12, 3) := by decide +kernel
theorem d_Interpreter_init_15 : decode b_Interpreter_init 15 = .ok (.aload_n 0, 1) := by decide +kernel
theorem d_Interpreter_init_16 : decode b_Interpreter_init 16 = .ok (.ldc 20, 2) := by decide +kernel
theorem d_Interpreter_init_18 : decode b_Interpreter_init 18 = .ok (.newarray .byte, 2) := by decide +kernel
theorem d_Interpreter_init_20 : decode b_Interpreter_init 20 = .ok (.putfield 21, 3) := by decide +kernel
theorem d_Interpreter_init_23 : decode b_Interpreter_init 23 = .ok (.aload_n 0, 1) := by decide +kernel
theorem d_Interpreter_init_24 : decode b_Interpreter_init 24 = .ok (.iconst 3, 1) := by decide +kernel
theorem d_Interpreter_init_25 : decode b_Interpreter_init 25 = .ok (.newarray .int, 2) := by decide +kernel
theorem d_Interpreter_init_27 : decode b_Interpreter_init 27 = .ok (.putfield 25, 3) := by decide +kernel
theorem d_Interpreter_init_30 : decode b_Interpreter_init 30 = .ok (.aload_n 0, 1) := by decide +kernel
theorem d_Interpreter_init_31 : decode b_Interpreter_init 31 = .ok (.iconst 3, 1) := by decide +kernel
theorem d_Interpreter_init_32 : decode b_Interpreter_init 32 = .ok (.newarray .int, 2) := by decide +kernel
theorem d_Interpreter_init_34 : decode b_Interpreter_init 34 = .ok (.putfield 29, 3) := by decide +kernel
theorem d_Interpreter_init_37 : decode b_Interpreter_init 37 = .ok (.aload_n 0, 1) := by decide +kernel
theorem d_Interpreter_init_38 : decode b_Interpreter_init 38 = .ok (.iconst 3, 1) := by decide +kernel
theorem d_Interpreter_init_39 : decode b_Interpreter_init 39 = .ok (.newarray .boolean, 2) := by decide +kernel
theorem d_Interpreter_init_41 : decode b_Interpreter_init 41 = .ok (.putfield 32, 3) := by decide +kernel
theorem d_Interpreter_init_44 : decode b_Interpreter_init 44 = .ok (.aload_n 0, 1) := by decide +kernel
theorem d_Interpreter_init_45 : decode b_Interpreter_init 45 = .ok (.bipush 24, 2) := by decide +kernel
theorem d_Interpreter_init_47 : decode b_Interpreter_init 47 = .ok (.newarray .int, 2) := by decide +kernel
theorem d_Interpreter_init_49 : decode b_Interpreter_init 49 = .ok (.putfield 36, 3) := by decide +kernel
theorem d_Interpreter_init_52 : decode b_Interpreter_init 52 = .ok (.aload_n 0, 1) := by decide +kernel
theorem d_Interpreter_init_53 : decode b_Interpreter_init 53 = .ok (.bipush 24, 2) := by decide +kernel
theorem d_Interpreter_init_55 : decode b_Interpreter_init 55 = .ok (.newarray .int, 2) := by decide +kernel
theorem d_Interpreter_init_57 : decode b_Interpreter_init 57 = .ok (.putfield 39, 3) := by decide +kernel
theorem d_Interpreter_init_60 : decode b_Interpreter_init 60 = .ok (.aload_n 0, 1) := by decide +kernel
theorem d_Interpreter_init_61 : decode b_Interpreter_init 61 = .ok (.iconst 3, 1) := by decide +kernel
theorem d_Interpreter_init_62 : decode b_Interpreter_init 62 = .ok (.newarray .int, 2) := by decide +kernel
theorem d_Interpreter_init_64 : decode b_Interpreter_init 64 = .ok (.putfield 42, 3) := by decide +kernel
theorem d_Interpreter_init_67 : decode b_Interpreter_init 67 = .ok (.aload_n 0, 1) := by decide +kernel
theorem d_Interpreter_init_68 : decode b_Interpreter_init 68 = .ok (.iconst 3, 1) := by decide +kernel
theorem d_Interpreter_init_69 : decode b_Interpreter_init 69 = .ok (.newarray .int, 2) := by decide +kernel
theorem d_Interpreter_init_71 : decode b_Interpreter_init 71 = .ok (.putfield 45, 3) := by decide +kernel
theorem d_Interpreter_init_74 : decode b_Interpreter_init 74 = .ok (.aload_n 0, 1) := by decide +kernel
theorem d_Interpreter_init_75 : decode b_Interpreter_init 75 = .ok (.aload_n 1, 1) := by decide +kernel
theorem d_Interpreter_init_76 : decode b_Interpreter_init 76 = .ok (.putfield 48, 3) := by decide +kernel
theorem d_Interpreter_init_79 : decode b_Interpreter_init 79 = .ok (.aload_n 0, 1) := by decide +kernel
theorem d_Interpreter_init_80 : decode b_Interpreter_init 80 = .ok (.aload_n 2, 1) := by decide +kernel
theorem d_Interpreter_init_81 : decode b_Interpreter_init 81 = .ok (.putfield 51, 3) := by decide +kernel
theorem d_Interpreter_init_84 : decode b_Interpreter_init 84 = .ok (.aload_n 0, 1) := by decide +kernel
theorem d_Interpreter_init_85 : decode b_Interpreter_init 85 = .ok (.aload_n 3, 1) := by decide +kernel
theorem d_Interpreter_init_86 : decode b_Interpreter_init 86 = .ok (.putfield 55, 3) := by decide +kernel
theorem d_Interpreter_init_89 : decode b_Interpreter_init 89 = .ok (.aload_n 0, 1) := by decide +kernel
theorem d_Interpreter_init_90 : decode b_Interpreter_init 90 = .ok (.aload 4, 2) := by decide +kernel
theorem d_Interpreter_init_92 : decode b_Interpreter_init 92 = .ok (.putfield 59, 3) := by decide +kernel
theorem d_Interpreter_init_95 : decode b_Interpreter_init 95 = .ok (.aload_n 0, 1) := by decide +kernel
theorem d_Interpreter_init_96 : decode b_Interpreter_init 96 = .ok (.aload 5, 2) := by decide +kernel
theorem d_Interpreter_init_98 : decode b_Interpreter_init 98 = .ok (.putfield 63, 3) := by decide +kernel
theorem d_Interpreter_init_101 : decode b_Interpreter_init 101 = .ok (.aload_n 0, 1) := by decide +kernel
theorem d_Interpreter_init_102 : decode b_Interpreter_init 102 = .ok (.aload 6, 2) := by decide +kernel
theorem d_Interpreter_init_104 : decode b_Interpreter_init 104 = .ok (.putfield 67, 3) := by decide +kernel
theorem d_Interpreter_init_107 : decode b_Interpreter_init 107 = .ok (.return_, 1) := by decide +kernel
abbrev at_c_OutFile_init (dC : Nat → ClassId) (dI : Nat → Nat → Nat) (h0 : Nat) (A : Nat → Prop) (u : Unit) (t : State) : Prop := match u with
  | _ => ∃ (q_1 : Nat) (q_3 : Nat) (cA_2 : ClassId) (cA_4 : ClassId), va_P (dC, dI) vcl [(h0, .inr (7, [.ref q_1, .ref q_3, .int 0, .int 0, .int 0])), (q_1, .inl (cA_2, 60160, .inl (fun _ => 0))), (q_3, .inl (cA_4, 160, .inl (fun _ => 0)))] t.heap ∧ va_K (dC, dI) vcl [(cA_2, .byte), (cA_4, .int)] t ∧ va_D A [(h0, .inr (7, [.ref q_1, .ref q_3, .int 0, .int 0, .int 0])), (q_1, .inl (cA_2, 60160, .inl (fun _ => 0))), (q_3, .inl (cA_4, 160, .inl (fun _ => 0)))]
abbrev po_c_OutFile_init (h0 : Nat) (u : Unit) : Prop := match u with
  | _ => True
abbrev q_c_OutFile_init (dC : Nat → ClassId) (dI : Nat → Nat → Nat) (h0 : Nat) (A : Nat → Prop) : Array Value → State → Outcome → State → Prop := va_Qv (po_c_OutFile_init h0) (at_c_OutFile_init dC dI h0 A) A
abbrev rm_c_OutFile_init : Room := { frames := 1, cells := 2, slots := 60320, locals := 12 }
set_option maxHeartbeats 4000000 in
set_option maxRecDepth 100000 in
theorem c_OutFile_init (l : Launch) (dC : Nat → ClassId) (dI : Nat → Nat → Nat) (tt : Nat → Nat) (h0 : Nat) (sz : Nat)  : Met l y_OutFile_init w_OutFile_init rm_c_OutFile_init (va_Pc [.ref h0] (fun U => U.heap.size = sz ∧ va_P (dC, dI) vcl [(h0, .inr (7, [.null, .null, .int 0, .int 0, .int 0]))] U.heap ∧ va_K (dC, dI) vcl [] U ∧ va_D (fun _ => True) [(h0, .inr (7, [.null, .null, .int 0, .int 0, .int 0]))] ∧ SF tt (va_A [(h0, .inr (7, [.null, .null, .int 0, .int 0, .int 0]))] sz) U U.heap)) (q_c_OutFile_init dC dI h0 (va_A [(h0, .inr (7, [.null, .null, .int 0, .int 0, .int 0]))] sz)) 2 60320 (va_A [(h0, .inr (7, [.null, .null, .int 0, .int 0, .int 0]))] sz) := by
  refine Met.ofW (cc := b_OutFile_init) (maxL := 1) (ret := none) (by decide) rfl ?_
  intro p e s m args below meth c s₁ B hml hv
  obtain ⟨rfl, hsz, hP, hK, hD0, hF⟩ := hv
  have hx := B.exec
  have hb := B.bytes
  have hr := B.returns
  have hwd : ∀ w ∈ gT, w.before _ s = true := fun w h => atoms_spec (ws := w_OutFile_init) B.pre w (List.mem_cons_of_mem _ h)
  have hown : s.vm.findClass R_OutFile = some m.cls := findClass_of_methodNamed B.named
  have hlocks := B.notSynchronized
  have hin : meth.name = "<init>" := (name_of_methodNamed B.named B.method).1
  subst hsz
  have hD := hD0.self (sz := s.heap.size)
  generalize hAe : va_A [(h0, .inr (7, [.null, .null, .int 0, .int 0, .int 0]))] s.heap.size = A at hD hF ⊢
  have hA : ∀ q : Nat, s.heap.size ≤ q → A q := fun q h => by rw [← hAe]; exact Or.inr h
  have hS : va_S A s.heap s.heap [] := va_S.rf
  have hP : va_P (dC, dI) vcl [(h0, .inr (7, [.null, .null, .int 0, .int 0, .int 0]))] s.heap := hP
  have hl := lv_entry ([.ref h0]) (n := 1) (Nat.le_of_ble_eq_true rfl)
  rw [lg_entry_eq]
  generalize (lg_sl ([.ref h0]) ++ List.replicate (1 - (lg_sl ([.ref h0])).length) Slot.unset).toArray = ls at hl ⊢
  have hl : lv_has ls 1 [(0, .ref h0)] := hl
  refine lv_aload_n hx hb d_OutFile_init_0 rfl (lv_at hl 0 rfl) ?_
  refine W.objInit hx hb hown (hwd _ wd_3_211) (hwd _ wd_1_35) (hwd _ wd_1_36) rfl (by rw [hml]; exact hl.1) rfl d_OutFile_init_1 (Nat.le_of_ble_eq_true rfl) (Nat.le_of_ble_eq_true rfl) ?_
  refine W.eq (g2 := F0 m 4 ls []) rfl ?_
  refine lv_aload_n hx hb d_OutFile_init_4 rfl (lv_at hl 0 rfl) ?_
  refine lv_ldc hx hb hown (hwd _ wd_3_212) d_OutFile_init_5 ?_
  refine va_newa (atype := .byte) (N' := 60160) (a0 := (60160, .inl (fun _ => 0))) (ty := .byte) (n := 60160) hx hb (hwd _ wd_1_166) rfl hK hP hD hS hA (fun _ => rfl) (by decide) (by decide) (by decide) (Nat.le_of_ble_eq_true rfl) (Nat.le_of_ble_eq_true rfl) d_OutFile_init_7 ?_
  clear hP hD hS hK
  intro q_1 cA_2 H hK hP hD hS
  replace hP : va_P (dC, dI) vcl [(h0, .inr (7, [.null, .null, .int 0, .int 0, .int 0])), (q_1, .inl (cA_2, 60160, .inl (fun _ => 0)))] H := hP
  replace hD : va_D A [(h0, .inr (7, [.null, .null, .int 0, .int 0, .int 0])), (q_1, .inl (cA_2, 60160, .inl (fun _ => 0)))] := hD
  replace hK : va_K (dC, dI) vcl [(cA_2, .byte)] s := hK
  refine W.widen (k := 1) (n := 60160) (by decide) (by decide) ?_
  refine va_putF (D := (dC, dI)) (ci := 7) (v := .ref q_1) (ty := (.array .byte)) (C := R_OutFile) (T := F_OutFile) (N := 5) hx hb hwd i_OutFile t_OutFile to_OutFile no_OutFile hown hK hP hD hS 0 rfl rfl 0 (by decide) (hwd _ wd_3_213) (fun _ h9 => h9) rfl hin rfl (by decide +kernel) rfl rfl (Nat.le_of_ble_eq_true rfl) d_OutFile_init_9 ?_
  clear hP hD hS
  intro H locs hP hD hS
  replace hP : va_P (dC, dI) vcl [(h0, .inr (7, [.ref q_1, .null, .int 0, .int 0, .int 0])), (q_1, .inl (cA_2, 60160, .inl (fun _ => 0)))] H := hP
  replace hD : va_D A [(h0, .inr (7, [.ref q_1, .null, .int 0, .int 0, .int 0])), (q_1, .inl (cA_2, 60160, .inl (fun _ => 0)))] := hD
  refine lv_aload_n hx hb d_OutFile_init_12 rfl (lv_at hl 0 rfl) ?_
  refine lv_sipush (v := 160) hx hb d_OutFile_init_13 (by decide) ?_
  refine va_newa (atype := .int) (N' := 160) (a0 := (160, .inl (fun _ => 0))) (ty := .int) (n := 160) hx hb (hwd _ wd_1_167) rfl hK hP hD hS hA (fun _ => rfl) (by decide) (by decide) (by decide) (Nat.le_of_ble_eq_true rfl) (Nat.le_of_ble_eq_true rfl) d_OutFile_init_16 ?_
  clear hP hD hS hK
  intro q_3 cA_4 H hK hP hD hS
  replace hP : va_P (dC, dI) vcl [(h0, .inr (7, [.ref q_1, .null, .int 0, .int 0, .int 0])), (q_1, .inl (cA_2, 60160, .inl (fun _ => 0))), (q_3, .inl (cA_4, 160, .inl (fun _ => 0)))] H := hP
  replace hD : va_D A [(h0, .inr (7, [.ref q_1, .null, .int 0, .int 0, .int 0])), (q_1, .inl (cA_2, 60160, .inl (fun _ => 0))), (q_3, .inl (cA_4, 160, .inl (fun _ => 0)))] := hD
  replace hK : va_K (dC, dI) vcl [(cA_2, .byte), (cA_4, .int)] s := hK
  refine W.widen (k := 2) (n := 60320) (by decide) (by decide) ?_
  refine va_putF (D := (dC, dI)) (ci := 7) (v := .ref q_3) (ty := (.array .int)) (C := R_OutFile) (T := F_OutFile) (N := 5) hx hb hwd i_OutFile t_OutFile to_OutFile no_OutFile hown hK hP hD hS 0 rfl rfl 1 (by decide) (hwd _ wd_3_216) (fun _ h9 => h9) rfl hin rfl (by decide +kernel) rfl rfl (Nat.le_of_ble_eq_true rfl) d_OutFile_init_18 ?_
  clear hP hD hS
  intro H locs hP hD hS
  replace hP : va_P (dC, dI) vcl [(h0, .inr (7, [.ref q_1, .ref q_3, .int 0, .int 0, .int 0])), (q_1, .inl (cA_2, 60160, .inl (fun _ => 0))), (q_3, .inl (cA_4, 160, .inl (fun _ => 0)))] H := hP
  replace hD : va_D A [(h0, .inr (7, [.ref q_1, .ref q_3, .int 0, .int 0, .int 0])), (q_1, .inl (cA_2, 60160, .inl (fun _ => 0))), (q_3, .inl (cA_4, 160, .inl (fun _ => 0)))] := hD
  have hP9 := hP.sub (ws' := [(h0, .inr (7, [.ref q_1, .ref q_3, .int 0, .int 0, .int 0])), (q_1, .inl (cA_2, 60160, .inl (fun _ => 0))), (q_3, .inl (cA_4, 160, .inl (fun _ => 0)))]) [0, 1, 2] rfl
  have hD9 := hD.sub (ws' := [(h0, .inr (7, [.ref q_1, .ref q_3, .int 0, .int 0, .int 0])), (q_1, .inl (cA_2, 60160, .inl (fun _ => 0))), (q_3, .inl (cA_4, 160, .inl (fun _ => 0)))]) [0, 1, 2] (by decide) rfl
  have hK9 := hK.sub (tys' := [(cA_2, .byte), (cA_4, .int)]) [0, 1] rfl
  exact W.vret hx hb hr (fun t ht hW => ⟨⟨(), rfl, (trivial), q_1, q_3, cA_2, cA_4, by rw [ht]; exact hP9, va_K.moved hW.alike hK9, hD9⟩, hS.F ht⟩) hS.2.2 d_OutFile_init_21

abbrev at_c_Coder_init (dC : Nat → ClassId) (dI : Nat → Nat → Nat) (h0 : Nat) (fi : Nat) (A : Nat → Prop) (u : Unit) (t : State) : Prop := match u with
  | _ => ∃ (q_1 : Nat) (q_3 : Nat) (cA_2 : ClassId) (cA_4 : ClassId), va_P (dC, dI) vcl [(h0, .inr (2, [.ref fi, .int 0, .int 0, .int 0, .int 0, .int 0, .int 0, .ref q_1, .int 0, .ref q_3, .int 0])), (q_1, .inl (cA_2, 10000, .inl (fun _ => 0))), (q_3, .inl (cA_4, 10000, .inl (fun _ => 0)))] t.heap ∧ va_K (dC, dI) vcl [(cA_2, .int), (cA_4, .int)] t ∧ va_D A [(h0, .inr (2, [.ref fi, .int 0, .int 0, .int 0, .int 0, .int 0, .int 0, .ref q_1, .int 0, .ref q_3, .int 0])), (q_1, .inl (cA_2, 10000, .inl (fun _ => 0))), (q_3, .inl (cA_4, 10000, .inl (fun _ => 0)))]
abbrev po_c_Coder_init (h0 : Nat) (fi : Nat) (u : Unit) : Prop := match u with
  | _ => True
abbrev q_c_Coder_init (dC : Nat → ClassId) (dI : Nat → Nat → Nat) (h0 : Nat) (fi : Nat) (A : Nat → Prop) : Array Value → State → Outcome → State → Prop := va_Qv (po_c_Coder_init h0 fi) (at_c_Coder_init dC dI h0 fi A) A
abbrev rm_c_Coder_init : Room := { frames := 1, cells := 2, slots := 20000, locals := 12 }
set_option maxHeartbeats 4000000 in
set_option maxRecDepth 100000 in
theorem c_Coder_init (l : Launch) (dC : Nat → ClassId) (dI : Nat → Nat → Nat) (tt : Nat → Nat) (h0 : Nat) (fi : Nat) (sz : Nat)  : Met l y_Coder_init w_Coder_init rm_c_Coder_init (va_Pc [.ref h0, .ref fi] (fun U => U.heap.size = sz ∧ va_P (dC, dI) vcl [(h0, .inr (2, [.null, .int 0, .int 0, .int 0, .int 0, .int 0, .int 0, .null, .int 0, .null, .int 0]))] U.heap ∧ va_K (dC, dI) vcl [] U ∧ va_D (fun _ => True) [(h0, .inr (2, [.null, .int 0, .int 0, .int 0, .int 0, .int 0, .int 0, .null, .int 0, .null, .int 0]))] ∧ SF tt (va_A [(h0, .inr (2, [.null, .int 0, .int 0, .int 0, .int 0, .int 0, .int 0, .null, .int 0, .null, .int 0]))] sz) U U.heap)) (q_c_Coder_init dC dI h0 fi (va_A [(h0, .inr (2, [.null, .int 0, .int 0, .int 0, .int 0, .int 0, .int 0, .null, .int 0, .null, .int 0]))] sz)) 2 20000 (va_A [(h0, .inr (2, [.null, .int 0, .int 0, .int 0, .int 0, .int 0, .int 0, .null, .int 0, .null, .int 0]))] sz) := by
  refine Met.ofW (cc := b_Coder_init) (maxL := 2) (ret := none) (by decide) rfl ?_
  intro p e s m args below meth c s₁ B hml hv
  obtain ⟨rfl, hsz, hP, hK, hD0, hF⟩ := hv
  have hx := B.exec
  have hb := B.bytes
  have hr := B.returns
  have hwd : ∀ w ∈ gT, w.before _ s = true := fun w h => atoms_spec (ws := w_Coder_init) B.pre w (List.mem_cons_of_mem _ h)
  have hown : s.vm.findClass R_Coder = some m.cls := findClass_of_methodNamed B.named
  have hlocks := B.notSynchronized
  have hin : meth.name = "<init>" := (name_of_methodNamed B.named B.method).1
  subst hsz
  have hD := hD0.self (sz := s.heap.size)
  generalize hAe : va_A [(h0, .inr (2, [.null, .int 0, .int 0, .int 0, .int 0, .int 0, .int 0, .null, .int 0, .null, .int 0]))] s.heap.size = A at hD hF ⊢
  have hA : ∀ q : Nat, s.heap.size ≤ q → A q := fun q h => by rw [← hAe]; exact Or.inr h
  have hS : va_S A s.heap s.heap [] := va_S.rf
  have hP : va_P (dC, dI) vcl [(h0, .inr (2, [.null, .int 0, .int 0, .int 0, .int 0, .int 0, .int 0, .null, .int 0, .null, .int 0]))] s.heap := hP
  have hl := lv_entry ([.ref h0, .ref fi]) (n := 2) (Nat.le_of_ble_eq_true rfl)
  rw [lg_entry_eq]
  generalize (lg_sl ([.ref h0, .ref fi]) ++ List.replicate (2 - (lg_sl ([.ref h0, .ref fi])).length) Slot.unset).toArray = ls at hl ⊢
  have hl : lv_has ls 2 [(0, .ref h0), (1, .ref fi)] := hl
  refine lv_aload_n hx hb d_Coder_init_0 rfl (lv_at hl 0 rfl) ?_
  refine W.objInit hx hb hown (hwd _ wd_4_0) (hwd _ wd_1_35) (hwd _ wd_1_36) rfl (by rw [hml]; exact hl.1) rfl d_Coder_init_1 (Nat.le_of_ble_eq_true rfl) (Nat.le_of_ble_eq_true rfl) ?_
  refine W.eq (g2 := F0 m 4 ls []) rfl ?_
  refine lv_aload_n hx hb d_Coder_init_4 rfl (lv_at hl 0 rfl) ?_
  refine lv_sipush (v := 10000) hx hb d_Coder_init_5 (by decide) ?_
  refine va_newa (atype := .int) (N' := 10000) (a0 := (10000, .inl (fun _ => 0))) (ty := .int) (n := 10000) hx hb (hwd _ wd_1_167) rfl hK hP hD hS hA (fun _ => rfl) (by decide) (by decide) (by decide) (Nat.le_of_ble_eq_true rfl) (Nat.le_of_ble_eq_true rfl) d_Coder_init_8 ?_
  clear hP hD hS hK
  intro q_1 cA_2 H hK hP hD hS
  replace hP : va_P (dC, dI) vcl [(h0, .inr (2, [.null, .int 0, .int 0, .int 0, .int 0, .int 0, .int 0, .null, .int 0, .null, .int 0])), (q_1, .inl (cA_2, 10000, .inl (fun _ => 0)))] H := hP
  replace hD : va_D A [(h0, .inr (2, [.null, .int 0, .int 0, .int 0, .int 0, .int 0, .int 0, .null, .int 0, .null, .int 0])), (q_1, .inl (cA_2, 10000, .inl (fun _ => 0)))] := hD
  replace hK : va_K (dC, dI) vcl [(cA_2, .int)] s := hK
  refine W.widen (k := 1) (n := 10000) (by decide) (by decide) ?_
  refine va_put (D := (dC, dI)) (ci := 2) (v := .ref q_1) (ty := (.array .int)) (C := R_Coder) (T := F_Coder) (N := 11) hx hb hwd i_Coder t_Coder to_Coder no_Coder hown hK hP hD hS 0 rfl rfl 7 (by decide) (hwd _ wd_4_9) (fun _ h9 => h9) rfl (by decide +kernel) rfl rfl (Nat.le_of_ble_eq_true rfl) d_Coder_init_10 ?_
  clear hP hD hS
  intro H locs hP hD hS
  replace hP : va_P (dC, dI) vcl [(h0, .inr (2, [.null, .int 0, .int 0, .int 0, .int 0, .int 0, .int 0, .ref q_1, .int 0, .null, .int 0])), (q_1, .inl (cA_2, 10000, .inl (fun _ => 0)))] H := hP
  replace hD : va_D A [(h0, .inr (2, [.null, .int 0, .int 0, .int 0, .int 0, .int 0, .int 0, .ref q_1, .int 0, .null, .int 0])), (q_1, .inl (cA_2, 10000, .inl (fun _ => 0)))] := hD
  refine lv_aload_n hx hb d_Coder_init_13 rfl (lv_at hl 0 rfl) ?_
  refine lv_sipush (v := 10000) hx hb d_Coder_init_14 (by decide) ?_
  refine va_newa (atype := .int) (N' := 10000) (a0 := (10000, .inl (fun _ => 0))) (ty := .int) (n := 10000) hx hb (hwd _ wd_1_167) rfl hK hP hD hS hA (fun _ => rfl) (by decide) (by decide) (by decide) (Nat.le_of_ble_eq_true rfl) (Nat.le_of_ble_eq_true rfl) d_Coder_init_17 ?_
  clear hP hD hS hK
  intro q_3 cA_4 H hK hP hD hS
  replace hP : va_P (dC, dI) vcl [(h0, .inr (2, [.null, .int 0, .int 0, .int 0, .int 0, .int 0, .int 0, .ref q_1, .int 0, .null, .int 0])), (q_1, .inl (cA_2, 10000, .inl (fun _ => 0))), (q_3, .inl (cA_4, 10000, .inl (fun _ => 0)))] H := hP
  replace hD : va_D A [(h0, .inr (2, [.null, .int 0, .int 0, .int 0, .int 0, .int 0, .int 0, .ref q_1, .int 0, .null, .int 0])), (q_1, .inl (cA_2, 10000, .inl (fun _ => 0))), (q_3, .inl (cA_4, 10000, .inl (fun _ => 0)))] := hD
  replace hK : va_K (dC, dI) vcl [(cA_2, .int), (cA_4, .int)] s := hK
  refine W.widen (k := 2) (n := 20000) (by decide) (by decide) ?_
  refine va_put (D := (dC, dI)) (ci := 2) (v := .ref q_3) (ty := (.array .int)) (C := R_Coder) (T := F_Coder) (N := 11) hx hb hwd i_Coder t_Coder to_Coder no_Coder hown hK hP hD hS 0 rfl rfl 9 (by decide) (hwd _ wd_4_11) (fun _ h9 => h9) rfl (by decide +kernel) rfl rfl (Nat.le_of_ble_eq_true rfl) d_Coder_init_19 ?_
  clear hP hD hS
  intro H locs hP hD hS
  replace hP : va_P (dC, dI) vcl [(h0, .inr (2, [.null, .int 0, .int 0, .int 0, .int 0, .int 0, .int 0, .ref q_1, .int 0, .ref q_3, .int 0])), (q_1, .inl (cA_2, 10000, .inl (fun _ => 0))), (q_3, .inl (cA_4, 10000, .inl (fun _ => 0)))] H := hP
  replace hD : va_D A [(h0, .inr (2, [.null, .int 0, .int 0, .int 0, .int 0, .int 0, .int 0, .ref q_1, .int 0, .ref q_3, .int 0])), (q_1, .inl (cA_2, 10000, .inl (fun _ => 0))), (q_3, .inl (cA_4, 10000, .inl (fun _ => 0)))] := hD
  refine lv_aload_n hx hb d_Coder_init_22 rfl (lv_at hl 0 rfl) ?_
  refine lv_aload_n hx hb d_Coder_init_23 rfl (lv_at hl 1 rfl) ?_
  refine va_put (D := (dC, dI)) (ci := 2) (v := .ref fi) (ty := (.object "SheetPrinter$OutFile")) (C := R_Coder) (T := F_Coder) (N := 11) hx hb hwd i_Coder t_Coder to_Coder no_Coder hown hK hP hD hS 0 rfl rfl 0 (by decide) (hwd _ wd_4_1) (fun _ h9 => h9) rfl (by decide +kernel) rfl rfl (Nat.le_of_ble_eq_true rfl) d_Coder_init_24 ?_
  clear hP hD hS
  intro H locs hP hD hS
  replace hP : va_P (dC, dI) vcl [(h0, .inr (2, [.ref fi, .int 0, .int 0, .int 0, .int 0, .int 0, .int 0, .ref q_1, .int 0, .ref q_3, .int 0])), (q_1, .inl (cA_2, 10000, .inl (fun _ => 0))), (q_3, .inl (cA_4, 10000, .inl (fun _ => 0)))] H := hP
  replace hD : va_D A [(h0, .inr (2, [.ref fi, .int 0, .int 0, .int 0, .int 0, .int 0, .int 0, .ref q_1, .int 0, .ref q_3, .int 0])), (q_1, .inl (cA_2, 10000, .inl (fun _ => 0))), (q_3, .inl (cA_4, 10000, .inl (fun _ => 0)))] := hD
  have hP9 := hP.sub (ws' := [(h0, .inr (2, [.ref fi, .int 0, .int 0, .int 0, .int 0, .int 0, .int 0, .ref q_1, .int 0, .ref q_3, .int 0])), (q_1, .inl (cA_2, 10000, .inl (fun _ => 0))), (q_3, .inl (cA_4, 10000, .inl (fun _ => 0)))]) [0, 1, 2] rfl
  have hD9 := hD.sub (ws' := [(h0, .inr (2, [.ref fi, .int 0, .int 0, .int 0, .int 0, .int 0, .int 0, .ref q_1, .int 0, .ref q_3, .int 0])), (q_1, .inl (cA_2, 10000, .inl (fun _ => 0))), (q_3, .inl (cA_4, 10000, .inl (fun _ => 0)))]) [0, 1, 2] (by decide) rfl
  have hK9 := hK.sub (tys' := [(cA_2, .int), (cA_4, .int)]) [0, 1] rfl
  exact W.vret hx hb hr (fun t ht hW => ⟨⟨(), rfl, (trivial), q_1, q_3, cA_2, cA_4, by rw [ht]; exact hP9, va_K.moved hW.alike hK9, hD9⟩, hS.F ht⟩) hS.2.2 d_Coder_init_27

abbrev at_c_Parser_init (dC : Nat → ClassId) (dI : Nat → Nat → Nat) (h0 : Nat) (A : Nat → Prop) (u : Unit) (t : State) : Prop := match u with
  | _ => ∃ (q_1 : Nat) (cA_2 : ClassId), va_P (dC, dI) vcl [(h0, .inr (9, [.int 0, .int 0, .int 0, .int 0, .int 0, .int 0, .int 0, .int 0, .int 0, .int 0, .int 0, .int 0, .int 0, .int 0, .ref q_1, .int 0])), (q_1, .inl (cA_2, 4096, .inl (fun _ => 0)))] t.heap ∧ va_K (dC, dI) vcl [(cA_2, .byte)] t ∧ va_D A [(h0, .inr (9, [.int 0, .int 0, .int 0, .int 0, .int 0, .int 0, .int 0, .int 0, .int 0, .int 0, .int 0, .int 0, .int 0, .int 0, .ref q_1, .int 0])), (q_1, .inl (cA_2, 4096, .inl (fun _ => 0)))]
abbrev po_c_Parser_init (h0 : Nat) (u : Unit) : Prop := match u with
  | _ => True
abbrev q_c_Parser_init (dC : Nat → ClassId) (dI : Nat → Nat → Nat) (h0 : Nat) (A : Nat → Prop) : Array Value → State → Outcome → State → Prop := va_Qv (po_c_Parser_init h0) (at_c_Parser_init dC dI h0 A) A
abbrev rm_c_Parser_init : Room := { frames := 1, cells := 1, slots := 4096, locals := 12 }
set_option maxHeartbeats 4000000 in
set_option maxRecDepth 100000 in
theorem c_Parser_init (l : Launch) (dC : Nat → ClassId) (dI : Nat → Nat → Nat) (tt : Nat → Nat) (h0 : Nat) (sz : Nat)  : Met l y_Parser_init w_Parser_init rm_c_Parser_init (va_Pc [.ref h0] (fun U => U.heap.size = sz ∧ va_P (dC, dI) vcl [(h0, .inr (9, [.int 0, .int 0, .int 0, .int 0, .int 0, .int 0, .int 0, .int 0, .int 0, .int 0, .int 0, .int 0, .int 0, .int 0, .null, .int 0]))] U.heap ∧ va_K (dC, dI) vcl [] U ∧ va_D (fun _ => True) [(h0, .inr (9, [.int 0, .int 0, .int 0, .int 0, .int 0, .int 0, .int 0, .int 0, .int 0, .int 0, .int 0, .int 0, .int 0, .int 0, .null, .int 0]))] ∧ SF tt (va_A [(h0, .inr (9, [.int 0, .int 0, .int 0, .int 0, .int 0, .int 0, .int 0, .int 0, .int 0, .int 0, .int 0, .int 0, .int 0, .int 0, .null, .int 0]))] sz) U U.heap)) (q_c_Parser_init dC dI h0 (va_A [(h0, .inr (9, [.int 0, .int 0, .int 0, .int 0, .int 0, .int 0, .int 0, .int 0, .int 0, .int 0, .int 0, .int 0, .int 0, .int 0, .null, .int 0]))] sz)) 1 4096 (va_A [(h0, .inr (9, [.int 0, .int 0, .int 0, .int 0, .int 0, .int 0, .int 0, .int 0, .int 0, .int 0, .int 0, .int 0, .int 0, .int 0, .null, .int 0]))] sz) := by
  refine Met.ofW (cc := b_Parser_init) (maxL := 1) (ret := none) (by decide) rfl ?_
  intro p e s m args below meth c s₁ B hml hv
  obtain ⟨rfl, hsz, hP, hK, hD0, hF⟩ := hv
  have hx := B.exec
  have hb := B.bytes
  have hr := B.returns
  have hwd : ∀ w ∈ gT, w.before _ s = true := fun w h => atoms_spec (ws := w_Parser_init) B.pre w (List.mem_cons_of_mem _ h)
  have hown : s.vm.findClass R_Parser = some m.cls := findClass_of_methodNamed B.named
  have hlocks := B.notSynchronized
  have hin : meth.name = "<init>" := (name_of_methodNamed B.named B.method).1
  subst hsz
  have hD := hD0.self (sz := s.heap.size)
  generalize hAe : va_A [(h0, .inr (9, [.int 0, .int 0, .int 0, .int 0, .int 0, .int 0, .int 0, .int 0, .int 0, .int 0, .int 0, .int 0, .int 0, .int 0, .null, .int 0]))] s.heap.size = A at hD hF ⊢
  have hA : ∀ q : Nat, s.heap.size ≤ q → A q := fun q h => by rw [← hAe]; exact Or.inr h
  have hS : va_S A s.heap s.heap [] := va_S.rf
  have hP : va_P (dC, dI) vcl [(h0, .inr (9, [.int 0, .int 0, .int 0, .int 0, .int 0, .int 0, .int 0, .int 0, .int 0, .int 0, .int 0, .int 0, .int 0, .int 0, .null, .int 0]))] s.heap := hP
  have hl := lv_entry ([.ref h0]) (n := 1) (Nat.le_of_ble_eq_true rfl)
  rw [lg_entry_eq]
  generalize (lg_sl ([.ref h0]) ++ List.replicate (1 - (lg_sl ([.ref h0])).length) Slot.unset).toArray = ls at hl ⊢
  have hl : lv_has ls 1 [(0, .ref h0)] := hl
  refine lv_aload_n hx hb d_Parser_init_0 rfl (lv_at hl 0 rfl) ?_
  refine W.objInit hx hb hown (hwd _ wd_3_52) (hwd _ wd_1_35) (hwd _ wd_1_36) rfl (by rw [hml]; exact hl.1) rfl d_Parser_init_1 (Nat.le_of_ble_eq_true rfl) (Nat.le_of_ble_eq_true rfl) ?_
  refine W.eq (g2 := F0 m 4 ls []) rfl ?_
  refine lv_aload_n hx hb d_Parser_init_4 rfl (lv_at hl 0 rfl) ?_
  refine lv_sipush (v := 4096) hx hb d_Parser_init_5 (by decide) ?_
  refine va_newa (atype := .byte) (N' := 4096) (a0 := (4096, .inl (fun _ => 0))) (ty := .byte) (n := 4096) hx hb (hwd _ wd_1_166) rfl hK hP hD hS hA (fun _ => rfl) (by decide) (by decide) (by decide) (Nat.le_of_ble_eq_true rfl) (Nat.le_of_ble_eq_true rfl) d_Parser_init_8 ?_
  clear hP hD hS hK
  intro q_1 cA_2 H hK hP hD hS
  replace hP : va_P (dC, dI) vcl [(h0, .inr (9, [.int 0, .int 0, .int 0, .int 0, .int 0, .int 0, .int 0, .int 0, .int 0, .int 0, .int 0, .int 0, .int 0, .int 0, .null, .int 0])), (q_1, .inl (cA_2, 4096, .inl (fun _ => 0)))] H := hP
  replace hD : va_D A [(h0, .inr (9, [.int 0, .int 0, .int 0, .int 0, .int 0, .int 0, .int 0, .int 0, .int 0, .int 0, .int 0, .int 0, .int 0, .int 0, .null, .int 0])), (q_1, .inl (cA_2, 4096, .inl (fun _ => 0)))] := hD
  replace hK : va_K (dC, dI) vcl [(cA_2, .byte)] s := hK
  refine W.widen (k := 1) (n := 4096) (by decide) (by decide) ?_
  refine va_putF (D := (dC, dI)) (ci := 9) (v := .ref q_1) (ty := (.array .byte)) (C := R_Parser) (T := F_Parser) (N := 16) hx hb hwd i_Parser t_Parser to_Parser no_Parser hown hK hP hD hS 0 rfl rfl 14 (by decide) (hwd _ wd_3_73) (fun _ h9 => h9) rfl hin rfl (by decide +kernel) rfl rfl (Nat.le_of_ble_eq_true rfl) d_Parser_init_10 ?_
  clear hP hD hS
  intro H locs hP hD hS
  replace hP : va_P (dC, dI) vcl [(h0, .inr (9, [.int 0, .int 0, .int 0, .int 0, .int 0, .int 0, .int 0, .int 0, .int 0, .int 0, .int 0, .int 0, .int 0, .int 0, .ref q_1, .int 0])), (q_1, .inl (cA_2, 4096, .inl (fun _ => 0)))] H := hP
  replace hD : va_D A [(h0, .inr (9, [.int 0, .int 0, .int 0, .int 0, .int 0, .int 0, .int 0, .int 0, .int 0, .int 0, .int 0, .int 0, .int 0, .int 0, .ref q_1, .int 0])), (q_1, .inl (cA_2, 4096, .inl (fun _ => 0)))] := hD
  have hP9 := hP.sub (ws' := [(h0, .inr (9, [.int 0, .int 0, .int 0, .int 0, .int 0, .int 0, .int 0, .int 0, .int 0, .int 0, .int 0, .int 0, .int 0, .int 0, .ref q_1, .int 0])), (q_1, .inl (cA_2, 4096, .inl (fun _ => 0)))]) [0, 1] rfl
  have hD9 := hD.sub (ws' := [(h0, .inr (9, [.int 0, .int 0, .int 0, .int 0, .int 0, .int 0, .int 0, .int 0, .int 0, .int 0, .int 0, .int 0, .int 0, .int 0, .ref q_1, .int 0])), (q_1, .inl (cA_2, 4096, .inl (fun _ => 0)))]) [0, 1] (by decide) rfl
  have hK9 := hK.sub (tys' := [(cA_2, .byte)]) [0] rfl
  exact W.vret hx hb hr (fun t ht hW => ⟨⟨(), rfl, (trivial), q_1, cA_2, by rw [ht]; exact hP9, va_K.moved hW.alike hK9, hD9⟩, hS.F ht⟩) hS.2.2 d_Parser_init_13

abbrev at_c_Macros_init (dC : Nat → ClassId) (dI : Nat → Nat → Nat) (h0 : Nat) (A : Nat → Prop) (u : Unit) (t : State) : Prop := match u with
  | _ => ∃ (q_1 : Nat) (q_3 : Nat) (q_5 : Nat) (q_7 : Nat) (q_9 : Nat) (q_12 : Nat) (q_14 : Nat) (q_16 : Nat) (cA_2 : ClassId) (cA_4 : ClassId) (cA_6 : ClassId) (cA_8 : ClassId) (cA_10 : ClassId) (cA_13 : ClassId) (cA_15 : ClassId) (cA_17 : ClassId), va_P (dC, dI) vcl [(h0, .inr (6, [.ref q_1, .ref q_3, .ref q_5, .ref q_7, .int 0, .ref q_9, .int 0, .int 0, .int 0, .int 0, .int 0, .ref q_12, .int 0, .int 0, .ref q_14, .ref q_16, .int 0])), (q_1, .inl (cA_2, 32, .inl (fun _ => 0))), (q_3, .inl (cA_4, 32, .inl (fun _ => 0))), (q_5, .inl (cA_6, 32, .inl (fun _ => 0))), (q_7, .inl (cA_8, 32, .inl (fun _ => 0))), (q_9, .inl (cA_10, 16384, .inl (fun _ => 0))), (q_12, .inl (cA_13, 16389, .inl (fun _ => 0))), (q_14, .inl (cA_15, 8, .inl (fun _ => 0))), (q_16, .inl (cA_17, 8, .inl (fun _ => 0)))] t.heap ∧ va_K (dC, dI) vcl [(cA_2, .int), (cA_4, .int), (cA_6, .int), (cA_8, .boolean), (cA_10, .byte), (cA_13, .byte), (cA_15, .int), (cA_17, .int)] t ∧ va_D A [(h0, .inr (6, [.ref q_1, .ref q_3, .ref q_5, .ref q_7, .int 0, .ref q_9, .int 0, .int 0, .int 0, .int 0, .int 0, .ref q_12, .int 0, .int 0, .ref q_14, .ref q_16, .int 0])), (q_1, .inl (cA_2, 32, .inl (fun _ => 0))), (q_3, .inl (cA_4, 32, .inl (fun _ => 0))), (q_5, .inl (cA_6, 32, .inl (fun _ => 0))), (q_7, .inl (cA_8, 32, .inl (fun _ => 0))), (q_9, .inl (cA_10, 16384, .inl (fun _ => 0))), (q_12, .inl (cA_13, 16389, .inl (fun _ => 0))), (q_14, .inl (cA_15, 8, .inl (fun _ => 0))), (q_16, .inl (cA_17, 8, .inl (fun _ => 0)))]
abbrev po_c_Macros_init (h0 : Nat) (u : Unit) : Prop := match u with
  | _ => True
abbrev q_c_Macros_init (dC : Nat → ClassId) (dI : Nat → Nat → Nat) (h0 : Nat) (A : Nat → Prop) : Array Value → State → Outcome → State → Prop := va_Qv (po_c_Macros_init h0) (at_c_Macros_init dC dI h0 A) A
abbrev rm_c_Macros_init : Room := { frames := 1, cells := 8, slots := 32917, locals := 12 }
set_option maxHeartbeats 4000000 in
set_option maxRecDepth 100000 in
theorem c_Macros_init (l : Launch) (dC : Nat → ClassId) (dI : Nat → Nat → Nat) (tt : Nat → Nat) (h0 : Nat) (sz : Nat)  : Met l y_Macros_init w_Macros_init rm_c_Macros_init (va_Pc [.ref h0] (fun U => U.heap.size = sz ∧ va_P (dC, dI) vcl [(h0, .inr (6, [.null, .null, .null, .null, .int 0, .null, .int 0, .int 0, .int 0, .int 0, .int 0, .null, .int 0, .int 0, .null, .null, .int 0]))] U.heap ∧ va_K (dC, dI) vcl [] U ∧ va_D (fun _ => True) [(h0, .inr (6, [.null, .null, .null, .null, .int 0, .null, .int 0, .int 0, .int 0, .int 0, .int 0, .null, .int 0, .int 0, .null, .null, .int 0]))] ∧ SF tt (va_A [(h0, .inr (6, [.null, .null, .null, .null, .int 0, .null, .int 0, .int 0, .int 0, .int 0, .int 0, .null, .int 0, .int 0, .null, .null, .int 0]))] sz) U U.heap)) (q_c_Macros_init dC dI h0 (va_A [(h0, .inr (6, [.null, .null, .null, .null, .int 0, .null, .int 0, .int 0, .int 0, .int 0, .int 0, .null, .int 0, .int 0, .null, .null, .int 0]))] sz)) 8 32917 (va_A [(h0, .inr (6, [.null, .null, .null, .null, .int 0, .null, .int 0, .int 0, .int 0, .int 0, .int 0, .null, .int 0, .int 0, .null, .null, .int 0]))] sz) := by
  refine Met.ofW (cc := b_Macros_init) (maxL := 1) (ret := none) (by decide) rfl ?_
  intro p e s m args below meth c s₁ B hml hv
  obtain ⟨rfl, hsz, hP, hK, hD0, hF⟩ := hv
  have hx := B.exec
  have hb := B.bytes
  have hr := B.returns
  have hwd : ∀ w ∈ gT, w.before _ s = true := fun w h => atoms_spec (ws := w_Macros_init) B.pre w (List.mem_cons_of_mem _ h)
  have hown : s.vm.findClass R_Macros = some m.cls := findClass_of_methodNamed B.named
  have hlocks := B.notSynchronized
  have hin : meth.name = "<init>" := (name_of_methodNamed B.named B.method).1
  subst hsz
  have hD := hD0.self (sz := s.heap.size)
  generalize hAe : va_A [(h0, .inr (6, [.null, .null, .null, .null, .int 0, .null, .int 0, .int 0, .int 0, .int 0, .int 0, .null, .int 0, .int 0, .null, .null, .int 0]))] s.heap.size = A at hD hF ⊢
  have hA : ∀ q : Nat, s.heap.size ≤ q → A q := fun q h => by rw [← hAe]; exact Or.inr h
  have hS : va_S A s.heap s.heap [] := va_S.rf
  have hP : va_P (dC, dI) vcl [(h0, .inr (6, [.null, .null, .null, .null, .int 0, .null, .int 0, .int 0, .int 0, .int 0, .int 0, .null, .int 0, .int 0, .null, .null, .int 0]))] s.heap := hP
  have hl := lv_entry ([.ref h0]) (n := 1) (Nat.le_of_ble_eq_true rfl)
  rw [lg_entry_eq]
  generalize (lg_sl ([.ref h0]) ++ List.replicate (1 - (lg_sl ([.ref h0])).length) Slot.unset).toArray = ls at hl ⊢
  have hl : lv_has ls 1 [(0, .ref h0)] := hl
  refine lv_aload_n hx hb d_Macros_init_0 rfl (lv_at hl 0 rfl) ?_
  refine W.objInit hx hb hown (hwd _ wd_2_156) (hwd _ wd_1_35) (hwd _ wd_1_36) rfl (by rw [hml]; exact hl.1) rfl d_Macros_init_1 (Nat.le_of_ble_eq_true rfl) (Nat.le_of_ble_eq_true rfl) ?_
  refine W.eq (g2 := F0 m 4 ls []) rfl ?_
  refine lv_aload_n hx hb d_Macros_init_4 rfl (lv_at hl 0 rfl) ?_
  refine lv_bipush (v := 32) hx hb d_Macros_init_5 (by decide) ?_
  refine va_newa (atype := .int) (N' := 32) (a0 := (32, .inl (fun _ => 0))) (ty := .int) (n := 32) hx hb (hwd _ wd_1_167) rfl hK hP hD hS hA (fun _ => rfl) (by decide) (by decide) (by decide) (Nat.le_of_ble_eq_true rfl) (Nat.le_of_ble_eq_true rfl) d_Macros_init_7 ?_
  clear hP hD hS hK
  intro q_1 cA_2 H hK hP hD hS
  replace hP : va_P (dC, dI) vcl [(h0, .inr (6, [.null, .null, .null, .null, .int 0, .null, .int 0, .int 0, .int 0, .int 0, .int 0, .null, .int 0, .int 0, .null, .null, .int 0])), (q_1, .inl (cA_2, 32, .inl (fun _ => 0)))] H := hP
  replace hD : va_D A [(h0, .inr (6, [.null, .null, .null, .null, .int 0, .null, .int 0, .int 0, .int 0, .int 0, .int 0, .null, .int 0, .int 0, .null, .null, .int 0])), (q_1, .inl (cA_2, 32, .inl (fun _ => 0)))] := hD
  replace hK : va_K (dC, dI) vcl [(cA_2, .int)] s := hK
  refine W.widen (k := 1) (n := 32) (by decide) (by decide) ?_
  refine va_putF (D := (dC, dI)) (ci := 6) (v := .ref q_1) (ty := (.array .int)) (C := R_Macros) (T := F_Macros) (N := 17) hx hb hwd i_Macros t_Macros to_Macros no_Macros hown hK hP hD hS 0 rfl rfl 0 (by decide) (hwd _ wd_2_159) (fun _ h9 => h9) rfl hin rfl (by decide +kernel) rfl rfl (Nat.le_of_ble_eq_true rfl) d_Macros_init_9 ?_
  clear hP hD hS
  intro H locs hP hD hS
  replace hP : va_P (dC, dI) vcl [(h0, .inr (6, [.ref q_1, .null, .null, .null, .int 0, .null, .int 0, .int 0, .int 0, .int 0, .int 0, .null, .int 0, .int 0, .null, .null, .int 0])), (q_1, .inl (cA_2, 32, .inl (fun _ => 0)))] H := hP
  replace hD : va_D A [(h0, .inr (6, [.ref q_1, .null, .null, .null, .int 0, .null, .int 0, .int 0, .int 0, .int 0, .int 0, .null, .int 0, .int 0, .null, .null, .int 0])), (q_1, .inl (cA_2, 32, .inl (fun _ => 0)))] := hD
  refine lv_aload_n hx hb d_Macros_init_12 rfl (lv_at hl 0 rfl) ?_
  refine lv_bipush (v := 32) hx hb d_Macros_init_13 (by decide) ?_
  refine va_newa (atype := .int) (N' := 32) (a0 := (32, .inl (fun _ => 0))) (ty := .int) (n := 32) hx hb (hwd _ wd_1_167) rfl hK hP hD hS hA (fun _ => rfl) (by decide) (by decide) (by decide) (Nat.le_of_ble_eq_true rfl) (Nat.le_of_ble_eq_true rfl) d_Macros_init_15 ?_
  clear hP hD hS hK
  intro q_3 cA_4 H hK hP hD hS
  replace hP : va_P (dC, dI) vcl [(h0, .inr (6, [.ref q_1, .null, .null, .null, .int 0, .null, .int 0, .int 0, .int 0, .int 0, .int 0, .null, .int 0, .int 0, .null, .null, .int 0])), (q_1, .inl (cA_2, 32, .inl (fun _ => 0))), (q_3, .inl (cA_4, 32, .inl (fun _ => 0)))] H := hP
  replace hD : va_D A [(h0, .inr (6, [.ref q_1, .null, .null, .null, .int 0, .null, .int 0, .int 0, .int 0, .int 0, .int 0, .null, .int 0, .int 0, .null, .null, .int 0])), (q_1, .inl (cA_2, 32, .inl (fun _ => 0))), (q_3, .inl (cA_4, 32, .inl (fun _ => 0)))] := hD
  replace hK : va_K (dC, dI) vcl [(cA_2, .int), (cA_4, .int)] s := hK
  refine W.widen (k := 2) (n := 64) (by decide) (by decide) ?_
  refine va_putF (D := (dC, dI)) (ci := 6) (v := .ref q_3) (ty := (.array .int)) (C := R_Macros) (T := F_Macros) (N := 17) hx hb hwd i_Macros t_Macros to_Macros no_Macros hown hK hP hD hS 0 rfl rfl 1 (by decide) (hwd _ wd_2_160) (fun _ h9 => h9) rfl hin rfl (by decide +kernel) rfl rfl (Nat.le_of_ble_eq_true rfl) d_Macros_init_17 ?_
  clear hP hD hS
  intro H locs hP hD hS
  replace hP : va_P (dC, dI) vcl [(h0, .inr (6, [.ref q_1, .ref q_3, .null, .null, .int 0, .null, .int 0, .int 0, .int 0, .int 0, .int 0, .null, .int 0, .int 0, .null, .null, .int 0])), (q_1, .inl (cA_2, 32, .inl (fun _ => 0))), (q_3, .inl (cA_4, 32, .inl (fun _ => 0)))] H := hP
  replace hD : va_D A [(h0, .inr (6, [.ref q_1, .ref q_3, .null, .null, .int 0, .null, .int 0, .int 0, .int 0, .int 0, .int 0, .null, .int 0, .int 0, .null, .null, .int 0])), (q_1, .inl (cA_2, 32, .inl (fun _ => 0))), (q_3, .inl (cA_4, 32, .inl (fun _ => 0)))] := hD
  refine lv_aload_n hx hb d_Macros_init_20 rfl (lv_at hl 0 rfl) ?_
  refine lv_bipush (v := 32) hx hb d_Macros_init_21 (by decide) ?_
  refine va_newa (atype := .int) (N' := 32) (a0 := (32, .inl (fun _ => 0))) (ty := .int) (n := 32) hx hb (hwd _ wd_1_167) rfl hK hP hD hS hA (fun _ => rfl) (by decide) (by decide) (by decide) (Nat.le_of_ble_eq_true rfl) (Nat.le_of_ble_eq_true rfl) d_Macros_init_23 ?_
  clear hP hD hS hK
  intro q_5 cA_6 H hK hP hD hS
  replace hP : va_P (dC, dI) vcl [(h0, .inr (6, [.ref q_1, .ref q_3, .null, .null, .int 0, .null, .int 0, .int 0, .int 0, .int 0, .int 0, .null, .int 0, .int 0, .null, .null, .int 0])), (q_1, .inl (cA_2, 32, .inl (fun _ => 0))), (q_3, .inl (cA_4, 32, .inl (fun _ => 0))), (q_5, .inl (cA_6, 32, .inl (fun _ => 0)))] H := hP
  replace hD : va_D A [(h0, .inr (6, [.ref q_1, .ref q_3, .null, .null, .int 0, .null, .int 0, .int 0, .int 0, .int 0, .int 0, .null, .int 0, .int 0, .null, .null, .int 0])), (q_1, .inl (cA_2, 32, .inl (fun _ => 0))), (q_3, .inl (cA_4, 32, .inl (fun _ => 0))), (q_5, .inl (cA_6, 32, .inl (fun _ => 0)))] := hD
  replace hK : va_K (dC, dI) vcl [(cA_2, .int), (cA_4, .int), (cA_6, .int)] s := hK
  refine W.widen (k := 3) (n := 96) (by decide) (by decide) ?_
  refine va_putF (D := (dC, dI)) (ci := 6) (v := .ref q_5) (ty := (.array .int)) (C := R_Macros) (T := F_Macros) (N := 17) hx hb hwd i_Macros t_Macros to_Macros no_Macros hown hK hP hD hS 0 rfl rfl 2 (by decide) (hwd _ wd_2_161) (fun _ h9 => h9) rfl hin rfl (by decide +kernel) rfl rfl (Nat.le_of_ble_eq_true rfl) d_Macros_init_25 ?_
  clear hP hD hS
  intro H locs hP hD hS
  replace hP : va_P (dC, dI) vcl [(h0, .inr (6, [.ref q_1, .ref q_3, .ref q_5, .null, .int 0, .null, .int 0, .int 0, .int 0, .int 0, .int 0, .null, .int 0, .int 0, .null, .null, .int 0])), (q_1, .inl (cA_2, 32, .inl (fun _ => 0))), (q_3, .inl (cA_4, 32, .inl (fun _ => 0))), (q_5, .inl (cA_6, 32, .inl (fun _ => 0)))] H := hP
  replace hD : va_D A [(h0, .inr (6, [.ref q_1, .ref q_3, .ref q_5, .null, .int 0, .null, .int 0, .int 0, .int 0, .int 0, .int 0, .null, .int 0, .int 0, .null, .null, .int 0])), (q_1, .inl (cA_2, 32, .inl (fun _ => 0))), (q_3, .inl (cA_4, 32, .inl (fun _ => 0))), (q_5, .inl (cA_6, 32, .inl (fun _ => 0)))] := hD
  refine lv_aload_n hx hb d_Macros_init_28 rfl (lv_at hl 0 rfl) ?_
  refine lv_bipush (v := 32) hx hb d_Macros_init_29 (by decide) ?_
  refine va_newa (atype := .boolean) (N' := 32) (a0 := (32, .inl (fun _ => 0))) (ty := .boolean) (n := 32) hx hb (hwd _ wd_2_150) rfl hK hP hD hS hA (fun _ => rfl) (by decide) (by decide) (by decide) (Nat.le_of_ble_eq_true rfl) (Nat.le_of_ble_eq_true rfl) d_Macros_init_31 ?_
  clear hP hD hS hK
  intro q_7 cA_8 H hK hP hD hS
  replace hP : va_P (dC, dI) vcl [(h0, .inr (6, [.ref q_1, .ref q_3, .ref q_5, .null, .int 0, .null, .int 0, .int 0, .int 0, .int 0, .int 0, .null, .int 0, .int 0, .null, .null, .int 0])), (q_1, .inl (cA_2, 32, .inl (fun _ => 0))), (q_3, .inl (cA_4, 32, .inl (fun _ => 0))), (q_5, .inl (cA_6, 32, .inl (fun _ => 0))), (q_7, .inl (cA_8, 32, .inl (fun _ => 0)))] H := hP
  replace hD : va_D A [(h0, .inr (6, [.ref q_1, .ref q_3, .ref q_5, .null, .int 0, .null, .int 0, .int 0, .int 0, .int 0, .int 0, .null, .int 0, .int 0, .null, .null, .int 0])), (q_1, .inl (cA_2, 32, .inl (fun _ => 0))), (q_3, .inl (cA_4, 32, .inl (fun _ => 0))), (q_5, .inl (cA_6, 32, .inl (fun _ => 0))), (q_7, .inl (cA_8, 32, .inl (fun _ => 0)))] := hD
  replace hK : va_K (dC, dI) vcl [(cA_2, .int), (cA_4, .int), (cA_6, .int), (cA_8, .boolean)] s := hK
  refine W.widen (k := 4) (n := 128) (by decide) (by decide) ?_
  refine va_putF (D := (dC, dI)) (ci := 6) (v := .ref q_7) (ty := (.array .boolean)) (C := R_Macros) (T := F_Macros) (N := 17) hx hb hwd i_Macros t_Macros to_Macros no_Macros hown hK hP hD hS 0 rfl rfl 3 (by decide) (hwd _ wd_2_162) (fun _ h9 => h9) rfl hin rfl (by decide +kernel) rfl rfl (Nat.le_of_ble_eq_true rfl) d_Macros_init_33 ?_
  clear hP hD hS
  intro H locs hP hD hS
  replace hP : va_P (dC, dI) vcl [(h0, .inr (6, [.ref q_1, .ref q_3, .ref q_5, .ref q_7, .int 0, .null, .int 0, .int 0, .int 0, .int 0, .int 0, .null, .int 0, .int 0, .null, .null, .int 0])), (q_1, .inl (cA_2, 32, .inl (fun _ => 0))), (q_3, .inl (cA_4, 32, .inl (fun _ => 0))), (q_5, .inl (cA_6, 32, .inl (fun _ => 0))), (q_7, .inl (cA_8, 32, .inl (fun _ => 0)))] H := hP
  replace hD : va_D A [(h0, .inr (6, [.ref q_1, .ref q_3, .ref q_5, .ref q_7, .int 0, .null, .int 0, .int 0, .int 0, .int 0, .int 0, .null, .int 0, .int 0, .null, .null, .int 0])), (q_1, .inl (cA_2, 32, .inl (fun _ => 0))), (q_3, .inl (cA_4, 32, .inl (fun _ => 0))), (q_5, .inl (cA_6, 32, .inl (fun _ => 0))), (q_7, .inl (cA_8, 32, .inl (fun _ => 0)))] := hD
  refine lv_aload_n hx hb d_Macros_init_36 rfl (lv_at hl 0 rfl) ?_
  refine lv_sipush (v := 16384) hx hb d_Macros_init_37 (by decide) ?_
  refine va_newa (atype := .byte) (N' := 16384) (a0 := (16384, .inl (fun _ => 0))) (ty := .byte) (n := 16384) hx hb (hwd _ wd_1_166) rfl hK hP hD hS hA (fun _ => rfl) (by decide) (by decide) (by decide) (Nat.le_of_ble_eq_true rfl) (Nat.le_of_ble_eq_true rfl) d_Macros_init_40 ?_
  clear hP hD hS hK
  intro q_9 cA_10 H hK hP hD hS
  replace hP : va_P (dC, dI) vcl [(h0, .inr (6, [.ref q_1, .ref q_3, .ref q_5, .ref q_7, .int 0, .null, .int 0, .int 0, .int 0, .int 0, .int 0, .null, .int 0, .int 0, .null, .null, .int 0])), (q_1, .inl (cA_2, 32, .inl (fun _ => 0))), (q_3, .inl (cA_4, 32, .inl (fun _ => 0))), (q_5, .inl (cA_6, 32, .inl (fun _ => 0))), (q_7, .inl (cA_8, 32, .inl (fun _ => 0))), (q_9, .inl (cA_10, 16384, .inl (fun _ => 0)))] H := hP
  replace hD : va_D A [(h0, .inr (6, [.ref q_1, .ref q_3, .ref q_5, .ref q_7, .int 0, .null, .int 0, .int 0, .int 0, .int 0, .int 0, .null, .int 0, .int 0, .null, .null, .int 0])), (q_1, .inl (cA_2, 32, .inl (fun _ => 0))), (q_3, .inl (cA_4, 32, .inl (fun _ => 0))), (q_5, .inl (cA_6, 32, .inl (fun _ => 0))), (q_7, .inl (cA_8, 32, .inl (fun _ => 0))), (q_9, .inl (cA_10, 16384, .inl (fun _ => 0)))] := hD
  replace hK : va_K (dC, dI) vcl [(cA_2, .int), (cA_4, .int), (cA_6, .int), (cA_8, .boolean), (cA_10, .byte)] s := hK
  refine W.widen (k := 5) (n := 16512) (by decide) (by decide) ?_
  refine va_putF (D := (dC, dI)) (ci := 6) (v := .ref q_9) (ty := (.array .byte)) (C := R_Macros) (T := F_Macros) (N := 17) hx hb hwd i_Macros t_Macros to_Macros no_Macros hown hK hP hD hS 0 rfl rfl 5 (by decide) (hwd _ wd_2_165) (fun _ h9 => h9) rfl hin rfl (by decide +kernel) rfl rfl (Nat.le_of_ble_eq_true rfl) d_Macros_init_42 ?_
  clear hP hD hS
  intro H locs hP hD hS
  replace hP : va_P (dC, dI) vcl [(h0, .inr (6, [.ref q_1, .ref q_3, .ref q_5, .ref q_7, .int 0, .ref q_9, .int 0, .int 0, .int 0, .int 0, .int 0, .null, .int 0, .int 0, .null, .null, .int 0])), (q_1, .inl (cA_2, 32, .inl (fun _ => 0))), (q_3, .inl (cA_4, 32, .inl (fun _ => 0))), (q_5, .inl (cA_6, 32, .inl (fun _ => 0))), (q_7, .inl (cA_8, 32, .inl (fun _ => 0))), (q_9, .inl (cA_10, 16384, .inl (fun _ => 0)))] H := hP
  replace hD : va_D A [(h0, .inr (6, [.ref q_1, .ref q_3, .ref q_5, .ref q_7, .int 0, .ref q_9, .int 0, .int 0, .int 0, .int 0, .int 0, .null, .int 0, .int 0, .null, .null, .int 0])), (q_1, .inl (cA_2, 32, .inl (fun _ => 0))), (q_3, .inl (cA_4, 32, .inl (fun _ => 0))), (q_5, .inl (cA_6, 32, .inl (fun _ => 0))), (q_7, .inl (cA_8, 32, .inl (fun _ => 0))), (q_9, .inl (cA_10, 16384, .inl (fun _ => 0)))] := hD
  refine lv_aload_n hx hb d_Macros_init_45 rfl (lv_at hl 0 rfl) ?_
  refine lv_sipush (v := 16384) hx hb d_Macros_init_46 (by decide) ?_
  refine va_gets hx hb (SF_p5 hF).1 hS hown (hwd _ wd_2_157) (fun _ h9 => h9) d_Macros_init_49 ?_
  refine va_tlen (v := 5) hx hb (SF_p5 hF).2 hS rfl d_Macros_init_52 ?_
  refine lv_iadd hx hb d_Macros_init_53 ?_
  refine lv_topi (fun y_11 ey_11 => ?_)
  obtain rfl : y_11 = (16389 : Int32) := ey_11.trans (by decide)
  refine va_newa (atype := .byte) (N' := 16389) (a0 := (16389, .inl (fun _ => 0))) (ty := .byte) (n := 16389) hx hb (hwd _ wd_1_166) rfl hK hP hD hS hA (fun _ => rfl) (by decide) (by decide) (by decide) (Nat.le_of_ble_eq_true rfl) (Nat.le_of_ble_eq_true rfl) d_Macros_init_54 ?_
  clear hP hD hS hK
  intro q_12 cA_13 H hK hP hD hS
  replace hP : va_P (dC, dI) vcl [(h0, .inr (6, [.ref q_1, .ref q_3, .ref q_5, .ref q_7, .int 0, .ref q_9, .int 0, .int 0, .int 0, .int 0, .int 0, .null, .int 0, .int 0, .null, .null, .int 0])), (q_1, .inl (cA_2, 32, .inl (fun _ => 0))), (q_3, .inl (cA_4, 32, .inl (fun _ => 0))), (q_5, .inl (cA_6, 32, .inl (fun _ => 0))), (q_7, .inl (cA_8, 32, .inl (fun _ => 0))), (q_9, .inl (cA_10, 16384, .inl (fun _ => 0))), (q_12, .inl (cA_13, 16389, .inl (fun _ => 0)))] H := hP
  replace hD : va_D A [(h0, .inr (6, [.ref q_1, .ref q_3, .ref q_5, .ref q_7, .int 0, .ref q_9, .int 0, .int 0, .int 0, .int 0, .int 0, .null, .int 0, .int 0, .null, .null, .int 0])), (q_1, .inl (cA_2, 32, .inl (fun _ => 0))), (q_3, .inl (cA_4, 32, .inl (fun _ => 0))), (q_5, .inl (cA_6, 32, .inl (fun _ => 0))), (q_7, .inl (cA_8, 32, .inl (fun _ => 0))), (q_9, .inl (cA_10, 16384, .inl (fun _ => 0))), (q_12, .inl (cA_13, 16389, .inl (fun _ => 0)))] := hD
  replace hK : va_K (dC, dI) vcl [(cA_2, .int), (cA_4, .int), (cA_6, .int), (cA_8, .boolean), (cA_10, .byte), (cA_13, .byte)] s := hK
  refine W.widen (k := 6) (n := 32901) (by decide) (by decide) ?_
  refine va_putF (D := (dC, dI)) (ci := 6) (v := .ref q_12) (ty := (.array .byte)) (C := R_Macros) (T := F_Macros) (N := 17) hx hb hwd i_Macros t_Macros to_Macros no_Macros hown hK hP hD hS 0 rfl rfl 11 (by decide) (hwd _ wd_2_175) (fun _ h9 => h9) rfl hin rfl (by decide +kernel) rfl rfl (Nat.le_of_ble_eq_true rfl) d_Macros_init_56 ?_
  clear hP hD hS
  intro H locs hP hD hS
  replace hP : va_P (dC, dI) vcl [(h0, .inr (6, [.ref q_1, .ref q_3, .ref q_5, .ref q_7, .int 0, .ref q_9, .int 0, .int 0, .int 0, .int 0, .int 0, .ref q_12, .int 0, .int 0, .null, .null, .int 0])), (q_1, .inl (cA_2, 32, .inl (fun _ => 0))), (q_3, .inl (cA_4, 32, .inl (fun _ => 0))), (q_5, .inl (cA_6, 32, .inl (fun _ => 0))), (q_7, .inl (cA_8, 32, .inl (fun _ => 0))), (q_9, .inl (cA_10, 16384, .inl (fun _ => 0))), (q_12, .inl (cA_13, 16389, .inl (fun _ => 0)))] H := hP
  replace hD : va_D A [(h0, .inr (6, [.ref q_1, .ref q_3, .ref q_5, .ref q_7, .int 0, .ref q_9, .int 0, .int 0, .int 0, .int 0, .int 0, .ref q_12, .int 0, .int 0, .null, .null, .int 0])), (q_1, .inl (cA_2, 32, .inl (fun _ => 0))), (q_3, .inl (cA_4, 32, .inl (fun _ => 0))), (q_5, .inl (cA_6, 32, .inl (fun _ => 0))), (q_7, .inl (cA_8, 32, .inl (fun _ => 0))), (q_9, .inl (cA_10, 16384, .inl (fun _ => 0))), (q_12, .inl (cA_13, 16389, .inl (fun _ => 0)))] := hD
  refine lv_aload_n hx hb d_Macros_init_59 rfl (lv_at hl 0 rfl) ?_
  refine lv_bipush (v := 8) hx hb d_Macros_init_60 (by decide) ?_
  refine va_newa (atype := .int) (N' := 8) (a0 := (8, .inl (fun _ => 0))) (ty := .int) (n := 8) hx hb (hwd _ wd_1_167) rfl hK hP hD hS hA (fun _ => rfl) (by decide) (by decide) (by decide) (Nat.le_of_ble_eq_true rfl) (Nat.le_of_ble_eq_true rfl) d_Macros_init_62 ?_
  clear hP hD hS hK
  intro q_14 cA_15 H hK hP hD hS
  replace hP : va_P (dC, dI) vcl [(h0, .inr (6, [.ref q_1, .ref q_3, .ref q_5, .ref q_7, .int 0, .ref q_9, .int 0, .int 0, .int 0, .int 0, .int 0, .ref q_12, .int 0, .int 0, .null, .null, .int 0])), (q_1, .inl (cA_2, 32, .inl (fun _ => 0))), (q_3, .inl (cA_4, 32, .inl (fun _ => 0))), (q_5, .inl (cA_6, 32, .inl (fun _ => 0))), (q_7, .inl (cA_8, 32, .inl (fun _ => 0))), (q_9, .inl (cA_10, 16384, .inl (fun _ => 0))), (q_12, .inl (cA_13, 16389, .inl (fun _ => 0))), (q_14, .inl (cA_15, 8, .inl (fun _ => 0)))] H := hP
  replace hD : va_D A [(h0, .inr (6, [.ref q_1, .ref q_3, .ref q_5, .ref q_7, .int 0, .ref q_9, .int 0, .int 0, .int 0, .int 0, .int 0, .ref q_12, .int 0, .int 0, .null, .null, .int 0])), (q_1, .inl (cA_2, 32, .inl (fun _ => 0))), (q_3, .inl (cA_4, 32, .inl (fun _ => 0))), (q_5, .inl (cA_6, 32, .inl (fun _ => 0))), (q_7, .inl (cA_8, 32, .inl (fun _ => 0))), (q_9, .inl (cA_10, 16384, .inl (fun _ => 0))), (q_12, .inl (cA_13, 16389, .inl (fun _ => 0))), (q_14, .inl (cA_15, 8, .inl (fun _ => 0)))] := hD
  replace hK : va_K (dC, dI) vcl [(cA_2, .int), (cA_4, .int), (cA_6, .int), (cA_8, .boolean), (cA_10, .byte), (cA_13, .byte), (cA_15, .int)] s := hK
  refine W.widen (k := 7) (n := 32909) (by decide) (by decide) ?_
  refine va_putF (D := (dC, dI)) (ci := 6) (v := .ref q_14) (ty := (.array .int)) (C := R_Macros) (T := F_Macros) (N := 17) hx hb hwd i_Macros t_Macros to_Macros no_Macros hown hK hP hD hS 0 rfl rfl 14 (by decide) (hwd _ wd_2_178) (fun _ h9 => h9) rfl hin rfl (by decide +kernel) rfl rfl (Nat.le_of_ble_eq_true rfl) d_Macros_init_64 ?_
  clear hP hD hS
  intro H locs hP hD hS
  replace hP : va_P (dC, dI) vcl [(h0, .inr (6, [.ref q_1, .ref q_3, .ref q_5, .ref q_7, .int 0, .ref q_9, .int 0, .int 0, .int 0, .int 0, .int 0, .ref q_12, .int 0, .int 0, .ref q_14, .null, .int 0])), (q_1, .inl (cA_2, 32, .inl (fun _ => 0))), (q_3, .inl (cA_4, 32, .inl (fun _ => 0))), (q_5, .inl (cA_6, 32, .inl (fun _ => 0))), (q_7, .inl (cA_8, 32, .inl (fun _ => 0))), (q_9, .inl (cA_10, 16384, .inl (fun _ => 0))), (q_12, .inl (cA_13, 16389, .inl (fun _ => 0))), (q_14, .inl (cA_15, 8, .inl (fun _ => 0)))] H := hP
  replace hD : va_D A [(h0, .inr (6, [.ref q_1, .ref q_3, .ref q_5, .ref q_7, .int 0, .ref q_9, .int 0, .int 0, .int 0, .int 0, .int 0, .ref q_12, .int 0, .int 0, .ref q_14, .null, .int 0])), (q_1, .inl (cA_2, 32, .inl (fun _ => 0))), (q_3, .inl (cA_4, 32, .inl (fun _ => 0))), (q_5, .inl (cA_6, 32, .inl (fun _ => 0))), (q_7, .inl (cA_8, 32, .inl (fun _ => 0))), (q_9, .inl (cA_10, 16384, .inl (fun _ => 0))), (q_12, .inl (cA_13, 16389, .inl (fun _ => 0))), (q_14, .inl (cA_15, 8, .inl (fun _ => 0)))] := hD
  refine lv_aload_n hx hb d_Macros_init_67 rfl (lv_at hl 0 rfl) ?_
  refine lv_bipush (v := 8) hx hb d_Macros_init_68 (by decide) ?_
  refine va_newa (atype := .int) (N' := 8) (a0 := (8, .inl (fun _ => 0))) (ty := .int) (n := 8) hx hb (hwd _ wd_1_167) rfl hK hP hD hS hA (fun _ => rfl) (by decide) (by decide) (by decide) (Nat.le_of_ble_eq_true rfl) (Nat.le_of_ble_eq_true rfl) d_Macros_init_70 ?_
  clear hP hD hS hK
  intro q_16 cA_17 H hK hP hD hS
  replace hP : va_P (dC, dI) vcl [(h0, .inr (6, [.ref q_1, .ref q_3, .ref q_5, .ref q_7, .int 0, .ref q_9, .int 0, .int 0, .int 0, .int 0, .int 0, .ref q_12, .int 0, .int 0, .ref q_14, .null, .int 0])), (q_1, .inl (cA_2, 32, .inl (fun _ => 0))), (q_3, .inl (cA_4, 32, .inl (fun _ => 0))), (q_5, .inl (cA_6, 32, .inl (fun _ => 0))), (q_7, .inl (cA_8, 32, .inl (fun _ => 0))), (q_9, .inl (cA_10, 16384, .inl (fun _ => 0))), (q_12, .inl (cA_13, 16389, .inl (fun _ => 0))), (q_14, .inl (cA_15, 8, .inl (fun _ => 0))), (q_16, .inl (cA_17, 8, .inl (fun _ => 0)))] H := hP
  replace hD : va_D A [(h0, .inr (6, [.ref q_1, .ref q_3, .ref q_5, .ref q_7, .int 0, .ref q_9, .int 0, .int 0, .int 0, .int 0, .int 0, .ref q_12, .int 0, .int 0, .ref q_14, .null, .int 0])), (q_1, .inl (cA_2, 32, .inl (fun _ => 0))), (q_3, .inl (cA_4, 32, .inl (fun _ => 0))), (q_5, .inl (cA_6, 32, .inl (fun _ => 0))), (q_7, .inl (cA_8, 32, .inl (fun _ => 0))), (q_9, .inl (cA_10, 16384, .inl (fun _ => 0))), (q_12, .inl (cA_13, 16389, .inl (fun _ => 0))), (q_14, .inl (cA_15, 8, .inl (fun _ => 0))), (q_16, .inl (cA_17, 8, .inl (fun _ => 0)))] := hD
  replace hK : va_K (dC, dI) vcl [(cA_2, .int), (cA_4, .int), (cA_6, .int), (cA_8, .boolean), (cA_10, .byte), (cA_13, .byte), (cA_15, .int), (cA_17, .int)] s := hK
  refine W.widen (k := 8) (n := 32917) (by decide) (by decide) ?_
  refine va_putF (D := (dC, dI)) (ci := 6) (v := .ref q_16) (ty := (.array .int)) (C := R_Macros) (T := F_Macros) (N := 17) hx hb hwd i_Macros t_Macros to_Macros no_Macros hown hK hP hD hS 0 rfl rfl 15 (by decide) (hwd _ wd_2_180) (fun _ h9 => h9) rfl hin rfl (by decide +kernel) rfl rfl (Nat.le_of_ble_eq_true rfl) d_Macros_init_72 ?_
  clear hP hD hS
  intro H locs hP hD hS
  replace hP : va_P (dC, dI) vcl [(h0, .inr (6, [.ref q_1, .ref q_3, .ref q_5, .ref q_7, .int 0, .ref q_9, .int 0, .int 0, .int 0, .int 0, .int 0, .ref q_12, .int 0, .int 0, .ref q_14, .ref q_16, .int 0])), (q_1, .inl (cA_2, 32, .inl (fun _ => 0))), (q_3, .inl (cA_4, 32, .inl (fun _ => 0))), (q_5, .inl (cA_6, 32, .inl (fun _ => 0))), (q_7, .inl (cA_8, 32, .inl (fun _ => 0))), (q_9, .inl (cA_10, 16384, .inl (fun _ => 0))), (q_12, .inl (cA_13, 16389, .inl (fun _ => 0))), (q_14, .inl (cA_15, 8, .inl (fun _ => 0))), (q_16, .inl (cA_17, 8, .inl (fun _ => 0)))] H := hP
  replace hD : va_D A [(h0, .inr (6, [.ref q_1, .ref q_3, .ref q_5, .ref q_7, .int 0, .ref q_9, .int 0, .int 0, .int 0, .int 0, .int 0, .ref q_12, .int 0, .int 0, .ref q_14, .ref q_16, .int 0])), (q_1, .inl (cA_2, 32, .inl (fun _ => 0))), (q_3, .inl (cA_4, 32, .inl (fun _ => 0))), (q_5, .inl (cA_6, 32, .inl (fun _ => 0))), (q_7, .inl (cA_8, 32, .inl (fun _ => 0))), (q_9, .inl (cA_10, 16384, .inl (fun _ => 0))), (q_12, .inl (cA_13, 16389, .inl (fun _ => 0))), (q_14, .inl (cA_15, 8, .inl (fun _ => 0))), (q_16, .inl (cA_17, 8, .inl (fun _ => 0)))] := hD
  have hP9 := hP.sub (ws' := [(h0, .inr (6, [.ref q_1, .ref q_3, .ref q_5, .ref q_7, .int 0, .ref q_9, .int 0, .int 0, .int 0, .int 0, .int 0, .ref q_12, .int 0, .int 0, .ref q_14, .ref q_16, .int 0])), (q_1, .inl (cA_2, 32, .inl (fun _ => 0))), (q_3, .inl (cA_4, 32, .inl (fun _ => 0))), (q_5, .inl (cA_6, 32, .inl (fun _ => 0))), (q_7, .inl (cA_8, 32, .inl (fun _ => 0))), (q_9, .inl (cA_10, 16384, .inl (fun _ => 0))), (q_12, .inl (cA_13, 16389, .inl (fun _ => 0))), (q_14, .inl (cA_15, 8, .inl (fun _ => 0))), (q_16, .inl (cA_17, 8, .inl (fun _ => 0)))]) [0, 1, 2, 3, 4, 5, 6, 7, 8] rfl
  have hD9 := hD.sub (ws' := [(h0, .inr (6, [.ref q_1, .ref q_3, .ref q_5, .ref q_7, .int 0, .ref q_9, .int 0, .int 0, .int 0, .int 0, .int 0, .ref q_12, .int 0, .int 0, .ref q_14, .ref q_16, .int 0])), (q_1, .inl (cA_2, 32, .inl (fun _ => 0))), (q_3, .inl (cA_4, 32, .inl (fun _ => 0))), (q_5, .inl (cA_6, 32, .inl (fun _ => 0))), (q_7, .inl (cA_8, 32, .inl (fun _ => 0))), (q_9, .inl (cA_10, 16384, .inl (fun _ => 0))), (q_12, .inl (cA_13, 16389, .inl (fun _ => 0))), (q_14, .inl (cA_15, 8, .inl (fun _ => 0))), (q_16, .inl (cA_17, 8, .inl (fun _ => 0)))]) [0, 1, 2, 3, 4, 5, 6, 7, 8] (by decide) rfl
  have hK9 := hK.sub (tys' := [(cA_2, .int), (cA_4, .int), (cA_6, .int), (cA_8, .boolean), (cA_10, .byte), (cA_13, .byte), (cA_15, .int), (cA_17, .int)]) [0, 1, 2, 3, 4, 5, 6, 7] rfl
  exact W.vret hx hb hr (fun t ht hW => ⟨⟨(), rfl, (trivial), q_1, q_3, q_5, q_7, q_9, q_12, q_14, q_16, cA_2, cA_4, cA_6, cA_8, cA_10, cA_13, cA_15, cA_17, by rw [ht]; exact hP9, va_K.moved hW.alike hK9, hD9⟩, hS.F ht⟩) hS.2.2 d_Macros_init_75

abbrev at_c_Raster_endJob (dC : Nat → ClassId) (dI : Nat → Nat → Nat) (h0 : Nat) (r_dpi : Int32) (r_open : Int32) (r_x : Int32) (r_y : Int32) (r_scale : Int32) (r_row : Int32) (r_width : Int32) (r_height : Int32) (r_rowBytes : Int32) (r_seed : Nat) (r_resolution : Int32) (r_method : Int32) (r_nextWidth : Int32) (r_nextHeight : Int32) (A : Nat → Prop) (u : Unit) (t : State) : Prop := match u with
  | _ => va_P (dC, dI) vcl [(h0, .inr (11, [.int r_dpi, .int 0, .int r_x, .int r_y, .int r_scale, .int r_row, .int r_width, .int r_height, .int r_rowBytes, .ref r_seed, .int 75, .int 0, .int 0, .int 0]))] t.heap ∧ va_K (dC, dI) vcl [] t ∧ va_D A [(h0, .inr (11, [.int r_dpi, .int 0, .int r_x, .int r_y, .int r_scale, .int r_row, .int r_width, .int r_height, .int r_rowBytes, .ref r_seed, .int 75, .int 0, .int 0, .int 0]))]
abbrev po_c_Raster_endJob (h0 : Nat) (r_dpi : Int32) (r_open : Int32) (r_x : Int32) (r_y : Int32) (r_scale : Int32) (r_row : Int32) (r_width : Int32) (r_height : Int32) (r_rowBytes : Int32) (r_seed : Nat) (r_resolution : Int32) (r_method : Int32) (r_nextWidth : Int32) (r_nextHeight : Int32) (u : Unit) : Prop := match u with
  | _ => True
abbrev q_c_Raster_endJob (dC : Nat → ClassId) (dI : Nat → Nat → Nat) (h0 : Nat) (r_dpi : Int32) (r_open : Int32) (r_x : Int32) (r_y : Int32) (r_scale : Int32) (r_row : Int32) (r_width : Int32) (r_height : Int32) (r_rowBytes : Int32) (r_seed : Nat) (r_resolution : Int32) (r_method : Int32) (r_nextWidth : Int32) (r_nextHeight : Int32) (A : Nat → Prop) : Array Value → State → Outcome → State → Prop := va_Qv (po_c_Raster_endJob h0 r_dpi r_open r_x r_y r_scale r_row r_width r_height r_rowBytes r_seed r_resolution r_method r_nextWidth r_nextHeight) (at_c_Raster_endJob dC dI h0 r_dpi r_open r_x r_y r_scale r_row r_width r_height r_rowBytes r_seed r_resolution r_method r_nextWidth r_nextHeight A) A
abbrev rm_c_Raster_endJob : Room := { frames := 0, cells := 0, slots := 0, locals := 0 }
set_option maxHeartbeats 4000000 in
set_option maxRecDepth 100000 in
theorem c_Raster_endJob (l : Launch) (dC : Nat → ClassId) (dI : Nat → Nat → Nat) (tt : Nat → Nat) (h0 : Nat) (r_dpi : Int32) (r_open : Int32) (r_x : Int32) (r_y : Int32) (r_scale : Int32) (r_row : Int32) (r_width : Int32) (r_height : Int32) (r_rowBytes : Int32) (r_seed : Nat) (r_resolution : Int32) (r_method : Int32) (r_nextWidth : Int32) (r_nextHeight : Int32) (sz : Nat)  : Met l y_Raster_endJob w_Raster_endJob rm_c_Raster_endJob (va_Pc [.ref h0] (fun U => U.heap.size = sz ∧ va_P (dC, dI) vcl [(h0, .inr (11, [.int r_dpi, .int r_open, .int r_x, .int r_y, .int r_scale, .int r_row, .int r_width, .int r_height, .int r_rowBytes, .ref r_seed, .int r_resolution, .int r_method, .int r_nextWidth, .int r_nextHeight]))] U.heap ∧ va_K (dC, dI) vcl [] U ∧ va_D (fun _ => True) [(h0, .inr (11, [.int r_dpi, .int r_open, .int r_x, .int r_y, .int r_scale, .int r_row, .int r_width, .int r_height, .int r_rowBytes, .ref r_seed, .int r_resolution, .int r_method, .int r_nextWidth, .int r_nextHeight]))] ∧ SF tt (va_A [(h0, .inr (11, [.int r_dpi, .int r_open, .int r_x, .int r_y, .int r_scale, .int r_row, .int r_width, .int r_height, .int r_rowBytes, .ref r_seed, .int r_resolution, .int r_method, .int r_nextWidth, .int r_nextHeight]))] sz) U U.heap)) (q_c_Raster_endJob dC dI h0 r_dpi r_open r_x r_y r_scale r_row r_width r_height r_rowBytes r_seed r_resolution r_method r_nextWidth r_nextHeight (va_A [(h0, .inr (11, [.int r_dpi, .int r_open, .int r_x, .int r_y, .int r_scale, .int r_row, .int r_width, .int r_height, .int r_rowBytes, .ref r_seed, .int r_resolution, .int r_method, .int r_nextWidth, .int r_nextHeight]))] sz)) 0 0 (va_A [(h0, .inr (11, [.int r_dpi, .int r_open, .int r_x, .int r_y, .int r_scale, .int r_row, .int r_width, .int r_height, .int r_rowBytes, .ref r_seed, .int r_resolution, .int r_method, .int r_nextWidth, .int r_nextHeight]))] sz) := by
  refine Met.ofW (cc := b_Raster_endJob) (maxL := 1) (ret := none) (by decide) rfl ?_
  intro p e s m args below meth c s₁ B hml hv
  obtain ⟨rfl, hsz, hP, hK, hD0, hF⟩ := hv
  have hx := B.exec
  have hb := B.bytes
  have hr := B.returns
  have hwd : ∀ w ∈ gT, w.before _ s = true := fun w h => atoms_spec (ws := w_Raster_endJob) B.pre w (List.mem_cons_of_mem _ h)
  have hown : s.vm.findClass R_Raster = some m.cls := findClass_of_methodNamed B.named
  have hlocks := B.notSynchronized
  subst hsz
  have hD := hD0.self (sz := s.heap.size)
  generalize hAe : va_A [(h0, .inr (11, [.int r_dpi, .int r_open, .int r_x, .int r_y, .int r_scale, .int r_row, .int r_width, .int r_height, .int r_rowBytes, .ref r_seed, .int r_resolution, .int r_method, .int r_nextWidth, .int r_nextHeight]))] s.heap.size = A at hD hF ⊢
  have hA : ∀ q : Nat, s.heap.size ≤ q → A q := fun q h => by rw [← hAe]; exact Or.inr h
  have hS : va_S A s.heap s.heap [] := va_S.rf
  have hP : va_P (dC, dI) vcl [(h0, .inr (11, [.int r_dpi, .int r_open, .int r_x, .int r_y, .int r_scale, .int r_row, .int r_width, .int r_height, .int r_rowBytes, .ref r_seed, .int r_resolution, .int r_method, .int r_nextWidth, .int r_nextHeight]))] s.heap := hP
  have hl := lv_entry ([.ref h0]) (n := 1) (Nat.le_of_ble_eq_true rfl)
  rw [lg_entry_eq]
  generalize (lg_sl ([.ref h0]) ++ List.replicate (1 - (lg_sl ([.ref h0])).length) Slot.unset).toArray = ls at hl ⊢
  have hl : lv_has ls 1 [(0, .ref h0)] := hl
  refine lv_aload_n hx hb d_Raster_endJob_0 rfl (lv_at hl 0 rfl) ?_
  refine lv_iconst (v := 0) hx hb d_Raster_endJob_1 (by decide) ?_
  refine va_put (D := (dC, dI)) (ci := 11) (v := .int 0) (ty := .boolean) (C := R_Raster) (T := F_Raster) (N := 14) hx hb hwd i_Raster t_Raster to_Raster no_Raster hown hK hP hD hS 0 rfl rfl 1 (by decide) (hwd _ wd_2_230) (fun _ h9 => h9) rfl (by decide +kernel) (by decide) rfl (Nat.le_of_ble_eq_true rfl) d_Raster_endJob_2 ?_
  clear hP hD hS
  intro H locs hP hD hS
  replace hP : va_P (dC, dI) vcl [(h0, .inr (11, [.int r_dpi, .int 0, .int r_x, .int r_y, .int r_scale, .int r_row, .int r_width, .int r_height, .int r_rowBytes, .ref r_seed, .int r_resolution, .int r_method, .int r_nextWidth, .int r_nextHeight]))] H := hP
  replace hD : va_D A [(h0, .inr (11, [.int r_dpi, .int 0, .int r_x, .int r_y, .int r_scale, .int r_row, .int r_width, .int r_height, .int r_rowBytes, .ref r_seed, .int r_resolution, .int r_method, .int r_nextWidth, .int r_nextHeight]))] := hD
  refine lv_aload_n hx hb d_Raster_endJob_5 rfl (lv_at hl 0 rfl) ?_
  refine lv_bipush (v := 75) hx hb d_Raster_endJob_6 (by decide) ?_
  refine va_put (D := (dC, dI)) (ci := 11) (v := .int 75) (ty := .int) (C := R_Raster) (T := F_Raster) (N := 14) hx hb hwd i_Raster t_Raster to_Raster no_Raster hown hK hP hD hS 0 rfl rfl 10 (by decide) (hwd _ wd_3_8) (fun _ h9 => h9) rfl (by decide +kernel) rfl rfl (Nat.le_of_ble_eq_true rfl) d_Raster_endJob_8 ?_
  clear hP hD hS
  intro H locs hP hD hS
  replace hP : va_P (dC, dI) vcl [(h0, .inr (11, [.int r_dpi, .int 0, .int r_x, .int r_y, .int r_scale, .int r_row, .int r_width, .int r_height, .int r_rowBytes, .ref r_seed, .int 75, .int r_method, .int r_nextWidth, .int r_nextHeight]))] H := hP
  replace hD : va_D A [(h0, .inr (11, [.int r_dpi, .int 0, .int r_x, .int r_y, .int r_scale, .int r_row, .int r_width, .int r_height, .int r_rowBytes, .ref r_seed, .int 75, .int r_method, .int r_nextWidth, .int r_nextHeight]))] := hD
  refine lv_aload_n hx hb d_Raster_endJob_11 rfl (lv_at hl 0 rfl) ?_
  refine lv_iconst (v := 0) hx hb d_Raster_endJob_12 (by decide) ?_
  refine va_put (D := (dC, dI)) (ci := 11) (v := .int 0) (ty := .int) (C := R_Raster) (T := F_Raster) (N := 14) hx hb hwd i_Raster t_Raster to_Raster no_Raster hown hK hP hD hS 0 rfl rfl 11 (by decide) (hwd _ wd_3_9) (fun _ h9 => h9) rfl (by decide +kernel) rfl rfl (Nat.le_of_ble_eq_true rfl) d_Raster_endJob_13 ?_
  clear hP hD hS
  intro H locs hP hD hS
  replace hP : va_P (dC, dI) vcl [(h0, .inr (11, [.int r_dpi, .int 0, .int r_x, .int r_y, .int r_scale, .int r_row, .int r_width, .int r_height, .int r_rowBytes, .ref r_seed, .int 75, .int 0, .int r_nextWidth, .int r_nextHeight]))] H := hP
  replace hD : va_D A [(h0, .inr (11, [.int r_dpi, .int 0, .int r_x, .int r_y, .int r_scale, .int r_row, .int r_width, .int r_height, .int r_rowBytes, .ref r_seed, .int 75, .int 0, .int r_nextWidth, .int r_nextHeight]))] := hD
  refine lv_aload_n hx hb d_Raster_endJob_16 rfl (lv_at hl 0 rfl) ?_
  refine lv_iconst (v := 0) hx hb d_Raster_endJob_17 (by decide) ?_
  refine va_put (D := (dC, dI)) (ci := 11) (v := .int 0) (ty := .int) (C := R_Raster) (T := F_Raster) (N := 14) hx hb hwd i_Raster t_Raster to_Raster no_Raster hown hK hP hD hS 0 rfl rfl 12 (by decide) (hwd _ wd_3_10) (fun _ h9 => h9) rfl (by decide +kernel) rfl rfl (Nat.le_of_ble_eq_true rfl) d_Raster_endJob_18 ?_
  clear hP hD hS
  intro H locs hP hD hS
  replace hP : va_P (dC, dI) vcl [(h0, .inr (11, [.int r_dpi, .int 0, .int r_x, .int r_y, .int r_scale, .int r_row, .int r_width, .int r_height, .int r_rowBytes, .ref r_seed, .int 75, .int 0, .int 0, .int r_nextHeight]))] H := hP
  replace hD : va_D A [(h0, .inr (11, [.int r_dpi, .int 0, .int r_x, .int r_y, .int r_scale, .int r_row, .int r_width, .int r_height, .int r_rowBytes, .ref r_seed, .int 75, .int 0, .int 0, .int r_nextHeight]))] := hD
  refine lv_aload_n hx hb d_Raster_endJob_21 rfl (lv_at hl 0 rfl) ?_
  refine lv_iconst (v := 0) hx hb d_Raster_endJob_22 (by decide) ?_
  refine va_put (D := (dC, dI)) (ci := 11) (v := .int 0) (ty := .int) (C := R_Raster) (T := F_Raster) (N := 14) hx hb hwd i_Raster t_Raster to_Raster no_Raster hown hK hP hD hS 0 rfl rfl 13 (by decide) (hwd _ wd_3_11) (fun _ h9 => h9) rfl (by decide +kernel) rfl rfl (Nat.le_of_ble_eq_true rfl) d_Raster_endJob_23 ?_
  clear hP hD hS
  intro H locs hP hD hS
  replace hP : va_P (dC, dI) vcl [(h0, .inr (11, [.int r_dpi, .int 0, .int r_x, .int r_y, .int r_scale, .int r_row, .int r_width, .int r_height, .int r_rowBytes, .ref r_seed, .int 75, .int 0, .int 0, .int 0]))] H := hP
  replace hD : va_D A [(h0, .inr (11, [.int r_dpi, .int 0, .int r_x, .int r_y, .int r_scale, .int r_row, .int r_width, .int r_height, .int r_rowBytes, .ref r_seed, .int 75, .int 0, .int 0, .int 0]))] := hD
  have hP9 := hP.sub (ws' := [(h0, .inr (11, [.int r_dpi, .int 0, .int r_x, .int r_y, .int r_scale, .int r_row, .int r_width, .int r_height, .int r_rowBytes, .ref r_seed, .int 75, .int 0, .int 0, .int 0]))]) [0] rfl
  have hD9 := hD.sub (ws' := [(h0, .inr (11, [.int r_dpi, .int 0, .int r_x, .int r_y, .int r_scale, .int r_row, .int r_width, .int r_height, .int r_rowBytes, .ref r_seed, .int 75, .int 0, .int 0, .int 0]))]) [0] (by decide) rfl
  have hK9 := hK.sub (tys' := []) [] rfl
  exact W.vret hx hb hr (fun t ht hW => ⟨⟨(), rfl, (trivial), by rw [ht]; exact hP9, va_K.moved hW.alike hK9, hD9⟩, hS.F ht⟩) hS.2.2 d_Raster_endJob_26

abbrev at_c_Raster_init (dC : Nat → ClassId) (dI : Nat → Nat → Nat) (h0 : Nat) (d : Int32) (A : Nat → Prop) (u : Unit) (t : State) : Prop := match u with
  | _ => ∃ (q_1 : Nat) (cA_2 : ClassId), va_P (dC, dI) vcl [(h0, .inr (11, [.int d, .int 0, .int 0, .int 0, .int 0, .int 0, .int 0, .int 0, .int 0, .ref q_1, .int 75, .int 0, .int 0, .int 0])), (q_1, .inl (cA_2, 640, .inl (fun _ => 0)))] t.heap ∧ va_K (dC, dI) vcl [(cA_2, .byte)] t ∧ va_D A [(h0, .inr (11, [.int d, .int 0, .int 0, .int 0, .int 0, .int 0, .int 0, .int 0, .int 0, .ref q_1, .int 75, .int 0, .int 0, .int 0])), (q_1, .inl (cA_2, 640, .inl (fun _ => 0)))]
abbrev po_c_Raster_init (h0 : Nat) (d : Int32) (u : Unit) : Prop := match u with
  | _ => True
abbrev q_c_Raster_init (dC : Nat → ClassId) (dI : Nat → Nat → Nat) (h0 : Nat) (d : Int32) (A : Nat → Prop) : Array Value → State → Outcome → State → Prop := va_Qv (po_c_Raster_init h0 d) (at_c_Raster_init dC dI h0 d A) A
abbrev rm_c_Raster_init : Room := { frames := 1, cells := 1, slots := 640, locals := 20 }
set_option maxHeartbeats 4000000 in
set_option maxRecDepth 100000 in
theorem c_Raster_init (l : Launch) (dC : Nat → ClassId) (dI : Nat → Nat → Nat) (tt : Nat → Nat) (h0 : Nat) (d : Int32) (sz : Nat)  : Met l y_Raster_init w_Raster_init rm_c_Raster_init (va_Pc [.ref h0, .int d] (fun U => U.heap.size = sz ∧ va_P (dC, dI) vcl [(h0, .inr (11, [.int 0, .int 0, .int 0, .int 0, .int 0, .int 0, .int 0, .int 0, .int 0, .null, .int 0, .int 0, .int 0, .int 0]))] U.heap ∧ va_K (dC, dI) vcl [] U ∧ va_D (fun _ => True) [(h0, .inr (11, [.int 0, .int 0, .int 0, .int 0, .int 0, .int 0, .int 0, .int 0, .int 0, .null, .int 0, .int 0, .int 0, .int 0]))] ∧ SF tt (va_A [(h0, .inr (11, [.int 0, .int 0, .int 0, .int 0, .int 0, .int 0, .int 0, .int 0, .int 0, .null, .int 0, .int 0, .int 0, .int 0]))] sz) U U.heap)) (q_c_Raster_init dC dI h0 d (va_A [(h0, .inr (11, [.int 0, .int 0, .int 0, .int 0, .int 0, .int 0, .int 0, .int 0, .int 0, .null, .int 0, .int 0, .int 0, .int 0]))] sz)) 1 640 (va_A [(h0, .inr (11, [.int 0, .int 0, .int 0, .int 0, .int 0, .int 0, .int 0, .int 0, .int 0, .null, .int 0, .int 0, .int 0, .int 0]))] sz) := by
  refine Met.ofW (cc := b_Raster_init) (maxL := 2) (ret := none) (by decide) rfl ?_
  intro p e s m args below meth c s₁ B hml hv
  obtain ⟨rfl, hsz, hP, hK, hD0, hF⟩ := hv
  have hx := B.exec
  have hb := B.bytes
  have hr := B.returns
  have hwd : ∀ w ∈ gT, w.before _ s = true := fun w h => atoms_spec (ws := w_Raster_init) B.pre w (List.mem_cons_of_mem _ h)
  have hown : s.vm.findClass R_Raster = some m.cls := findClass_of_methodNamed B.named
  have hlocks := B.notSynchronized
  have hin : meth.name = "<init>" := (name_of_methodNamed B.named B.method).1
  subst hsz
  have hD := hD0.self (sz := s.heap.size)
  generalize hAe : va_A [(h0, .inr (11, [.int 0, .int 0, .int 0, .int 0, .int 0, .int 0, .int 0, .int 0, .int 0, .null, .int 0, .int 0, .int 0, .int 0]))] s.heap.size = A at hD hF ⊢
  have hA : ∀ q : Nat, s.heap.size ≤ q → A q := fun q h => by rw [← hAe]; exact Or.inr h
  have hS : va_S A s.heap s.heap [] := va_S.rf
  have hP : va_P (dC, dI) vcl [(h0, .inr (11, [.int 0, .int 0, .int 0, .int 0, .int 0, .int 0, .int 0, .int 0, .int 0, .null, .int 0, .int 0, .int 0, .int 0]))] s.heap := hP
  have hl := lv_entry ([.ref h0, .int d]) (n := 2) (Nat.le_of_ble_eq_true rfl)
  rw [lg_entry_eq]
  generalize (lg_sl ([.ref h0, .int d]) ++ List.replicate (2 - (lg_sl ([.ref h0, .int d])).length) Slot.unset).toArray = ls at hl ⊢
  have hl : lv_has ls 2 [(0, .ref h0), (1, .int d)] := hl
  refine lv_aload_n hx hb d_Raster_init_0 rfl (lv_at hl 0 rfl) ?_
  refine W.objInit hx hb hown (hwd _ wd_2_224) (hwd _ wd_1_35) (hwd _ wd_1_36) rfl (by rw [hml]; exact hl.1) rfl d_Raster_init_1 (Nat.le_of_ble_eq_true rfl) (Nat.le_of_ble_eq_true rfl) ?_
  refine W.eq (g2 := F0 m 4 ls []) rfl ?_
  refine lv_aload_n hx hb d_Raster_init_4 rfl (lv_at hl 0 rfl) ?_
  refine lv_sipush (v := 640) hx hb d_Raster_init_5 (by decide) ?_
  refine va_newa (atype := .byte) (N' := 640) (a0 := (640, .inl (fun _ => 0))) (ty := .byte) (n := 640) hx hb (hwd _ wd_1_166) rfl hK hP hD hS hA (fun _ => rfl) (by decide) (by decide) (by decide) (Nat.le_of_ble_eq_true rfl) (Nat.le_of_ble_eq_true rfl) d_Raster_init_8 ?_
  clear hP hD hS hK
  intro q_1 cA_2 H hK hP hD hS
  replace hP : va_P (dC, dI) vcl [(h0, .inr (11, [.int 0, .int 0, .int 0, .int 0, .int 0, .int 0, .int 0, .int 0, .int 0, .null, .int 0, .int 0, .int 0, .int 0])), (q_1, .inl (cA_2, 640, .inl (fun _ => 0)))] H := hP
  replace hD : va_D A [(h0, .inr (11, [.int 0, .int 0, .int 0, .int 0, .int 0, .int 0, .int 0, .int 0, .int 0, .null, .int 0, .int 0, .int 0, .int 0])), (q_1, .inl (cA_2, 640, .inl (fun _ => 0)))] := hD
  replace hK : va_K (dC, dI) vcl [(cA_2, .byte)] s := hK
  refine W.widen (k := 1) (n := 640) (by decide) (by decide) ?_
  refine va_putF (D := (dC, dI)) (ci := 11) (v := .ref q_1) (ty := (.array .byte)) (C := R_Raster) (T := F_Raster) (N := 14) hx hb hwd i_Raster t_Raster to_Raster no_Raster hown hK hP hD hS 0 rfl rfl 9 (by decide) (hwd _ wd_3_6) (fun _ h9 => h9) rfl hin rfl (by decide +kernel) rfl rfl (Nat.le_of_ble_eq_true rfl) d_Raster_init_10 ?_
  clear hP hD hS
  intro H locs hP hD hS
  replace hP : va_P (dC, dI) vcl [(h0, .inr (11, [.int 0, .int 0, .int 0, .int 0, .int 0, .int 0, .int 0, .int 0, .int 0, .ref q_1, .int 0, .int 0, .int 0, .int 0])), (q_1, .inl (cA_2, 640, .inl (fun _ => 0)))] H := hP
  replace hD : va_D A [(h0, .inr (11, [.int 0, .int 0, .int 0, .int 0, .int 0, .int 0, .int 0, .int 0, .int 0, .ref q_1, .int 0, .int 0, .int 0, .int 0])), (q_1, .inl (cA_2, 640, .inl (fun _ => 0)))] := hD
  refine lv_aload_n hx hb d_Raster_init_13 rfl (lv_at hl 0 rfl) ?_
  refine lv_iload_n hx hb d_Raster_init_14 rfl (lv_at hl 1 rfl) ?_
  refine va_putF (D := (dC, dI)) (ci := 11) (v := .int d) (ty := .int) (C := R_Raster) (T := F_Raster) (N := 14) hx hb hwd i_Raster t_Raster to_Raster no_Raster hown hK hP hD hS 0 rfl rfl 0 (by decide) (hwd _ wd_2_229) (fun _ h9 => h9) rfl hin rfl (by decide +kernel) rfl rfl (Nat.le_of_ble_eq_true rfl) d_Raster_init_15 ?_
  clear hP hD hS
  intro H locs hP hD hS
  replace hP : va_P (dC, dI) vcl [(h0, .inr (11, [.int d, .int 0, .int 0, .int 0, .int 0, .int 0, .int 0, .int 0, .int 0, .ref q_1, .int 0, .int 0, .int 0, .int 0])), (q_1, .inl (cA_2, 640, .inl (fun _ => 0)))] H := hP
  replace hD : va_D A [(h0, .inr (11, [.int d, .int 0, .int 0, .int 0, .int 0, .int 0, .int 0, .int 0, .int 0, .ref q_1, .int 0, .int 0, .int 0, .int 0])), (q_1, .inl (cA_2, 640, .inl (fun _ => 0)))] := hD
  refine lv_aload_n hx hb d_Raster_init_18 rfl (lv_at hl 0 rfl) ?_
  have hPc := hP.sub (ws' := [(h0, .inr (11, [.int d, .int 0, .int 0, .int 0, .int 0, .int 0, .int 0, .int 0, .int 0, .ref q_1, .int 0, .int 0, .int 0, .int 0]))]) [0] rfl
  have hDc := hD.sub (ws' := [(h0, .inr (11, [.int d, .int 0, .int 0, .int 0, .int 0, .int 0, .int 0, .int 0, .int 0, .ref q_1, .int 0, .int 0, .int 0, .int 0]))]) [0] (by decide) rfl
  have hKc := hK.sub (tys' := []) [] rfl
  have hFc := va_free (wc := [(h0, .inr (11, [.int d, .int 0, .int 0, .int 0, .int 0, .int 0, .int 0, .int 0, .int 0, .ref q_1, .int 0, .int 0, .int 0, .int 0]))]) hD hS hA [0] rfl
  refine va_callv (va_runV (As := []) (rest := []) ⟨hx, hb, hml, hown, hwd⟩ (c_Raster_endJob l dC dI tt h0 d 0 0 0 0 0 0 0 0 q_1 0 0 0 0 H.size ) (cwV 0 hwd (gV gd_Raster_endJob wd_2_225 wd_2_226 wd_2_227 wd_1_9) rfl rfl rfl (by decide +kernel) ⟨Nat.le_of_ble_eq_true rfl, Nat.le_of_ble_eq_true rfl⟩) ⟨fun a U g mk q => by obtain ⟨q0, q1, qP, qK, qD, qF⟩ := q; exact ⟨q0, q1, qP, va_K.moved (u := U) (U := U.calling g mk a) (Vm.Alike.refl U.vm) qK, qD, SF.same (u := U) (U := U.calling g mk a) rfl qF⟩, va_recv hKc hPc (ci := 11) (q0 := 0) rfl rfl, fun U hU hW => ⟨rfl, by rw [hU], by rw [hU]; exact hPc, va_K.moved hW.alike hKc, hDc.weaken (fun _ _ _ _ => trivial), by rw [hU]; exact SF.narrow (SF.moved hW (SF.kept hF (fun a h1 h2 => hS.2.1 a h1 h2))) hFc⟩⟩ rfl rfl hl.1 rfl (lv_room (Nat.le_of_ble_eq_true rfl)) d_Raster_init_19 ⟨Nat.le_of_ble_eq_true rfl, Nat.le_of_ble_eq_true rfl⟩) hS (fun q _ h => hFc q h) hFc ?_
  clear hPc hDc hKc hS
  intro u_4 t H1 locs ht hvm hw hB hz1 hk1 hS
  obtain ⟨hP1, hK1, hD1⟩ := hB
  rw [ht] at hP1
  have hK1 := va_K.moved hvm.symm hK1
  try dsimp only at hw
  have hJ := va_join (wr := [(q_1, .inl (cA_2, 640, .inl (fun _ => 0)))]) (w1 := [(h0, .inr (11, [.int d, .int 0, .int 0, .int 0, .int 0, .int 0, .int 0, .int 0, .int 0, .ref q_1, .int 75, .int 0, .int 0, .int 0]))]) hP hD [0] [1] rfl rfl (by decide) (by decide) hk1 hFc hP1 hD1
  clear hP hD hk1 hFc hP1 hD1 hz1
  obtain ⟨hP, hD⟩ := hJ
  clear hK1 ht hvm
  generalize H1 = H at hP hS ⊢
  replace hP : va_P (dC, dI) vcl [(q_1, .inl (cA_2, 640, .inl (fun _ => 0))), (h0, .inr (11, [.int d, .int 0, .int 0, .int 0, .int 0, .int 0, .int 0, .int 0, .int 0, .ref q_1, .int 75, .int 0, .int 0, .int 0]))] H := hP
  replace hD : va_D A [(q_1, .inl (cA_2, 640, .inl (fun _ => 0))), (h0, .inr (11, [.int d, .int 0, .int 0, .int 0, .int 0, .int 0, .int 0, .int 0, .int 0, .ref q_1, .int 75, .int 0, .int 0, .int 0]))] := hD
  have hP9 := hP.sub (ws' := [(h0, .inr (11, [.int d, .int 0, .int 0, .int 0, .int 0, .int 0, .int 0, .int 0, .int 0, .ref q_1, .int 75, .int 0, .int 0, .int 0])), (q_1, .inl (cA_2, 640, .inl (fun _ => 0)))]) [1, 0] rfl
  have hD9 := hD.sub (ws' := [(h0, .inr (11, [.int d, .int 0, .int 0, .int 0, .int 0, .int 0, .int 0, .int 0, .int 0, .ref q_1, .int 75, .int 0, .int 0, .int 0])), (q_1, .inl (cA_2, 640, .inl (fun _ => 0)))]) [1, 0] (by decide) rfl
  have hK9 := hK.sub (tys' := [(cA_2, .byte)]) [0] rfl
  exact W.vret hx hb hr (fun t ht hW => ⟨⟨(), rfl, (trivial), q_1, cA_2, by rw [ht]; exact hP9, va_K.moved hW.alike hK9, hD9⟩, hS.F ht⟩) hS.2.2 d_Raster_init_22

abbrev at_c_PictureFile_init (dC : Nat → ClassId) (dI : Nat → Nat → Nat) (h0 : Nat) (tp : Nat) (A : Nat → Prop) (u : Unit) (t : State) : Prop := match u with
  | _ => ∃ (q_1 : Nat) (q_3 : Nat) (q_5 : Nat) (cA_2 : ClassId) (cA_4 : ClassId) (cA_6 : ClassId), va_P (dC, dI) vcl [(h0, .inr (10, [.ref tp, .int 0, .int 0, .long 0, .long 0, .ref q_1, .ref q_3, .ref q_5])), (q_1, .inl (cA_2, 11, .inl (fun _ => 0))), (q_3, .inl (cA_4, 11, .inl (fun _ => 0))), (q_5, .inl (cA_6, 11, .inl (fun _ => 0)))] t.heap ∧ va_K (dC, dI) vcl [(cA_2, .int), (cA_4, .int), (cA_6, .int)] t ∧ va_D A [(h0, .inr (10, [.ref tp, .int 0, .int 0, .long 0, .long 0, .ref q_1, .ref q_3, .ref q_5])), (q_1, .inl (cA_2, 11, .inl (fun _ => 0))), (q_3, .inl (cA_4, 11, .inl (fun _ => 0))), (q_5, .inl (cA_6, 11, .inl (fun _ => 0)))]
abbrev po_c_PictureFile_init (h0 : Nat) (tp : Nat) (u : Unit) : Prop := match u with
  | _ => True
abbrev q_c_PictureFile_init (dC : Nat → ClassId) (dI : Nat → Nat → Nat) (h0 : Nat) (tp : Nat) (A : Nat → Prop) : Array Value → State → Outcome → State → Prop := va_Qv (po_c_PictureFile_init h0 tp) (at_c_PictureFile_init dC dI h0 tp A) A
abbrev rm_c_PictureFile_init : Room := { frames := 1, cells := 3, slots := 33, locals := 12 }
set_option maxHeartbeats 4000000 in
set_option maxRecDepth 100000 in
theorem c_PictureFile_init (l : Launch) (dC : Nat → ClassId) (dI : Nat → Nat → Nat) (tt : Nat → Nat) (h0 : Nat) (tp : Nat) (sz : Nat)  : Met l y_PictureFile_init w_PictureFile_init rm_c_PictureFile_init (va_Pc [.ref h0, .ref tp] (fun U => U.heap.size = sz ∧ va_P (dC, dI) vcl [(h0, .inr (10, [.null, .int 0, .int 0, .long 0, .long 0, .null, .null, .null]))] U.heap ∧ va_K (dC, dI) vcl [] U ∧ va_D (fun _ => True) [(h0, .inr (10, [.null, .int 0, .int 0, .long 0, .long 0, .null, .null, .null]))] ∧ SF tt (va_A [(h0, .inr (10, [.null, .int 0, .int 0, .long 0, .long 0, .null, .null, .null]))] sz) U U.heap)) (q_c_PictureFile_init dC dI h0 tp (va_A [(h0, .inr (10, [.null, .int 0, .int 0, .long 0, .long 0, .null, .null, .null]))] sz)) 3 33 (va_A [(h0, .inr (10, [.null, .int 0, .int 0, .long 0, .long 0, .null, .null, .null]))] sz) := by
  refine Met.ofW (cc := b_PictureFile_init) (maxL := 2) (ret := none) (by decide) rfl ?_
  intro p e s m args below meth c s₁ B hml hv
  obtain ⟨rfl, hsz, hP, hK, hD0, hF⟩ := hv
  have hx := B.exec
  have hb := B.bytes
  have hr := B.returns
  have hwd : ∀ w ∈ gT, w.before _ s = true := fun w h => atoms_spec (ws := w_PictureFile_init) B.pre w (List.mem_cons_of_mem _ h)
  have hown : s.vm.findClass R_PictureFile = some m.cls := findClass_of_methodNamed B.named
  have hlocks := B.notSynchronized
  have hin : meth.name = "<init>" := (name_of_methodNamed B.named B.method).1
  subst hsz
  have hD := hD0.self (sz := s.heap.size)
  generalize hAe : va_A [(h0, .inr (10, [.null, .int 0, .int 0, .long 0, .long 0, .null, .null, .null]))] s.heap.size = A at hD hF ⊢
  have hA : ∀ q : Nat, s.heap.size ≤ q → A q := fun q h => by rw [← hAe]; exact Or.inr h
  have hS : va_S A s.heap s.heap [] := va_S.rf
  have hP : va_P (dC, dI) vcl [(h0, .inr (10, [.null, .int 0, .int 0, .long 0, .long 0, .null, .null, .null]))] s.heap := hP
  have hl := lv_entry ([.ref h0, .ref tp]) (n := 2) (Nat.le_of_ble_eq_true rfl)
  rw [lg_entry_eq]
  generalize (lg_sl ([.ref h0, .ref tp]) ++ List.replicate (2 - (lg_sl ([.ref h0, .ref tp])).length) Slot.unset).toArray = ls at hl ⊢
  have hl : lv_has ls 2 [(0, .ref h0), (1, .ref tp)] := hl
  refine lv_aload_n hx hb d_PictureFile_init_0 rfl (lv_at hl 0 rfl) ?_
  refine W.objInit hx hb hown (hwd _ wd_3_178) (hwd _ wd_1_35) (hwd _ wd_1_36) rfl (by rw [hml]; exact hl.1) rfl d_PictureFile_init_1 (Nat.le_of_ble_eq_true rfl) (Nat.le_of_ble_eq_true rfl) ?_
  refine W.eq (g2 := F0 m 4 ls []) rfl ?_
  refine lv_aload_n hx hb d_PictureFile_init_4 rfl (lv_at hl 0 rfl) ?_
  refine va_gets hx hb (SF_p6 hF).1 hS hown (hwd _ wd_3_179) (fun _ h9 => h9) d_PictureFile_init_5 ?_
  refine va_tlen (v := 11) hx hb (SF_p6 hF).2 hS rfl d_PictureFile_init_8 ?_
  refine va_newa (atype := .int) (N' := 11) (a0 := (11, .inl (fun _ => 0))) (ty := .int) (n := 11) hx hb (hwd _ wd_1_167) rfl hK hP hD hS hA (fun _ => rfl) (by decide) (by decide) (by decide) (Nat.le_of_ble_eq_true rfl) (Nat.le_of_ble_eq_true rfl) d_PictureFile_init_9 ?_
  clear hP hD hS hK
  intro q_1 cA_2 H hK hP hD hS
  replace hP : va_P (dC, dI) vcl [(h0, .inr (10, [.null, .int 0, .int 0, .long 0, .long 0, .null, .null, .null])), (q_1, .inl (cA_2, 11, .inl (fun _ => 0)))] H := hP
  replace hD : va_D A [(h0, .inr (10, [.null, .int 0, .int 0, .long 0, .long 0, .null, .null, .null])), (q_1, .inl (cA_2, 11, .inl (fun _ => 0)))] := hD
  replace hK : va_K (dC, dI) vcl [(cA_2, .int)] s := hK
  refine W.widen (k := 1) (n := 11) (by decide) (by decide) ?_
  refine va_putF (D := (dC, dI)) (ci := 10) (v := .ref q_1) (ty := (.array .int)) (C := R_PictureFile) (T := F_PictureFile) (N := 8) hx hb hwd i_PictureFile t_PictureFile to_PictureFile no_PictureFile hown hK hP hD hS 0 rfl rfl 5 (by decide) (hwd _ wd_3_186) (fun _ h9 => h9) rfl hin rfl (by decide +kernel) rfl rfl (Nat.le_of_ble_eq_true rfl) d_PictureFile_init_11 ?_
  clear hP hD hS
  intro H locs hP hD hS
  replace hP : va_P (dC, dI) vcl [(h0, .inr (10, [.null, .int 0, .int 0, .long 0, .long 0, .ref q_1, .null, .null])), (q_1, .inl (cA_2, 11, .inl (fun _ => 0)))] H := hP
  replace hD : va_D A [(h0, .inr (10, [.null, .int 0, .int 0, .long 0, .long 0, .ref q_1, .null, .null])), (q_1, .inl (cA_2, 11, .inl (fun _ => 0)))] := hD
  refine lv_aload_n hx hb d_PictureFile_init_14 rfl (lv_at hl 0 rfl) ?_
  refine va_gets hx hb (SF_p6 hF).1 hS hown (hwd _ wd_3_179) (fun _ h9 => h9) d_PictureFile_init_15 ?_
  refine va_tlen (v := 11) hx hb (SF_p6 hF).2 hS rfl d_PictureFile_init_18 ?_
  refine va_newa (atype := .int) (N' := 11) (a0 := (11, .inl (fun _ => 0))) (ty := .int) (n := 11) hx hb (hwd _ wd_1_167) rfl hK hP hD hS hA (fun _ => rfl) (by decide) (by decide) (by decide) (Nat.le_of_ble_eq_true rfl) (Nat.le_of_ble_eq_true rfl) d_PictureFile_init_19 ?_
  clear hP hD hS hK
  intro q_3 cA_4 H hK hP hD hS
  replace hP : va_P (dC, dI) vcl [(h0, .inr (10, [.null, .int 0, .int 0, .long 0, .long 0, .ref q_1, .null, .null])), (q_1, .inl (cA_2, 11, .inl (fun _ => 0))), (q_3, .inl (cA_4, 11, .inl (fun _ => 0)))] H := hP
  replace hD : va_D A [(h0, .inr (10, [.null, .int 0, .int 0, .long 0, .long 0, .ref q_1, .null, .null])), (q_1, .inl (cA_2, 11, .inl (fun _ => 0))), (q_3, .inl (cA_4, 11, .inl (fun _ => 0)))] := hD
  replace hK : va_K (dC, dI) vcl [(cA_2, .int), (cA_4, .int)] s := hK
  refine W.widen (k := 2) (n := 22) (by decide) (by decide) ?_
  refine va_putF (D := (dC, dI)) (ci := 10) (v := .ref q_3) (ty := (.array .int)) (C := R_PictureFile) (T := F_PictureFile) (N := 8) hx hb hwd i_PictureFile t_PictureFile to_PictureFile no_PictureFile hown hK hP hD hS 0 rfl rfl 6 (by decide) (hwd _ wd_3_187) (fun _ h9 => h9) rfl hin rfl (by decide +kernel) rfl rfl (Nat.le_of_ble_eq_true rfl) d_PictureFile_init_21 ?_
  clear hP hD hS
  intro H locs hP hD hS
  replace hP : va_P (dC, dI) vcl [(h0, .inr (10, [.null, .int 0, .int 0, .long 0, .long 0, .ref q_1, .ref q_3, .null])), (q_1, .inl (cA_2, 11, .inl (fun _ => 0))), (q_3, .inl (cA_4, 11, .inl (fun _ => 0)))] H := hP
  replace hD : va_D A [(h0, .inr (10, [.null, .int 0, .int 0, .long 0, .long 0, .ref q_1, .ref q_3, .null])), (q_1, .inl (cA_2, 11, .inl (fun _ => 0))), (q_3, .inl (cA_4, 11, .inl (fun _ => 0)))] := hD
  refine lv_aload_n hx hb d_PictureFile_init_24 rfl (lv_at hl 0 rfl) ?_
  refine va_gets hx hb (SF_p6 hF).1 hS hown (hwd _ wd_3_179) (fun _ h9 => h9) d_PictureFile_init_25 ?_
  refine va_tlen (v := 11) hx hb (SF_p6 hF).2 hS rfl d_PictureFile_init_28 ?_
  refine va_newa (atype := .int) (N' := 11) (a0 := (11, .inl (fun _ => 0))) (ty := .int) (n := 11) hx hb (hwd _ wd_1_167) rfl hK hP hD hS hA (fun _ => rfl) (by decide) (by decide) (by decide) (Nat.le_of_ble_eq_true rfl) (Nat.le_of_ble_eq_true rfl) d_PictureFile_init_29 ?_
  clear hP hD hS hK
  intro q_5 cA_6 H hK hP hD hS
  replace hP : va_P (dC, dI) vcl [(h0, .inr (10, [.null, .int 0, .int 0, .long 0, .long 0, .ref q_1, .ref q_3, .null])), (q_1, .inl (cA_2, 11, .inl (fun _ => 0))), (q_3, .inl (cA_4, 11, .inl (fun _ => 0))), (q_5, .inl (cA_6, 11, .inl (fun _ => 0)))] H := hP
  replace hD : va_D A [(h0, .inr (10, [.null, .int 0, .int 0, .long 0, .long 0, .ref q_1, .ref q_3, .null])), (q_1, .inl (cA_2, 11, .inl (fun _ => 0))), (q_3, .inl (cA_4, 11, .inl (fun _ => 0))), (q_5, .inl (cA_6, 11, .inl (fun _ => 0)))] := hD
  replace hK : va_K (dC, dI) vcl [(cA_2, .int), (cA_4, .int), (cA_6, .int)] s := hK
  refine W.widen (k := 3) (n := 33) (by decide) (by decide) ?_
  refine va_putF (D := (dC, dI)) (ci := 10) (v := .ref q_5) (ty := (.array .int)) (C := R_PictureFile) (T := F_PictureFile) (N := 8) hx hb hwd i_PictureFile t_PictureFile to_PictureFile no_PictureFile hown hK hP hD hS 0 rfl rfl 7 (by decide) (hwd _ wd_3_188) (fun _ h9 => h9) rfl hin rfl (by decide +kernel) rfl rfl (Nat.le_of_ble_eq_true rfl) d_PictureFile_init_31 ?_
  clear hP hD hS
  intro H locs hP hD hS
  replace hP : va_P (dC, dI) vcl [(h0, .inr (10, [.null, .int 0, .int 0, .long 0, .long 0, .ref q_1, .ref q_3, .ref q_5])), (q_1, .inl (cA_2, 11, .inl (fun _ => 0))), (q_3, .inl (cA_4, 11, .inl (fun _ => 0))), (q_5, .inl (cA_6, 11, .inl (fun _ => 0)))] H := hP
  replace hD : va_D A [(h0, .inr (10, [.null, .int 0, .int 0, .long 0, .long 0, .ref q_1, .ref q_3, .ref q_5])), (q_1, .inl (cA_2, 11, .inl (fun _ => 0))), (q_3, .inl (cA_4, 11, .inl (fun _ => 0))), (q_5, .inl (cA_6, 11, .inl (fun _ => 0)))] := hD
  refine lv_aload_n hx hb d_PictureFile_init_34 rfl (lv_at hl 0 rfl) ?_
  refine lv_aload_n hx hb d_PictureFile_init_35 rfl (lv_at hl 1 rfl) ?_
  refine va_putF (D := (dC, dI)) (ci := 10) (v := .ref tp) (ty := (.array .byte)) (C := R_PictureFile) (T := F_PictureFile) (N := 8) hx hb hwd i_PictureFile t_PictureFile to_PictureFile no_PictureFile hown hK hP hD hS 0 rfl rfl 0 (by decide) (hwd _ wd_3_181) (fun _ h9 => h9) rfl hin rfl (by decide +kernel) rfl rfl (Nat.le_of_ble_eq_true rfl) d_PictureFile_init_36 ?_
  clear hP hD hS
  intro H locs hP hD hS
  replace hP : va_P (dC, dI) vcl [(h0, .inr (10, [.ref tp, .int 0, .int 0, .long 0, .long 0, .ref q_1, .ref q_3, .ref q_5])), (q_1, .inl (cA_2, 11, .inl (fun _ => 0))), (q_3, .inl (cA_4, 11, .inl (fun _ => 0))), (q_5, .inl (cA_6, 11, .inl (fun _ => 0)))] H := hP
  replace hD : va_D A [(h0, .inr (10, [.ref tp, .int 0, .int 0, .long 0, .long 0, .ref q_1, .ref q_3, .ref q_5])), (q_1, .inl (cA_2, 11, .inl (fun _ => 0))), (q_3, .inl (cA_4, 11, .inl (fun _ => 0))), (q_5, .inl (cA_6, 11, .inl (fun _ => 0)))] := hD
  have hP9 := hP.sub (ws' := [(h0, .inr (10, [.ref tp, .int 0, .int 0, .long 0, .long 0, .ref q_1, .ref q_3, .ref q_5])), (q_1, .inl (cA_2, 11, .inl (fun _ => 0))), (q_3, .inl (cA_4, 11, .inl (fun _ => 0))), (q_5, .inl (cA_6, 11, .inl (fun _ => 0)))]) [0, 1, 2, 3] rfl
  have hD9 := hD.sub (ws' := [(h0, .inr (10, [.ref tp, .int 0, .int 0, .long 0, .long 0, .ref q_1, .ref q_3, .ref q_5])), (q_1, .inl (cA_2, 11, .inl (fun _ => 0))), (q_3, .inl (cA_4, 11, .inl (fun _ => 0))), (q_5, .inl (cA_6, 11, .inl (fun _ => 0)))]) [0, 1, 2, 3] (by decide) rfl
  have hK9 := hK.sub (tys' := [(cA_2, .int), (cA_4, .int), (cA_6, .int)]) [0, 1, 2] rfl
  exact W.vret hx hb hr (fun t ht hW => ⟨⟨(), rfl, (trivial), q_1, q_3, q_5, cA_2, cA_4, cA_6, by rw [ht]; exact hP9, va_K.moved hW.alike hK9, hD9⟩, hS.F ht⟩) hS.2.2 d_PictureFile_init_39

abbrev at_c_Interpreter_init (dC : Nat → ClassId) (dI : Nat → Nat → Nat) (h0 : Nat) (a1 : Nat) (a2 : Nat) (a3 : Nat) (a4 : Nat) (a5 : Nat) (a6 : Nat) (A : Nat → Prop) (u : Unit) (t : State) : Prop := match u with
  | _ => ∃ (q_1 : Nat) (q_1_4 : Nat) (q_6 : Nat) (q_8 : Nat) (q_10 : Nat) (q_12 : Nat) (q_14 : Nat) (q_16 : Nat) (q_18 : Nat) (q_20 : Nat) (cA_2_5 : ClassId) (cA_7 : ClassId) (cA_9 : ClassId) (cA_11 : ClassId) (cA_13 : ClassId) (cA_15 : ClassId) (cA_17 : ClassId) (cA_19 : ClassId) (cA_21 : ClassId), va_P (dC, dI) vcl [(h0, .inr (4, [.ref a1, .ref a2, .ref a3, .ref a4, .ref a5, .ref a6, .ref q_1, .ref q_6, .int 0, .ref q_8, .ref q_10, .ref q_12, .ref q_14, .ref q_16, .ref q_18, .ref q_20, .int 0, .int 0, .int 0, .int 0])), (q_1, .inr (9, [.int 0, .int 0, .int 0, .int 0, .int 0, .int 0, .int 0, .int 0, .int 0, .int 0, .int 0, .int 0, .int 0, .int 0, .ref q_1_4, .int 0])), (q_1_4, .inl (cA_2_5, 4096, .inl (fun _ => 0))), (q_6, .inl (cA_7, 32768, .inl (fun _ => 0))), (q_8, .inl (cA_9, 3, .inl (fun _ => 0))), (q_10, .inl (cA_11, 3, .inl (fun _ => 0))), (q_12, .inl (cA_13, 3, .inl (fun _ => 0))), (q_14, .inl (cA_15, 24, .inl (fun _ => 0))), (q_16, .inl (cA_17, 24, .inl (fun _ => 0))), (q_18, .inl (cA_19, 3, .inl (fun _ => 0))), (q_20, .inl (cA_21, 3, .inl (fun _ => 0)))] t.heap ∧ va_K (dC, dI) vcl [(cA_2_5, .byte), (cA_7, .byte), (cA_9, .int), (cA_11, .int), (cA_13, .boolean), (cA_15, .int), (cA_17, .int), (cA_19, .int), (cA_21, .int)] t ∧ va_D A [(h0, .inr (4, [.ref a1, .ref a2, .ref a3, .ref a4, .ref a5, .ref a6, .ref q_1, .ref q_6, .int 0, .ref q_8, .ref q_10, .ref q_12, .ref q_14, .ref q_16, .ref q_18, .ref q_20, .int 0, .int 0, .int 0, .int 0])), (q_1, .inr (9, [.int 0, .int 0, .int 0, .int 0, .int 0, .int 0, .int 0, .int 0, .int 0, .int 0, .int 0, .int 0, .int 0, .int 0, .ref q_1_4, .int 0])), (q_1_4, .inl (cA_2_5, 4096, .inl (fun _ => 0))), (q_6, .inl (cA_7, 32768, .inl (fun _ => 0))), (q_8, .inl (cA_9, 3, .inl (fun _ => 0))), (q_10, .inl (cA_11, 3, .inl (fun _ => 0))), (q_12, .inl (cA_13, 3, .inl (fun _ => 0))), (q_14, .inl (cA_15, 24, .inl (fun _ => 0))), (q_16, .inl (cA_17, 24, .inl (fun _ => 0))), (q_18, .inl (cA_19, 3, .inl (fun _ => 0))), (q_20, .inl (cA_21, 3, .inl (fun _ => 0)))]
abbrev po_c_Interpreter_init (h0 : Nat) (a1 : Nat) (a2 : Nat) (a3 : Nat) (a4 : Nat) (a5 : Nat) (a6 : Nat) (u : Unit) : Prop := match u with
  | _ => True
abbrev q_c_Interpreter_init (dC : Nat → ClassId) (dI : Nat → Nat → Nat) (h0 : Nat) (a1 : Nat) (a2 : Nat) (a3 : Nat) (a4 : Nat) (a5 : Nat) (a6 : Nat) (A : Nat → Prop) : Array Value → State → Outcome → State → Prop := va_Qv (po_c_Interpreter_init h0 a1 a2 a3 a4 a5 a6) (at_c_Interpreter_init dC dI h0 a1 a2 a3 a4 a5 a6 A) A
abbrev rm_c_Interpreter_init : Room := { frames := 2, cells := 10, slots := 36943, locals := 32 }
set_option maxHeartbeats 4000000 in
set_option maxRecDepth 100000 in
theorem c_Interpreter_init (l : Launch) (dC : Nat → ClassId) (dI : Nat → Nat → Nat) (tt : Nat → Nat) (h0 : Nat) (a1 : Nat) (a2 : Nat) (a3 : Nat) (a4 : Nat) (a5 : Nat) (a6 : Nat) (sz : Nat)  : Met l y_Interpreter_init w_Interpreter_init rm_c_Interpreter_init (va_Pc [.ref h0, .ref a1, .ref a2, .ref a3, .ref a4, .ref a5, .ref a6] (fun U => U.heap.size = sz ∧ va_P (dC, dI) vcl [(h0, .inr (4, [.null, .null, .null, .null, .null, .null, .null, .null, .int 0, .null, .null, .null, .null, .null, .null, .null, .int 0, .int 0, .int 0, .int 0]))] U.heap ∧ va_K (dC, dI) vcl [] U ∧ va_D (fun _ => True) [(h0, .inr (4, [.null, .null, .null, .null, .null, .null, .null, .null, .int 0, .null, .null, .null, .null, .null, .null, .null, .int 0, .int 0, .int 0, .int 0]))] ∧ SF tt (va_A [(h0, .inr (4, [.null, .null, .null, .null, .null, .null, .null, .null, .int 0, .null, .null, .null, .null, .null, .null, .null, .int 0, .int 0, .int 0, .int 0]))] sz) U U.heap)) (q_c_Interpreter_init dC dI h0 a1 a2 a3 a4 a5 a6 (va_A [(h0, .inr (4, [.null, .null, .null, .null, .null, .null, .null, .null, .int 0, .null, .null, .null, .null, .null, .null, .null, .int 0, .int 0, .int 0, .int 0]))] sz)) 10 36943 (va_A [(h0, .inr (4, [.null, .null, .null, .null, .null, .null, .null, .null, .int 0, .null, .null, .null, .null, .null, .null, .null, .int 0, .int 0, .int 0, .int 0]))] sz) := by
  refine Met.ofW (cc := b_Interpreter_init) (maxL := 7) (ret := none) (by decide) rfl ?_
  intro p e s m args below meth c s₁ B hml hv
  obtain ⟨rfl, hsz, hP, hK, hD0, hF⟩ := hv
  have hx := B.exec
  have hb := B.bytes
  have hr := B.returns
  have hwd : ∀ w ∈ gT, w.before _ s = true := fun w h => atoms_spec (ws := w_Interpreter_init) B.pre w (List.mem_cons_of_mem _ h)
  have hown : s.vm.findClass R_Interpreter = some m.cls := findClass_of_methodNamed B.named
  have hlocks := B.notSynchronized
  have hin : meth.name = "<init>" := (name_of_methodNamed B.named B.method).1
  subst hsz
  have hD := hD0.self (sz := s.heap.size)
  generalize hAe : va_A [(h0, .inr (4, [.null, .null, .null, .null, .null, .null, .null, .null, .int 0, .null, .null, .null, .null, .null, .null, .null, .int 0, .int 0, .int 0, .int 0]))] s.heap.size = A at hD hF ⊢
  have hA : ∀ q : Nat, s.heap.size ≤ q → A q := fun q h => by rw [← hAe]; exact Or.inr h
  have hS : va_S A s.heap s.heap [] := va_S.rf
  have hP : va_P (dC, dI) vcl [(h0, .inr (4, [.null, .null, .null, .null, .null, .null, .null, .null, .int 0, .null, .null, .null, .null, .null, .null, .null, .int 0, .int 0, .int 0, .int 0]))] s.heap := hP
  have hl := lv_entry ([.ref h0, .ref a1, .ref a2, .ref a3, .ref a4, .ref a5, .ref a6]) (n := 7) (Nat.le_of_ble_eq_true rfl)
  rw [lg_entry_eq]
  generalize (lg_sl ([.ref h0, .ref a1, .ref a2, .ref a3, .ref a4, .ref a5, .ref a6]) ++ List.replicate (7 - (lg_sl ([.ref h0, .ref a1, .ref a2, .ref a3, .ref a4, .ref a5, .ref a6])).length) Slot.unset).toArray = ls at hl ⊢
  have hl : lv_has ls 7 [(0, .ref h0), (1, .ref a1), (2, .ref a2), (3, .ref a3), (4, .ref a4), (5, .ref a5), (6, .ref a6)] := hl
  refine lv_aload_n hx hb d_Interpreter_init_0 rfl (lv_at hl 0 rfl) ?_
  refine W.objInit hx hb hown (hwd _ wd_3_46) (hwd _ wd_1_35) (hwd _ wd_1_36) rfl (by rw [hml]; exact hl.1) rfl d_Interpreter_init_1 (Nat.le_of_ble_eq_true rfl) (Nat.le_of_ble_eq_true rfl) ?_
  refine W.eq (g2 := F0 m 4 ls []) rfl ?_
  refine lv_aload_n hx hb d_Interpreter_init_4 rfl (lv_at hl 0 rfl) ?_
  refine va_new (ci := 9) (fs := [.int 0, .int 0, .int 0, .int 0, .int 0, .int 0, .int 0, .int 0, .int 0, .int 0, .int 0, .int 0, .int 0, .int 0, .null, .int 0]) (C := R_Parser) (T := F_Parser) (N := 16) hx hb hwd i_Parser t_Parser to_Parser hown (hwd _ wd_3_47) (hwd _ wd_3_48) (hwd _ wd_1_11) hK hP hD hS hA rfl (fun j hj => by rcases (show j = 0 ∨ j = 1 ∨ j = 2 ∨ j = 3 ∨ j = 4 ∨ j = 5 ∨ j = 6 ∨ j = 7 ∨ j = 8 ∨ j = 9 ∨ j = 10 ∨ j = 11 ∨ j = 12 ∨ j = 13 ∨ j = 14 ∨ j = 15 by omega) with rfl | rfl | rfl | rfl | rfl | rfl | rfl | rfl | rfl | rfl | rfl | rfl | rfl | rfl | rfl | rfl <;> rfl) (Nat.le_of_ble_eq_true rfl) (Nat.le_of_ble_eq_true rfl) d_Interpreter_init_5 ?_
  clear hP hD hS
  intro q_1 H hP hD hS
  replace hP : va_P (dC, dI) vcl [(h0, .inr (4, [.null, .null, .null, .null, .null, .null, .null, .null, .int 0, .null, .null, .null, .null, .null, .null, .null, .int 0, .int 0, .int 0, .int 0])), (q_1, .inr (9, [.int 0, .int 0, .int 0, .int 0, .int 0, .int 0, .int 0, .int 0, .int 0, .int 0, .int 0, .int 0, .int 0, .int 0, .null, .int 0]))] H := hP
  replace hD : va_D A [(h0, .inr (4, [.null, .null, .null, .null, .null, .null, .null, .null, .int 0, .null, .null, .null, .null, .null, .null, .null, .int 0, .int 0, .int 0, .int 0])), (q_1, .inr (9, [.int 0, .int 0, .int 0, .int 0, .int 0, .int 0, .int 0, .int 0, .int 0, .int 0, .int 0, .int 0, .int 0, .int 0, .null, .int 0]))] := hD
  refine W.widen (k := 1) (n := 16) (by decide) (by decide) ?_
  refine lv_dup hx hb d_Interpreter_init_8 rfl ?_
  have hPc := hP.sub (ws' := [(q_1, .inr (9, [.int 0, .int 0, .int 0, .int 0, .int 0, .int 0, .int 0, .int 0, .int 0, .int 0, .int 0, .int 0, .int 0, .int 0, .null, .int 0]))]) [1] rfl
  have hDc := hD.sub (ws' := [(q_1, .inr (9, [.int 0, .int 0, .int 0, .int 0, .int 0, .int 0, .int 0, .int 0, .int 0, .int 0, .int 0, .int 0, .int 0, .int 0, .null, .int 0]))]) [1] (by decide) rfl
  have hKc := hK.sub (tys' := []) [] rfl
  have hFc := va_free (wc := [(q_1, .inr (9, [.int 0, .int 0, .int 0, .int 0, .int 0, .int 0, .int 0, .int 0, .int 0, .int 0, .int 0, .int 0, .int 0, .int 0, .null, .int 0]))]) hD hS hA [1] rfl
  refine va_callv (va_runIN (As := []) (rest := [.ref q_1, .ref h0]) ⟨hx, hb, hml, hown, hwd⟩ (c_Parser_init l dC dI tt q_1 H.size ) ⟨va_cnB 0 hwd gd_Parser_init rfl rfl rfl (nm_1 hF) (hwd _ wd_1_11) (by decide +kernel) ⟨Nat.le_of_ble_eq_true rfl, Nat.le_of_ble_eq_true rfl⟩, rfl, (hwd _ wd_3_50)⟩ ⟨fun a U g mk q => by obtain ⟨q0, q1, qP, qK, qD, qF⟩ := q; exact ⟨q0, q1, qP, va_K.moved (u := U) (U := U.calling g mk a) (Vm.Alike.refl U.vm) qK, qD, SF.same (u := U) (U := U.calling g mk a) rfl qF⟩, fun U hU hW => ⟨rfl, by rw [hU], by rw [hU]; exact hPc, va_K.moved hW.alike hKc, hDc.weaken (fun _ _ _ _ => trivial), by rw [hU]; exact SF.narrow (SF.moved hW (SF.kept hF (fun a h1 h2 => hS.2.1 a h1 h2))) hFc⟩⟩ rfl rfl hl.1 rfl (lv_room (Nat.le_of_ble_eq_true rfl)) d_Interpreter_init_9 ⟨Nat.le_of_ble_eq_true rfl, Nat.le_of_ble_eq_true rfl⟩) hS (fun q _ h => hFc q h) hFc ?_
  clear hPc hDc hKc hS
  intro u_3 t H1 locs ht hvm hw hB hz1 hk1 hS
  obtain ⟨q_1_4, cA_2_5, hP1, hK1, hD1⟩ := hB
  rw [ht] at hP1
  have hK1 := va_K.moved hvm.symm hK1
  try dsimp only at hw
  have hJ := va_join (wr := [(h0, .inr (4, [.null, .null, .null, .null, .null, .null, .null, .null, .int 0, .null, .null, .null, .null, .null, .null, .null, .int 0, .int 0, .int 0, .int 0]))]) (w1 := [(q_1, .inr (9, [.int 0, .int 0, .int 0, .int 0, .int 0, .int 0, .int 0, .int 0, .int 0, .int 0, .int 0, .int 0, .int 0, .int 0, .ref q_1_4, .int 0])), (q_1_4, .inl (cA_2_5, 4096, .inl (fun _ => 0)))]) hP hD [1] [0] rfl rfl (by decide) (by decide) hk1 hFc hP1 hD1
  clear hP hD hk1 hFc hP1 hD1 hz1
  obtain ⟨hP, hD⟩ := hJ
  replace hK := hK.app (hK1.sub (tys' := [(cA_2_5, .byte)]) [0] rfl)
  clear hK1 ht hvm
  generalize H1 = H at hP hS ⊢
  replace hP : va_P (dC, dI) vcl [(h0, .inr (4, [.null, .null, .null, .null, .null, .null, .null, .null, .int 0, .null, .null, .null, .null, .null, .null, .null, .int 0, .int 0, .int 0, .int 0])), (q_1, .inr (9, [.int 0, .int 0, .int 0, .int 0, .int 0, .int 0, .int 0, .int 0, .int 0, .int 0, .int 0, .int 0, .int 0, .int 0, .ref q_1_4, .int 0])), (q_1_4, .inl (cA_2_5, 4096, .inl (fun _ => 0)))] H := hP
  replace hD : va_D A [(h0, .inr (4, [.null, .null, .null, .null, .null, .null, .null, .null, .int 0, .null, .null, .null, .null, .null, .null, .null, .int 0, .int 0, .int 0, .int 0])), (q_1, .inr (9, [.int 0, .int 0, .int 0, .int 0, .int 0, .int 0, .int 0, .int 0, .int 0, .int 0, .int 0, .int 0, .int 0, .int 0, .ref q_1_4, .int 0])), (q_1_4, .inl (cA_2_5, 4096, .inl (fun _ => 0)))] := hD
  replace hK : va_K (dC, dI) vcl [(cA_2_5, .byte)] s := hK
  refine W.widen (k := 2) (n := 4112) (by decide) (by decide) ?_
  refine va_putF (D := (dC, dI)) (ci := 4) (v := .ref q_1) (ty := (.object "SheetPrinter$Parser")) (C := R_Interpreter) (T := F_Interpreter) (N := 20) hx hb hwd i_Interpreter t_Interpreter to_Interpreter no_Interpreter hown hK hP hD hS 0 rfl rfl 6 (by decide) (hwd _ wd_3_117) (fun _ h9 => h9) rfl hin rfl (by decide +kernel) rfl rfl (Nat.le_of_ble_eq_true rfl) d_Interpreter_init_12 ?_
  clear hP hD hS
  intro H locs hP hD hS
  replace hP : va_P (dC, dI) vcl [(h0, .inr (4, [.null, .null, .null, .null, .null, .null, .ref q_1, .null, .int 0, .null, .null, .null, .null, .null, .null, .null, .int 0, .int 0, .int 0, .int 0])), (q_1, .inr (9, [.int 0, .int 0, .int 0, .int 0, .int 0, .int 0, .int 0, .int 0, .int 0, .int 0, .int 0, .int 0, .int 0, .int 0, .ref q_1_4, .int 0])), (q_1_4, .inl (cA_2_5, 4096, .inl (fun _ => 0)))] H := hP
  replace hD : va_D A [(h0, .inr (4, [.null, .null, .null, .null, .null, .null, .ref q_1, .null, .int 0, .null, .null, .null, .null, .null, .null, .null, .int 0, .int 0, .int 0, .int 0])), (q_1, .inr (9, [.int 0, .int 0, .int 0, .int 0, .int 0, .int 0, .int 0, .int 0, .int 0, .int 0, .int 0, .int 0, .int 0, .int 0, .ref q_1_4, .int 0])), (q_1_4, .inl (cA_2_5, 4096, .inl (fun _ => 0)))] := hD
  refine lv_aload_n hx hb d_Interpreter_init_15 rfl (lv_at hl 0 rfl) ?_
  refine lv_ldc hx hb hown (hwd _ wd_3_110) d_Interpreter_init_16 ?_
  refine va_newa (atype := .byte) (N' := 32768) (a0 := (32768, .inl (fun _ => 0))) (ty := .byte) (n := 32768) hx hb (hwd _ wd_1_166) rfl hK hP hD hS hA (fun _ => rfl) (by decide) (by decide) (by decide) (Nat.le_of_ble_eq_true rfl) (Nat.le_of_ble_eq_true rfl) d_Interpreter_init_18 ?_
  clear hP hD hS hK
  intro q_6 cA_7 H hK hP hD hS
  replace hP : va_P (dC, dI) vcl [(h0, .inr (4, [.null, .null, .null, .null, .null, .null, .ref q_1, .null, .int 0, .null, .null, .null, .null, .null, .null, .null, .int 0, .int 0, .int 0, .int 0])), (q_1, .inr (9, [.int 0, .int 0, .int 0, .int 0, .int 0, .int 0, .int 0, .int 0, .int 0, .int 0, .int 0, .int 0, .int 0, .int 0, .ref q_1_4, .int 0])), (q_1_4, .inl (cA_2_5, 4096, .inl (fun _ => 0))), (q_6, .inl (cA_7, 32768, .inl (fun _ => 0)))] H := hP
  replace hD : va_D A [(h0, .inr (4, [.null, .null, .null, .null, .null, .null, .ref q_1, .null, .int 0, .null, .null, .null, .null, .null, .null, .null, .int 0, .int 0, .int 0, .int 0])), (q_1, .inr (9, [.int 0, .int 0, .int 0, .int 0, .int 0, .int 0, .int 0, .int 0, .int 0, .int 0, .int 0, .int 0, .int 0, .int 0, .ref q_1_4, .int 0])), (q_1_4, .inl (cA_2_5, 4096, .inl (fun _ => 0))), (q_6, .inl (cA_7, 32768, .inl (fun _ => 0)))] := hD
  replace hK : va_K (dC, dI) vcl [(cA_2_5, .byte), (cA_7, .byte)] s := hK
  refine W.widen (k := 3) (n := 36880) (by decide) (by decide) ?_
  refine va_putF (D := (dC, dI)) (ci := 4) (v := .ref q_6) (ty := (.array .byte)) (C := R_Interpreter) (T := F_Interpreter) (N := 20) hx hb hwd i_Interpreter t_Interpreter to_Interpreter no_Interpreter hown hK hP hD hS 0 rfl rfl 7 (by decide) (hwd _ wd_3_118) (fun _ h9 => h9) rfl hin rfl (by decide +kernel) rfl rfl (Nat.le_of_ble_eq_true rfl) d_Interpreter_init_20 ?_
  clear hP hD hS
  intro H locs hP hD hS
  replace hP : va_P (dC, dI) vcl [(h0, .inr (4, [.null, .null, .null, .null, .null, .null, .ref q_1, .ref q_6, .int 0, .null, .null, .null, .null, .null, .null, .null, .int 0, .int 0, .int 0, .int 0])), (q_1, .inr (9, [.int 0, .int 0, .int 0, .int 0, .int 0, .int 0, .int 0, .int 0, .int 0, .int 0, .int 0, .int 0, .int 0, .int 0, .ref q_1_4, .int 0])), (q_1_4, .inl (cA_2_5, 4096, .inl (fun _ => 0))), (q_6, .inl (cA_7, 32768, .inl (fun _ => 0)))] H := hP
  replace hD : va_D A [(h0, .inr (4, [.null, .null, .null, .null, .null, .null, .ref q_1, .ref q_6, .int 0, .null, .null, .null, .null, .null, .null, .null, .int 0, .int 0, .int 0, .int 0])), (q_1, .inr (9, [.int 0, .int 0, .int 0, .int 0, .int 0, .int 0, .int 0, .int 0, .int 0, .int 0, .int 0, .int 0, .int 0, .int 0, .ref q_1_4, .int 0])), (q_1_4, .inl (cA_2_5, 4096, .inl (fun _ => 0))), (q_6, .inl (cA_7, 32768, .inl (fun _ => 0)))] := hD
  refine lv_aload_n hx hb d_Interpreter_init_23 rfl (lv_at hl 0 rfl) ?_
  refine lv_iconst (v := 3) hx hb d_Interpreter_init_24 (by decide) ?_
  refine va_newa (atype := .int) (N' := 3) (a0 := (3, .inl (fun _ => 0))) (ty := .int) (n := 3) hx hb (hwd _ wd_1_167) rfl hK hP hD hS hA (fun _ => rfl) (by decide) (by decide) (by decide) (Nat.le_of_ble_eq_true rfl) (Nat.le_of_ble_eq_true rfl) d_Interpreter_init_25 ?_
  clear hP hD hS hK
  intro q_8 cA_9 H hK hP hD hS
  replace hP : va_P (dC, dI) vcl [(h0, .inr (4, [.null, .null, .null, .null, .null, .null, .ref q_1, .ref q_6, .int 0, .null, .null, .null, .null, .null, .null, .null, .int 0, .int 0, .int 0, .int 0])), (q_1, .inr (9, [.int 0, .int 0, .int 0, .int 0, .int 0, .int 0, .int 0, .int 0, .int 0, .int 0, .int 0, .int 0, .int 0, .int 0, .ref q_1_4, .int 0])), (q_1_4, .inl (cA_2_5, 4096, .inl (fun _ => 0))), (q_6, .inl (cA_7, 32768, .inl (fun _ => 0))), (q_8, .inl (cA_9, 3, .inl (fun _ => 0)))] H := hP
  replace hD : va_D A [(h0, .inr (4, [.null, .null, .null, .null, .null, .null, .ref q_1, .ref q_6, .int 0, .null, .null, .null, .null, .null, .null, .null, .int 0, .int 0, .int 0, .int 0])), (q_1, .inr (9, [.int 0, .int 0, .int 0, .int 0, .int 0, .int 0, .int 0, .int 0, .int 0, .int 0, .int 0, .int 0, .int 0, .int 0, .ref q_1_4, .int 0])), (q_1_4, .inl (cA_2_5, 4096, .inl (fun _ => 0))), (q_6, .inl (cA_7, 32768, .inl (fun _ => 0))), (q_8, .inl (cA_9, 3, .inl (fun _ => 0)))] := hD
  replace hK : va_K (dC, dI) vcl [(cA_2_5, .byte), (cA_7, .byte), (cA_9, .int)] s := hK
  refine W.widen (k := 4) (n := 36883) (by decide) (by decide) ?_
  refine va_putF (D := (dC, dI)) (ci := 4) (v := .ref q_8) (ty := (.array .int)) (C := R_Interpreter) (T := F_Interpreter) (N := 20) hx hb hwd i_Interpreter t_Interpreter to_Interpreter no_Interpreter hown hK hP hD hS 0 rfl rfl 9 (by decide) (hwd _ wd_3_120) (fun _ h9 => h9) rfl hin rfl (by decide +kernel) rfl rfl (Nat.le_of_ble_eq_true rfl) d_Interpreter_init_27 ?_
  clear hP hD hS
  intro H locs hP hD hS
  replace hP : va_P (dC, dI) vcl [(h0, .inr (4, [.null, .null, .null, .null, .null, .null, .ref q_1, .ref q_6, .int 0, .ref q_8, .null, .null, .null, .null, .null, .null, .int 0, .int 0, .int 0, .int 0])), (q_1, .inr (9, [.int 0, .int 0, .int 0, .int 0, .int 0, .int 0, .int 0, .int 0, .int 0, .int 0, .int 0, .int 0, .int 0, .int 0, .ref q_1_4, .int 0])), (q_1_4, .inl (cA_2_5, 4096, .inl (fun _ => 0))), (q_6, .inl (cA_7, 32768, .inl (fun _ => 0))), (q_8, .inl (cA_9, 3, .inl (fun _ => 0)))] H := hP
  replace hD : va_D A [(h0, .inr (4, [.null, .null, .null, .null, .null, .null, .ref q_1, .ref q_6, .int 0, .ref q_8, .null, .null, .null, .null, .null, .null, .int 0, .int 0, .int 0, .int 0])), (q_1, .inr (9, [.int 0, .int 0, .int 0, .int 0, .int 0, .int 0, .int 0, .int 0, .int 0, .int 0, .int 0, .int 0, .int 0, .int 0, .ref q_1_4, .int 0])), (q_1_4, .inl (cA_2_5, 4096, .inl (fun _ => 0))), (q_6, .inl (cA_7, 32768, .inl (fun _ => 0))), (q_8, .inl (cA_9, 3, .inl (fun _ => 0)))] := hD
  refine lv_aload_n hx hb d_Interpreter_init_30 rfl (lv_at hl 0 rfl) ?_
  refine lv_iconst (v := 3) hx hb d_Interpreter_init_31 (by decide) ?_
  refine va_newa (atype := .int) (N' := 3) (a0 := (3, .inl (fun _ => 0))) (ty := .int) (n := 3) hx hb (hwd _ wd_1_167) rfl hK hP hD hS hA (fun _ => rfl) (by decide) (by decide) (by decide) (Nat.le_of_ble_eq_true rfl) (Nat.le_of_ble_eq_true rfl) d_Interpreter_init_32 ?_
  clear hP hD hS hK
  intro q_10 cA_11 H hK hP hD hS
  replace hP : va_P (dC, dI) vcl [(h0, .inr (4, [.null, .null, .null, .null, .null, .null, .ref q_1, .ref q_6, .int 0, .ref q_8, .null, .null, .null, .null, .null, .null, .int 0, .int 0, .int 0, .int 0])), (q_1, .inr (9, [.int 0, .int 0, .int 0, .int 0, .int 0, .int 0, .int 0, .int 0, .int 0, .int 0, .int 0, .int 0, .int 0, .int 0, .ref q_1_4, .int 0])), (q_1_4, .inl (cA_2_5, 4096, .inl (fun _ => 0))), (q_6, .inl (cA_7, 32768, .inl (fun _ => 0))), (q_8, .inl (cA_9, 3, .inl (fun _ => 0))), (q_10, .inl (cA_11, 3, .inl (fun _ => 0)))] H := hP
  replace hD : va_D A [(h0, .inr (4, [.null, .null, .null, .null, .null, .null, .ref q_1, .ref q_6, .int 0, .ref q_8, .null, .null, .null, .null, .null, .null, .int 0, .int 0, .int 0, .int 0])), (q_1, .inr (9, [.int 0, .int 0, .int 0, .int 0, .int 0, .int 0, .int 0, .int 0, .int 0, .int 0, .int 0, .int 0, .int 0, .int 0, .ref q_1_4, .int 0])), (q_1_4, .inl (cA_2_5, 4096, .inl (fun _ => 0))), (q_6, .inl (cA_7, 32768, .inl (fun _ => 0))), (q_8, .inl (cA_9, 3, .inl (fun _ => 0))), (q_10, .inl (cA_11, 3, .inl (fun _ => 0)))] := hD
  replace hK : va_K (dC, dI) vcl [(cA_2_5, .byte), (cA_7, .byte), (cA_9, .int), (cA_11, .int)] s := hK
  refine W.widen (k := 5) (n := 36886) (by decide) (by decide) ?_
  refine va_putF (D := (dC, dI)) (ci := 4) (v := .ref q_10) (ty := (.array .int)) (C := R_Interpreter) (T := F_Interpreter) (N := 20) hx hb hwd i_Interpreter t_Interpreter to_Interpreter no_Interpreter hown hK hP hD hS 0 rfl rfl 10 (by decide) (hwd _ wd_3_121) (fun _ h9 => h9) rfl hin rfl (by decide +kernel) rfl rfl (Nat.le_of_ble_eq_true rfl) d_Interpreter_init_34 ?_
  clear hP hD hS
  intro H locs hP hD hS
  replace hP : va_P (dC, dI) vcl [(h0, .inr (4, [.null, .null, .null, .null, .null, .null, .ref q_1, .ref q_6, .int 0, .ref q_8, .ref q_10, .null, .null, .null, .null, .null, .int 0, .int 0, .int 0, .int 0])), (q_1, .inr (9, [.int 0, .int 0, .int 0, .int 0, .int 0, .int 0, .int 0, .int 0, .int 0, .int 0, .int 0, .int 0, .int 0, .int 0, .ref q_1_4, .int 0])), (q_1_4, .inl (cA_2_5, 4096, .inl (fun _ => 0))), (q_6, .inl (cA_7, 32768, .inl (fun _ => 0))), (q_8, .inl (cA_9, 3, .inl (fun _ => 0))), (q_10, .inl (cA_11, 3, .inl (fun _ => 0)))] H := hP
  replace hD : va_D A [(h0, .inr (4, [.null, .null, .null, .null, .null, .null, .ref q_1, .ref q_6, .int 0, .ref q_8, .ref q_10, .null, .null, .null, .null, .null, .int 0, .int 0, .int 0, .int 0])), (q_1, .inr (9, [.int 0, .int 0, .int 0, .int 0, .int 0, .int 0, .int 0, .int 0, .int 0, .int 0, .int 0, .int 0, .int 0, .int 0, .ref q_1_4, .int 0])), (q_1_4, .inl (cA_2_5, 4096, .inl (fun _ => 0))), (q_6, .inl (cA_7, 32768, .inl (fun _ => 0))), (q_8, .inl (cA_9, 3, .inl (fun _ => 0))), (q_10, .inl (cA_11, 3, .inl (fun _ => 0)))] := hD
  refine lv_aload_n hx hb d_Interpreter_init_37 rfl (lv_at hl 0 rfl) ?_
  refine lv_iconst (v := 3) hx hb d_Interpreter_init_38 (by decide) ?_
  refine va_newa (atype := .boolean) (N' := 3) (a0 := (3, .inl (fun _ => 0))) (ty := .boolean) (n := 3) hx hb (hwd _ wd_2_150) rfl hK hP hD hS hA (fun _ => rfl) (by decide) (by decide) (by decide) (Nat.le_of_ble_eq_true rfl) (Nat.le_of_ble_eq_true rfl) d_Interpreter_init_39 ?_
  clear hP hD hS hK
  intro q_12 cA_13 H hK hP hD hS
  replace hP : va_P (dC, dI) vcl [(h0, .inr (4, [.null, .null, .null, .null, .null, .null, .ref q_1, .ref q_6, .int 0, .ref q_8, .ref q_10, .null, .null, .null, .null, .null, .int 0, .int 0, .int 0, .int 0])), (q_1, .inr (9, [.int 0, .int 0, .int 0, .int 0, .int 0, .int 0, .int 0, .int 0, .int 0, .int 0, .int 0, .int 0, .int 0, .int 0, .ref q_1_4, .int 0])), (q_1_4, .inl (cA_2_5, 4096, .inl (fun _ => 0))), (q_6, .inl (cA_7, 32768, .inl (fun _ => 0))), (q_8, .inl (cA_9, 3, .inl (fun _ => 0))), (q_10, .inl (cA_11, 3, .inl (fun _ => 0))), (q_12, .inl (cA_13, 3, .inl (fun _ => 0)))] H := hP
  replace hD : va_D A [(h0, .inr (4, [.null, .null, .null, .null, .null, .null, .ref q_1, .ref q_6, .int 0, .ref q_8, .ref q_10, .null, .null, .null, .null, .null, .int 0, .int 0, .int 0, .int 0])), (q_1, .inr (9, [.int 0, .int 0, .int 0, .int 0, .int 0, .int 0, .int 0, .int 0, .int 0, .int 0, .int 0, .int 0, .int 0, .int 0, .ref q_1_4, .int 0])), (q_1_4, .inl (cA_2_5, 4096, .inl (fun _ => 0))), (q_6, .inl (cA_7, 32768, .inl (fun _ => 0))), (q_8, .inl (cA_9, 3, .inl (fun _ => 0))), (q_10, .inl (cA_11, 3, .inl (fun _ => 0))), (q_12, .inl (cA_13, 3, .inl (fun _ => 0)))] := hD
  replace hK : va_K (dC, dI) vcl [(cA_2_5, .byte), (cA_7, .byte), (cA_9, .int), (cA_11, .int), (cA_13, .boolean)] s := hK
  refine W.widen (k := 6) (n := 36889) (by decide) (by decide) ?_
  refine va_putF (D := (dC, dI)) (ci := 4) (v := .ref q_12) (ty := (.array .boolean)) (C := R_Interpreter) (T := F_Interpreter) (N := 20) hx hb hwd i_Interpreter t_Interpreter to_Interpreter no_Interpreter hown hK hP hD hS 0 rfl rfl 11 (by decide) (hwd _ wd_3_122) (fun _ h9 => h9) rfl hin rfl (by decide +kernel) rfl rfl (Nat.le_of_ble_eq_true rfl) d_Interpreter_init_41 ?_
  clear hP hD hS
  intro H locs hP hD hS
  replace hP : va_P (dC, dI) vcl [(h0, .inr (4, [.null, .null, .null, .null, .null, .null, .ref q_1, .ref q_6, .int 0, .ref q_8, .ref q_10, .ref q_12, .null, .null, .null, .null, .int 0, .int 0, .int 0, .int 0])), (q_1, .inr (9, [.int 0, .int 0, .int 0, .int 0, .int 0, .int 0, .int 0, .int 0, .int 0, .int 0, .int 0, .int 0, .int 0, .int 0, .ref q_1_4, .int 0])), (q_1_4, .inl (cA_2_5, 4096, .inl (fun _ => 0))), (q_6, .inl (cA_7, 32768, .inl (fun _ => 0))), (q_8, .inl (cA_9, 3, .inl (fun _ => 0))), (q_10, .inl (cA_11, 3, .inl (fun _ => 0))), (q_12, .inl (cA_13, 3, .inl (fun _ => 0)))] H := hP
  replace hD : va_D A [(h0, .inr (4, [.null, .null, .null, .null, .null, .null, .ref q_1, .ref q_6, .int 0, .ref q_8, .ref q_10, .ref q_12, .null, .null, .null, .null, .int 0, .int 0, .int 0, .int 0])), (q_1, .inr (9, [.int 0, .int 0, .int 0, .int 0, .int 0, .int 0, .int 0, .int 0, .int 0, .int 0, .int 0, .int 0, .int 0, .int 0, .ref q_1_4, .int 0])), (q_1_4, .inl (cA_2_5, 4096, .inl (fun _ => 0))), (q_6, .inl (cA_7, 32768, .inl (fun _ => 0))), (q_8, .inl (cA_9, 3, .inl (fun _ => 0))), (q_10, .inl (cA_11, 3, .inl (fun _ => 0))), (q_12, .inl (cA_13, 3, .inl (fun _ => 0)))] := hD
  refine lv_aload_n hx hb d_Interpreter_init_44 rfl (lv_at hl 0 rfl) ?_
  refine lv_bipush (v := 24) hx hb d_Interpreter_init_45 (by decide) ?_
  refine va_newa (atype := .int) (N' := 24) (a0 := (24, .inl (fun _ => 0))) (ty := .int) (n := 24) hx hb (hwd _ wd_1_167) rfl hK hP hD hS hA (fun _ => rfl) (by decide) (by decide) (by decide) (Nat.le_of_ble_eq_true rfl) (Nat.le_of_ble_eq_true rfl) d_Interpreter_init_47 ?_
  clear hP hD hS hK
  intro q_14 cA_15 H hK hP hD hS
  replace hP : va_P (dC, dI) vcl [(h0, .inr (4, [.null, .null, .null, .null, .null, .null, .ref q_1, .ref q_6, .int 0, .ref q_8, .ref q_10, .ref q_12, .null, .null, .null, .null, .int 0, .int 0, .int 0, .int 0])), (q_1, .inr (9, [.int 0, .int 0, .int 0, .int 0, .int 0, .int 0, .int 0, .int 0, .int 0, .int 0, .int 0, .int 0, .int 0, .int 0, .ref q_1_4, .int 0])), (q_1_4, .inl (cA_2_5, 4096, .inl (fun _ => 0))), (q_6, .inl (cA_7, 32768, .inl (fun _ => 0))), (q_8, .inl (cA_9, 3, .inl (fun _ => 0))), (q_10, .inl (cA_11, 3, .inl (fun _ => 0))), (q_12, .inl (cA_13, 3, .inl (fun _ => 0))), (q_14, .inl (cA_15, 24, .inl (fun _ => 0)))] H := hP
  replace hD : va_D A [(h0, .inr (4, [.null, .null, .null, .null, .null, .null, .ref q_1, .ref q_6, .int 0, .ref q_8, .ref q_10, .ref q_12, .null, .null, .null, .null, .int 0, .int 0, .int 0, .int 0])), (q_1, .inr (9, [.int 0, .int 0, .int 0, .int 0, .int 0, .int 0, .int 0, .int 0, .int 0, .int 0, .int 0, .int 0, .int 0, .int 0, .ref q_1_4, .int 0])), (q_1_4, .inl (cA_2_5, 4096, .inl (fun _ => 0))), (q_6, .inl (cA_7, 32768, .inl (fun _ => 0))), (q_8, .inl (cA_9, 3, .inl (fun _ => 0))), (q_10, .inl (cA_11, 3, .inl (fun _ => 0))), (q_12, .inl (cA_13, 3, .inl (fun _ => 0))), (q_14, .inl (cA_15, 24, .inl (fun _ => 0)))] := hD
  replace hK : va_K (dC, dI) vcl [(cA_2_5, .byte), (cA_7, .byte), (cA_9, .int), (cA_11, .int), (cA_13, .boolean), (cA_15, .int)] s := hK
  refine W.widen (k := 7) (n := 36913) (by decide) (by decide) ?_
  refine va_putF (D := (dC, dI)) (ci := 4) (v := .ref q_14) (ty := (.array .int)) (C := R_Interpreter) (T := F_Interpreter) (N := 20) hx hb hwd i_Interpreter t_Interpreter to_Interpreter no_Interpreter hown hK hP hD hS 0 rfl rfl 12 (by decide) (hwd _ wd_3_123) (fun _ h9 => h9) rfl hin rfl (by decide +kernel) rfl rfl (Nat.le_of_ble_eq_true rfl) d_Interpreter_init_49 ?_
  clear hP hD hS
  intro H locs hP hD hS
  replace hP : va_P (dC, dI) vcl [(h0, .inr (4, [.null, .null, .null, .null, .null, .null, .ref q_1, .ref q_6, .int 0, .ref q_8, .ref q_10, .ref q_12, .ref q_14, .null, .null, .null, .int 0, .int 0, .int 0, .int 0])), (q_1, .inr (9, [.int 0, .int 0, .int 0, .int 0, .int 0, .int 0, .int 0, .int 0, .int 0, .int 0, .int 0, .int 0, .int 0, .int 0, .ref q_1_4, .int 0])), (q_1_4, .inl (cA_2_5, 4096, .inl (fun _ => 0))), (q_6, .inl (cA_7, 32768, .inl (fun _ => 0))), (q_8, .inl (cA_9, 3, .inl (fun _ => 0))), (q_10, .inl (cA_11, 3, .inl (fun _ => 0))), (q_12, .inl (cA_13, 3, .inl (fun _ => 0))), (q_14, .inl (cA_15, 24, .inl (fun _ => 0)))] H := hP
  replace hD : va_D A [(h0, .inr (4, [.null, .null, .null, .null, .null, .null, .ref q_1, .ref q_6, .int 0, .ref q_8, .ref q_10, .ref q_12, .ref q_14, .null, .null, .null, .int 0, .int 0, .int 0, .int 0])), (q_1, .inr (9, [.int 0, .int 0, .int 0, .int 0, .int 0, .int 0, .int 0, .int 0, .int 0, .int 0, .int 0, .int 0, .int 0, .int 0, .ref q_1_4, .int 0])), (q_1_4, .inl (cA_2_5, 4096, .inl (fun _ => 0))), (q_6, .inl (cA_7, 32768, .inl (fun _ => 0))), (q_8, .inl (cA_9, 3, .inl (fun _ => 0))), (q_10, .inl (cA_11, 3, .inl (fun _ => 0))), (q_12, .inl (cA_13, 3, .inl (fun _ => 0))), (q_14, .inl (cA_15, 24, .inl (fun _ => 0)))] := hD
  refine lv_aload_n hx hb d_Interpreter_init_52 rfl (lv_at hl 0 rfl) ?_
  refine lv_bipush (v := 24) hx hb d_Interpreter_init_53 (by decide) ?_
  refine va_newa (atype := .int) (N' := 24) (a0 := (24, .inl (fun _ => 0))) (ty := .int) (n := 24) hx hb (hwd _ wd_1_167) rfl hK hP hD hS hA (fun _ => rfl) (by decide) (by decide) (by decide) (Nat.le_of_ble_eq_true rfl) (Nat.le_of_ble_eq_true rfl) d_Interpreter_init_55 ?_
  clear hP hD hS hK
  intro q_16 cA_17 H hK hP hD hS
  replace hP : va_P (dC, dI) vcl [(h0, .inr (4, [.null, .null, .null, .null, .null, .null, .ref q_1, .ref q_6, .int 0, .ref q_8, .ref q_10, .ref q_12, .ref q_14, .null, .null, .null, .int 0, .int 0, .int 0, .int 0])), (q_1, .inr (9, [.int 0, .int 0, .int 0, .int 0, .int 0, .int 0, .int 0, .int 0, .int 0, .int 0, .int 0, .int 0, .int 0, .int 0, .ref q_1_4, .int 0])), (q_1_4, .inl (cA_2_5, 4096, .inl (fun _ => 0))), (q_6, .inl (cA_7, 32768, .inl (fun _ => 0))), (q_8, .inl (cA_9, 3, .inl (fun _ => 0))), (q_10, .inl (cA_11, 3, .inl (fun _ => 0))), (q_12, .inl (cA_13, 3, .inl (fun _ => 0))), (q_14, .inl (cA_15, 24, .inl (fun _ => 0))), (q_16, .inl (cA_17, 24, .inl (fun _ => 0)))] H := hP
  replace hD : va_D A [(h0, .inr (4, [.null, .null, .null, .null, .null, .null, .ref q_1, .ref q_6, .int 0, .ref q_8, .ref q_10, .ref q_12, .ref q_14, .null, .null, .null, .int 0, .int 0, .int 0, .int 0])), (q_1, .inr (9, [.int 0, .int 0, .int 0, .int 0, .int 0, .int 0, .int 0, .int 0, .int 0, .int 0, .int 0, .int 0, .int 0, .int 0, .ref q_1_4, .int 0])), (q_1_4, .inl (cA_2_5, 4096, .inl (fun _ => 0))), (q_6, .inl (cA_7, 32768, .inl (fun _ => 0))), (q_8, .inl (cA_9, 3, .inl (fun _ => 0))), (q_10, .inl (cA_11, 3, .inl (fun _ => 0))), (q_12, .inl (cA_13, 3, .inl (fun _ => 0))), (q_14, .inl (cA_15, 24, .inl (fun _ => 0))), (q_16, .inl (cA_17, 24, .inl (fun _ => 0)))] := hD
  replace hK : va_K (dC, dI) vcl [(cA_2_5, .byte), (cA_7, .byte), (cA_9, .int), (cA_11, .int), (cA_13, .boolean), (cA_15, .int), (cA_17, .int)] s := hK
  refine W.widen (k := 8) (n := 36937) (by decide) (by decide) ?_
  refine va_putF (D := (dC, dI)) (ci := 4) (v := .ref q_16) (ty := (.array .int)) (C := R_Interpreter) (T := F_Interpreter) (N := 20) hx hb hwd i_Interpreter t_Interpreter to_Interpreter no_Interpreter hown hK hP hD hS 0 rfl rfl 13 (by decide) (hwd _ wd_3_124) (fun _ h9 => h9) rfl hin rfl (by decide +kernel) rfl rfl (Nat.le_of_ble_eq_true rfl) d_Interpreter_init_57 ?_
  clear hP hD hS
  intro H locs hP hD hS
  replace hP : va_P (dC, dI) vcl [(h0, .inr (4, [.null, .null, .null, .null, .null, .null, .ref q_1, .ref q_6, .int 0, .ref q_8, .ref q_10, .ref q_12, .ref q_14, .ref q_16, .null, .null, .int 0, .int 0, .int 0, .int 0])), (q_1, .inr (9, [.int 0, .int 0, .int 0, .int 0, .int 0, .int 0, .int 0, .int 0, .int 0, .int 0, .int 0, .int 0, .int 0, .int 0, .ref q_1_4, .int 0])), (q_1_4, .inl (cA_2_5, 4096, .inl (fun _ => 0))), (q_6, .inl (cA_7, 32768, .inl (fun _ => 0))), (q_8, .inl (cA_9, 3, .inl (fun _ => 0))), (q_10, .inl (cA_11, 3, .inl (fun _ => 0))), (q_12, .inl (cA_13, 3, .inl (fun _ => 0))), (q_14, .inl (cA_15, 24, .inl (fun _ => 0))), (q_16, .inl (cA_17, 24, .inl (fun _ => 0)))] H := hP
  replace hD : va_D A [(h0, .inr (4, [.null, .null, .null, .null, .null, .null, .ref q_1, .ref q_6, .int 0, .ref q_8, .ref q_10, .ref q_12, .ref q_14, .ref q_16, .null, .null, .int 0, .int 0, .int 0, .int 0])), (q_1, .inr (9, [.int 0, .int 0, .int 0, .int 0, .int 0, .int 0, .int 0, .int 0, .int 0, .int 0, .int 0, .int 0, .int 0, .int 0, .ref q_1_4, .int 0])), (q_1_4, .inl (cA_2_5, 4096, .inl (fun _ => 0))), (q_6, .inl (cA_7, 32768, .inl (fun _ => 0))), (q_8, .inl (cA_9, 3, .inl (fun _ => 0))), (q_10, .inl (cA_11, 3, .inl (fun _ => 0))), (q_12, .inl (cA_13, 3, .inl (fun _ => 0))), (q_14, .inl (cA_15, 24, .inl (fun _ => 0))), (q_16, .inl (cA_17, 24, .inl (fun _ => 0)))] := hD
  refine lv_aload_n hx hb d_Interpreter_init_60 rfl (lv_at hl 0 rfl) ?_
  refine lv_iconst (v := 3) hx hb d_Interpreter_init_61 (by decide) ?_
  refine va_newa (atype := .int) (N' := 3) (a0 := (3, .inl (fun _ => 0))) (ty := .int) (n := 3) hx hb (hwd _ wd_1_167) rfl hK hP hD hS hA (fun _ => rfl) (by decide) (by decide) (by decide) (Nat.le_of_ble_eq_true rfl) (Nat.le_of_ble_eq_true rfl) d_Interpreter_init_62 ?_
  clear hP hD hS hK
  intro q_18 cA_19 H hK hP hD hS
  replace hP : va_P (dC, dI) vcl [(h0, .inr (4, [.null, .null, .null, .null, .null, .null, .ref q_1, .ref q_6, .int 0, .ref q_8, .ref q_10, .ref q_12, .ref q_14, .ref q_16, .null, .null, .int 0, .int 0, .int 0, .int 0])), (q_1, .inr (9, [.int 0, .int 0, .int 0, .int 0, .int 0, .int 0, .int 0, .int 0, .int 0, .int 0, .int 0, .int 0, .int 0, .int 0, .ref q_1_4, .int 0])), (q_1_4, .inl (cA_2_5, 4096, .inl (fun _ => 0))), (q_6, .inl (cA_7, 32768, .inl (fun _ => 0))), (q_8, .inl (cA_9, 3, .inl (fun _ => 0))), (q_10, .inl (cA_11, 3, .inl (fun _ => 0))), (q_12, .inl (cA_13, 3, .inl (fun _ => 0))), (q_14, .inl (cA_15, 24, .inl (fun _ => 0))), (q_16, .inl (cA_17, 24, .inl (fun _ => 0))), (q_18, .inl (cA_19, 3, .inl (fun _ => 0)))] H := hP
  replace hD : va_D A [(h0, .inr (4, [.null, .null, .null, .null, .null, .null, .ref q_1, .ref q_6, .int 0, .ref q_8, .ref q_10, .ref q_12, .ref q_14, .ref q_16, .null, .null, .int 0, .int 0, .int 0, .int 0])), (q_1, .inr (9, [.int 0, .int 0, .int 0, .int 0, .int 0, .int 0, .int 0, .int 0, .int 0, .int 0, .int 0, .int 0, .int 0, .int 0, .ref q_1_4, .int 0])), (q_1_4, .inl (cA_2_5, 4096, .inl (fun _ => 0))), (q_6, .inl (cA_7, 32768, .inl (fun _ => 0))), (q_8, .inl (cA_9, 3, .inl (fun _ => 0))), (q_10, .inl (cA_11, 3, .inl (fun _ => 0))), (q_12, .inl (cA_13, 3, .inl (fun _ => 0))), (q_14, .inl (cA_15, 24, .inl (fun _ => 0))), (q_16, .inl (cA_17, 24, .inl (fun _ => 0))), (q_18, .inl (cA_19, 3, .inl (fun _ => 0)))] := hD
  replace hK : va_K (dC, dI) vcl [(cA_2_5, .byte), (cA_7, .byte), (cA_9, .int), (cA_11, .int), (cA_13, .boolean), (cA_15, .int), (cA_17, .int), (cA_19, .int)] s := hK
  refine W.widen (k := 9) (n := 36940) (by decide) (by decide) ?_
  refine va_putF (D := (dC, dI)) (ci := 4) (v := .ref q_18) (ty := (.array .int)) (C := R_Interpreter) (T := F_Interpreter) (N := 20) hx hb hwd i_Interpreter t_Interpreter to_Interpreter no_Interpreter hown hK hP hD hS 0 rfl rfl 14 (by decide) (hwd _ wd_3_125) (fun _ h9 => h9) rfl hin rfl (by decide +kernel) rfl rfl (Nat.le_of_ble_eq_true rfl) d_Interpreter_init_64 ?_
  clear hP hD hS
  intro H locs hP hD hS
  replace hP : va_P (dC, dI) vcl [(h0, .inr (4, [.null, .null, .null, .null, .null, .null, .ref q_1, .ref q_6, .int 0, .ref q_8, .ref q_10, .ref q_12, .ref q_14, .ref q_16, .ref q_18, .null, .int 0, .int 0, .int 0, .int 0])), (q_1, .inr (9, [.int 0, .int 0, .int 0, .int 0, .int 0, .int 0, .int 0, .int 0, .int 0, .int 0, .int 0, .int 0, .int 0, .int 0, .ref q_1_4, .int 0])), (q_1_4, .inl (cA_2_5, 4096, .inl (fun _ => 0))), (q_6, .inl (cA_7, 32768, .inl (fun _ => 0))), (q_8, .inl (cA_9, 3, .inl (fun _ => 0))), (q_10, .inl (cA_11, 3, .inl (fun _ => 0))), (q_12, .inl (cA_13, 3, .inl (fun _ => 0))), (q_14, .inl (cA_15, 24, .inl (fun _ => 0))), (q_16, .inl (cA_17, 24, .inl (fun _ => 0))), (q_18, .inl (cA_19, 3, .inl (fun _ => 0)))] H := hP
  replace hD : va_D A [(h0, .inr (4, [.null, .null, .null, .null, .null, .null, .ref q_1, .ref q_6, .int 0, .ref q_8, .ref q_10, .ref q_12, .ref q_14, .ref q_16, .ref q_18, .null, .int 0, .int 0, .int 0, .int 0])), (q_1, .inr (9, [.int 0, .int 0, .int 0, .int 0, .int 0, .int 0, .int 0, .int 0, .int 0, .int 0, .int 0, .int 0, .int 0, .int 0, .ref q_1_4, .int 0])), (q_1_4, .inl (cA_2_5, 4096, .inl (fun _ => 0))), (q_6, .inl (cA_7, 32768, .inl (fun _ => 0))), (q_8, .inl (cA_9, 3, .inl (fun _ => 0))), (q_10, .inl (cA_11, 3, .inl (fun _ => 0))), (q_12, .inl (cA_13, 3, .inl (fun _ => 0))), (q_14, .inl (cA_15, 24, .inl (fun _ => 0))), (q_16, .inl (cA_17, 24, .inl (fun _ => 0))), (q_18, .inl (cA_19, 3, .inl (fun _ => 0)))] := hD
  refine lv_aload_n hx hb d_Interpreter_init_67 rfl (lv_at hl 0 rfl) ?_
  refine lv_iconst (v := 3) hx hb d_Interpreter_init_68 (by decide) ?_
  refine va_newa (atype := .int) (N' := 3) (a0 := (3, .inl (fun _ => 0))) (ty := .int) (n := 3) hx hb (hwd _ wd_1_167) rfl hK hP hD hS hA (fun _ => rfl) (by decide) (by decide) (by decide) (Nat.le_of_ble_eq_true rfl) (Nat.le_of_ble_eq_true rfl) d_Interpreter_init_69 ?_
  clear hP hD hS hK
  intro q_20 cA_21 H hK hP hD hS
  replace hP : va_P (dC, dI) vcl [(h0, .inr (4, [.null, .null, .null, .null, .null, .null, .ref q_1, .ref q_6, .int 0, .ref q_8, .ref q_10, .ref q_12, .ref q_14, .ref q_16, .ref q_18, .null, .int 0, .int 0, .int 0, .int 0])), (q_1, .inr (9, [.int 0, .int 0, .int 0, .int 0, .int 0, .int 0, .int 0, .int 0, .int 0, .int 0, .int 0, .int 0, .int 0, .int 0, .ref q_1_4, .int 0])), (q_1_4, .inl (cA_2_5, 4096, .inl (fun _ => 0))), (q_6, .inl (cA_7, 32768, .inl (fun _ => 0))), (q_8, .inl (cA_9, 3, .inl (fun _ => 0))), (q_10, .inl (cA_11, 3, .inl (fun _ => 0))), (q_12, .inl (cA_13, 3, .inl (fun _ => 0))), (q_14, .inl (cA_15, 24, .inl (fun _ => 0))), (q_16, .inl (cA_17, 24, .inl (fun _ => 0))), (q_18, .inl (cA_19, 3, .inl (fun _ => 0))), (q_20, .inl (cA_21, 3, .inl (fun _ => 0)))] H := hP
  replace hD : va_D A [(h0, .inr (4, [.null, .null, .null, .null, .null, .null, .ref q_1, .ref q_6, .int 0, .ref q_8, .ref q_10, .ref q_12, .ref q_14, .ref q_16, .ref q_18, .null, .int 0, .int 0, .int 0, .int 0])), (q_1, .inr (9, [.int 0, .int 0, .int 0, .int 0, .int 0, .int 0, .int 0, .int 0, .int 0, .int 0, .int 0, .int 0, .int 0, .int 0, .ref q_1_4, .int 0])), (q_1_4, .inl (cA_2_5, 4096, .inl (fun _ => 0))), (q_6, .inl (cA_7, 32768, .inl (fun _ => 0))), (q_8, .inl (cA_9, 3, .inl (fun _ => 0))), (q_10, .inl (cA_11, 3, .inl (fun _ => 0))), (q_12, .inl (cA_13, 3, .inl (fun _ => 0))), (q_14, .inl (cA_15, 24, .inl (fun _ => 0))), (q_16, .inl (cA_17, 24, .inl (fun _ => 0))), (q_18, .inl (cA_19, 3, .inl (fun _ => 0))), (q_20, .inl (cA_21, 3, .inl (fun _ => 0)))] := hD
  replace hK : va_K (dC, dI) vcl [(cA_2_5, .byte), (cA_7, .byte), (cA_9, .int), (cA_11, .int), (cA_13, .boolean), (cA_15, .int), (cA_17, .int), (cA_19, .int), (cA_21, .int)] s := hK
  refine W.widen (k := 10) (n := 36943) (by decide) (by decide) ?_
  refine va_putF (D := (dC, dI)) (ci := 4) (v := .ref q_20) (ty := (.array .int)) (C := R_Interpreter) (T := F_Interpreter) (N := 20) hx hb hwd i_Interpreter t_Interpreter to_Interpreter no_Interpreter hown hK hP hD hS 0 rfl rfl 15 (by decide) (hwd _ wd_3_126) (fun _ h9 => h9) rfl hin rfl (by decide +kernel) rfl rfl (Nat.le_of_ble_eq_true rfl) d_Interpreter_init_71 ?_
  clear hP hD hS
  intro H locs hP hD hS
  replace hP : va_P (dC, dI) vcl [(h0, .inr (4, [.null, .null, .null, .null, .null, .null, .ref q_1, .ref q_6, .int 0, .ref q_8, .ref q_10, .ref q_12, .ref q_14, .ref q_16, .ref q_18, .ref q_20, .int 0, .int 0, .int 0, .int 0])), (q_1, .inr (9, [.int 0, .int 0, .int 0, .int 0, .int 0, .int 0, .int 0, .int 0, .int 0, .int 0, .int 0, .int 0, .int 0, .int 0, .ref q_1_4, .int 0])), (q_1_4, .inl (cA_2_5, 4096, .inl (fun _ => 0))), (q_6, .inl (cA_7, 32768, .inl (fun _ => 0))), (q_8, .inl (cA_9, 3, .inl (fun _ => 0))), (q_10, .inl (cA_11, 3, .inl (fun _ => 0))), (q_12, .inl (cA_13, 3, .inl (fun _ => 0))), (q_14, .inl (cA_15, 24, .inl (fun _ => 0))), (q_16, .inl (cA_17, 24, .inl (fun _ => 0))), (q_18, .inl (cA_19, 3, .inl (fun _ => 0))), (q_20, .inl (cA_21, 3, .inl (fun _ => 0)))] H := hP
  replace hD : va_D A [(h0, .inr (4, [.null, .null, .null, .null, .null, .null, .ref q_1, .ref q_6, .int 0, .ref q_8, .ref q_10, .ref q_12, .ref q_14, .ref q_16, .ref q_18, .ref q_20, .int 0, .int 0, .int 0, .int 0])), (q_1, .inr (9, [.int 0, .int 0, .int 0, .int 0, .int 0, .int 0, .int 0, .int 0, .int 0, .int 0, .int 0, .int 0, .int 0, .int 0, .ref q_1_4, .int 0])), (q_1_4, .inl (cA_2_5, 4096, .inl (fun _ => 0))), (q_6, .inl (cA_7, 32768, .inl (fun _ => 0))), (q_8, .inl (cA_9, 3, .inl (fun _ => 0))), (q_10, .inl (cA_11, 3, .inl (fun _ => 0))), (q_12, .inl (cA_13, 3, .inl (fun _ => 0))), (q_14, .inl (cA_15, 24, .inl (fun _ => 0))), (q_16, .inl (cA_17, 24, .inl (fun _ => 0))), (q_18, .inl (cA_19, 3, .inl (fun _ => 0))), (q_20, .inl (cA_21, 3, .inl (fun _ => 0)))] := hD
  refine lv_aload_n hx hb d_Interpreter_init_74 rfl (lv_at hl 0 rfl) ?_
  refine lv_aload_n hx hb d_Interpreter_init_75 rfl (lv_at hl 1 rfl) ?_
  refine va_putF (D := (dC, dI)) (ci := 4) (v := .ref a1) (ty := (.array .byte)) (C := R_Interpreter) (T := F_Interpreter) (N := 20) hx hb hwd i_Interpreter t_Interpreter to_Interpreter no_Interpreter hown hK hP hD hS 0 rfl rfl 0 (by decide) (hwd _ wd_3_111) (fun _ h9 => h9) rfl hin rfl (by decide +kernel) rfl rfl (Nat.le_of_ble_eq_true rfl) d_Interpreter_init_76 ?_
  clear hP hD hS
  intro H locs hP hD hS
  replace hP : va_P (dC, dI) vcl [(h0, .inr (4, [.ref a1, .null, .null, .null, .null, .null, .ref q_1, .ref q_6, .int 0, .ref q_8, .ref q_10, .ref q_12, .ref q_14, .ref q_16, .ref q_18, .ref q_20, .int 0, .int 0, .int 0, .int 0])), (q_1, .inr (9, [.int 0, .int 0, .int 0, .int 0, .int 0, .int 0, .int 0, .int 0, .int 0, .int 0, .int 0, .int 0, .int 0, .int 0, .ref q_1_4, .int 0])), (q_1_4, .inl (cA_2_5, 4096, .inl (fun _ => 0))), (q_6, .inl (cA_7, 32768, .inl (fun _ => 0))), (q_8, .inl (cA_9, 3, .inl (fun _ => 0))), (q_10, .inl (cA_11, 3, .inl (fun _ => 0))), (q_12, .inl (cA_13, 3, .inl (fun _ => 0))), (q_14, .inl (cA_15, 24, .inl (fun _ => 0))), (q_16, .inl (cA_17, 24, .inl (fun _ => 0))), (q_18, .inl (cA_19, 3, .inl (fun _ => 0))), (q_20, .inl (cA_21, 3, .inl (fun _ => 0)))] H := hP
  replace hD : va_D A [(h0, .inr (4, [.ref a1, .null, .null, .null, .null, .null, .ref q_1, .ref q_6, .int 0, .ref q_8, .ref q_10, .ref q_12, .ref q_14, .ref q_16, .ref q_18, .ref q_20, .int 0, .int 0, .int 0, .int 0])), (q_1, .inr (9, [.int 0, .int 0, .int 0, .int 0, .int 0, .int 0, .int 0, .int 0, .int 0, .int 0, .int 0, .int 0, .int 0, .int 0, .ref q_1_4, .int 0])), (q_1_4, .inl (cA_2_5, 4096, .inl (fun _ => 0))), (q_6, .inl (cA_7, 32768, .inl (fun _ => 0))), (q_8, .inl (cA_9, 3, .inl (fun _ => 0))), (q_10, .inl (cA_11, 3, .inl (fun _ => 0))), (q_12, .inl (cA_13, 3, .inl (fun _ => 0))), (q_14, .inl (cA_15, 24, .inl (fun _ => 0))), (q_16, .inl (cA_17, 24, .inl (fun _ => 0))), (q_18, .inl (cA_19, 3, .inl (fun _ => 0))), (q_20, .inl (cA_21, 3, .inl (fun _ => 0)))] := hD
  refine lv_aload_n hx hb d_Interpreter_init_79 rfl (lv_at hl 0 rfl) ?_
  refine lv_aload_n hx hb d_Interpreter_init_80 rfl (lv_at hl 2 rfl) ?_
  refine va_putF (D := (dC, dI)) (ci := 4) (v := .ref a2) (ty := (.object "SheetPrinter$Page")) (C := R_Interpreter) (T := F_Interpreter) (N := 20) hx hb hwd i_Interpreter t_Interpreter to_Interpreter no_Interpreter hown hK hP hD hS 0 rfl rfl 1 (by decide) (hwd _ wd_3_112) (fun _ h9 => h9) rfl hin rfl (by decide +kernel) rfl rfl (Nat.le_of_ble_eq_true rfl) d_Interpreter_init_81 ?_
  clear hP hD hS
  intro H locs hP hD hS
  replace hP : va_P (dC, dI) vcl [(h0, .inr (4, [.ref a1, .ref a2, .null, .null, .null, .null, .ref q_1, .ref q_6, .int 0, .ref q_8, .ref q_10, .ref q_12, .ref q_14, .ref q_16, .ref q_18, .ref q_20, .int 0, .int 0, .int 0, .int 0])), (q_1, .inr (9, [.int 0, .int 0, .int 0, .int 0, .int 0, .int 0, .int 0, .int 0, .int 0, .int 0, .int 0, .int 0, .int 0, .int 0, .ref q_1_4, .int 0])), (q_1_4, .inl (cA_2_5, 4096, .inl (fun _ => 0))), (q_6, .inl (cA_7, 32768, .inl (fun _ => 0))), (q_8, .inl (cA_9, 3, .inl (fun _ => 0))), (q_10, .inl (cA_11, 3, .inl (fun _ => 0))), (q_12, .inl (cA_13, 3, .inl (fun _ => 0))), (q_14, .inl (cA_15, 24, .inl (fun _ => 0))), (q_16, .inl (cA_17, 24, .inl (fun _ => 0))), (q_18, .inl (cA_19, 3, .inl (fun _ => 0))), (q_20, .inl (cA_21, 3, .inl (fun _ => 0)))] H := hP
  replace hD : va_D A [(h0, .inr (4, [.ref a1, .ref a2, .null, .null, .null, .null, .ref q_1, .ref q_6, .int 0, .ref q_8, .ref q_10, .ref q_12, .ref q_14, .ref q_16, .ref q_18, .ref q_20, .int 0, .int 0, .int 0, .int 0])), (q_1, .inr (9, [.int 0, .int 0, .int 0, .int 0, .int 0, .int 0, .int 0, .int 0, .int 0, .int 0, .int 0, .int 0, .int 0, .int 0, .ref q_1_4, .int 0])), (q_1_4, .inl (cA_2_5, 4096, .inl (fun _ => 0))), (q_6, .inl (cA_7, 32768, .inl (fun _ => 0))), (q_8, .inl (cA_9, 3, .inl (fun _ => 0))), (q_10, .inl (cA_11, 3, .inl (fun _ => 0))), (q_12, .inl (cA_13, 3, .inl (fun _ => 0))), (q_14, .inl (cA_15, 24, .inl (fun _ => 0))), (q_16, .inl (cA_17, 24, .inl (fun _ => 0))), (q_18, .inl (cA_19, 3, .inl (fun _ => 0))), (q_20, .inl (cA_21, 3, .inl (fun _ => 0)))] := hD
  refine lv_aload_n hx hb d_Interpreter_init_84 rfl (lv_at hl 0 rfl) ?_
  refine lv_aload_n hx hb d_Interpreter_init_85 rfl (lv_at hl 3 rfl) ?_
  refine va_putF (D := (dC, dI)) (ci := 4) (v := .ref a3) (ty := (.object "SheetPrinter$Sheet")) (C := R_Interpreter) (T := F_Interpreter) (N := 20) hx hb hwd i_Interpreter t_Interpreter to_Interpreter no_Interpreter hown hK hP hD hS 0 rfl rfl 2 (by decide) (hwd _ wd_3_113) (fun _ h9 => h9) rfl hin rfl (by decide +kernel) rfl rfl (Nat.le_of_ble_eq_true rfl) d_Interpreter_init_86 ?_
  clear hP hD hS
  intro H locs hP hD hS
  replace hP : va_P (dC, dI) vcl [(h0, .inr (4, [.ref a1, .ref a2, .ref a3, .null, .null, .null, .ref q_1, .ref q_6, .int 0, .ref q_8, .ref q_10, .ref q_12, .ref q_14, .ref q_16, .ref q_18, .ref q_20, .int 0, .int 0, .int 0, .int 0])), (q_1, .inr (9, [.int 0, .int 0, .int 0, .int 0, .int 0, .int 0, .int 0, .int 0, .int 0, .int 0, .int 0, .int 0, .int 0, .int 0, .ref q_1_4, .int 0])), (q_1_4, .inl (cA_2_5, 4096, .inl (fun _ => 0))), (q_6, .inl (cA_7, 32768, .inl (fun _ => 0))), (q_8, .inl (cA_9, 3, .inl (fun _ => 0))), (q_10, .inl (cA_11, 3, .inl (fun _ => 0))), (q_12, .inl (cA_13, 3, .inl (fun _ => 0))), (q_14, .inl (cA_15, 24, .inl (fun _ => 0))), (q_16, .inl (cA_17, 24, .inl (fun _ => 0))), (q_18, .inl (cA_19, 3, .inl (fun _ => 0))), (q_20, .inl (cA_21, 3, .inl (fun _ => 0)))] H := hP
  replace hD : va_D A [(h0, .inr (4, [.ref a1, .ref a2, .ref a3, .null, .null, .null, .ref q_1, .ref q_6, .int 0, .ref q_8, .ref q_10, .ref q_12, .ref q_14, .ref q_16, .ref q_18, .ref q_20, .int 0, .int 0, .int 0, .int 0])), (q_1, .inr (9, [.int 0, .int 0, .int 0, .int 0, .int 0, .int 0, .int 0, .int 0, .int 0, .int 0, .int 0, .int 0, .int 0, .int 0, .ref q_1_4, .int 0])), (q_1_4, .inl (cA_2_5, 4096, .inl (fun _ => 0))), (q_6, .inl (cA_7, 32768, .inl (fun _ => 0))), (q_8, .inl (cA_9, 3, .inl (fun _ => 0))), (q_10, .inl (cA_11, 3, .inl (fun _ => 0))), (q_12, .inl (cA_13, 3, .inl (fun _ => 0))), (q_14, .inl (cA_15, 24, .inl (fun _ => 0))), (q_16, .inl (cA_17, 24, .inl (fun _ => 0))), (q_18, .inl (cA_19, 3, .inl (fun _ => 0))), (q_20, .inl (cA_21, 3, .inl (fun _ => 0)))] := hD
  refine lv_aload_n hx hb d_Interpreter_init_89 rfl (lv_at hl 0 rfl) ?_
  refine lv_aload hx hb d_Interpreter_init_90 (lv_at hl 4 rfl) ?_
  refine va_putF (D := (dC, dI)) (ci := 4) (v := .ref a4) (ty := (.object "SheetPrinter$FontShelf")) (C := R_Interpreter) (T := F_Interpreter) (N := 20) hx hb hwd i_Interpreter t_Interpreter to_Interpreter no_Interpreter hown hK hP hD hS 0 rfl rfl 3 (by decide) (hwd _ wd_3_114) (fun _ h9 => h9) rfl hin rfl (by decide +kernel) rfl rfl (Nat.le_of_ble_eq_true rfl) d_Interpreter_init_92 ?_
  clear hP hD hS
  intro H locs hP hD hS
  replace hP : va_P (dC, dI) vcl [(h0, .inr (4, [.ref a1, .ref a2, .ref a3, .ref a4, .null, .null, .ref q_1, .ref q_6, .int 0, .ref q_8, .ref q_10, .ref q_12, .ref q_14, .ref q_16, .ref q_18, .ref q_20, .int 0, .int 0, .int 0, .int 0])), (q_1, .inr (9, [.int 0, .int 0, .int 0, .int 0, .int 0, .int 0, .int 0, .int 0, .int 0, .int 0, .int 0, .int 0, .int 0, .int 0, .ref q_1_4, .int 0])), (q_1_4, .inl (cA_2_5, 4096, .inl (fun _ => 0))), (q_6, .inl (cA_7, 32768, .inl (fun _ => 0))), (q_8, .inl (cA_9, 3, .inl (fun _ => 0))), (q_10, .inl (cA_11, 3, .inl (fun _ => 0))), (q_12, .inl (cA_13, 3, .inl (fun _ => 0))), (q_14, .inl (cA_15, 24, .inl (fun _ => 0))), (q_16, .inl (cA_17, 24, .inl (fun _ => 0))), (q_18, .inl (cA_19, 3, .inl (fun _ => 0))), (q_20, .inl (cA_21, 3, .inl (fun _ => 0)))] H := hP
  replace hD : va_D A [(h0, .inr (4, [.ref a1, .ref a2, .ref a3, .ref a4, .null, .null, .ref q_1, .ref q_6, .int 0, .ref q_8, .ref q_10, .ref q_12, .ref q_14, .ref q_16, .ref q_18, .ref q_20, .int 0, .int 0, .int 0, .int 0])), (q_1, .inr (9, [.int 0, .int 0, .int 0, .int 0, .int 0, .int 0, .int 0, .int 0, .int 0, .int 0, .int 0, .int 0, .int 0, .int 0, .ref q_1_4, .int 0])), (q_1_4, .inl (cA_2_5, 4096, .inl (fun _ => 0))), (q_6, .inl (cA_7, 32768, .inl (fun _ => 0))), (q_8, .inl (cA_9, 3, .inl (fun _ => 0))), (q_10, .inl (cA_11, 3, .inl (fun _ => 0))), (q_12, .inl (cA_13, 3, .inl (fun _ => 0))), (q_14, .inl (cA_15, 24, .inl (fun _ => 0))), (q_16, .inl (cA_17, 24, .inl (fun _ => 0))), (q_18, .inl (cA_19, 3, .inl (fun _ => 0))), (q_20, .inl (cA_21, 3, .inl (fun _ => 0)))] := hD
  refine lv_aload_n hx hb d_Interpreter_init_95 rfl (lv_at hl 0 rfl) ?_
  refine lv_aload hx hb d_Interpreter_init_96 (lv_at hl 5 rfl) ?_
  refine va_putF (D := (dC, dI)) (ci := 4) (v := .ref a5) (ty := (.object "SheetPrinter$Macros")) (C := R_Interpreter) (T := F_Interpreter) (N := 20) hx hb hwd i_Interpreter t_Interpreter to_Interpreter no_Interpreter hown hK hP hD hS 0 rfl rfl 4 (by decide) (hwd _ wd_3_115) (fun _ h9 => h9) rfl hin rfl (by decide +kernel) rfl rfl (Nat.le_of_ble_eq_true rfl) d_Interpreter_init_98 ?_
  clear hP hD hS
  intro H locs hP hD hS
  replace hP : va_P (dC, dI) vcl [(h0, .inr (4, [.ref a1, .ref a2, .ref a3, .ref a4, .ref a5, .null, .ref q_1, .ref q_6, .int 0, .ref q_8, .ref q_10, .ref q_12, .ref q_14, .ref q_16, .ref q_18, .ref q_20, .int 0, .int 0, .int 0, .int 0])), (q_1, .inr (9, [.int 0, .int 0, .int 0, .int 0, .int 0, .int 0, .int 0, .int 0, .int 0, .int 0, .int 0, .int 0, .int 0, .int 0, .ref q_1_4, .int 0])), (q_1_4, .inl (cA_2_5, 4096, .inl (fun _ => 0))), (q_6, .inl (cA_7, 32768, .inl (fun _ => 0))), (q_8, .inl (cA_9, 3, .inl (fun _ => 0))), (q_10, .inl (cA_11, 3, .inl (fun _ => 0))), (q_12, .inl (cA_13, 3, .inl (fun _ => 0))), (q_14, .inl (cA_15, 24, .inl (fun _ => 0))), (q_16, .inl (cA_17, 24, .inl (fun _ => 0))), (q_18, .inl (cA_19, 3, .inl (fun _ => 0))), (q_20, .inl (cA_21, 3, .inl (fun _ => 0)))] H := hP
  replace hD : va_D A [(h0, .inr (4, [.ref a1, .ref a2, .ref a3, .ref a4, .ref a5, .null, .ref q_1, .ref q_6, .int 0, .ref q_8, .ref q_10, .ref q_12, .ref q_14, .ref q_16, .ref q_18, .ref q_20, .int 0, .int 0, .int 0, .int 0])), (q_1, .inr (9, [.int 0, .int 0, .int 0, .int 0, .int 0, .int 0, .int 0, .int 0, .int 0, .int 0, .int 0, .int 0, .int 0, .int 0, .ref q_1_4, .int 0])), (q_1_4, .inl (cA_2_5, 4096, .inl (fun _ => 0))), (q_6, .inl (cA_7, 32768, .inl (fun _ => 0))), (q_8, .inl (cA_9, 3, .inl (fun _ => 0))), (q_10, .inl (cA_11, 3, .inl (fun _ => 0))), (q_12, .inl (cA_13, 3, .inl (fun _ => 0))), (q_14, .inl (cA_15, 24, .inl (fun _ => 0))), (q_16, .inl (cA_17, 24, .inl (fun _ => 0))), (q_18, .inl (cA_19, 3, .inl (fun _ => 0))), (q_20, .inl (cA_21, 3, .inl (fun _ => 0)))] := hD
  refine lv_aload_n hx hb d_Interpreter_init_101 rfl (lv_at hl 0 rfl) ?_
  refine lv_aload hx hb d_Interpreter_init_102 (lv_at hl 6 rfl) ?_
  refine va_putF (D := (dC, dI)) (ci := 4) (v := .ref a6) (ty := (.object "SheetPrinter$Raster")) (C := R_Interpreter) (T := F_Interpreter) (N := 20) hx hb hwd i_Interpreter t_Interpreter to_Interpreter no_Interpreter hown hK hP hD hS 0 rfl rfl 5 (by decide) (hwd _ wd_3_116) (fun _ h9 => h9) rfl hin rfl (by decide +kernel) rfl rfl (Nat.le_of_ble_eq_true rfl) d_Interpreter_init_104 ?_
  clear hP hD hS
  intro H locs hP hD hS
  replace hP : va_P (dC, dI) vcl [(h0, .inr (4, [.ref a1, .ref a2, .ref a3, .ref a4, .ref a5, .ref a6, .ref q_1, .ref q_6, .int 0, .ref q_8, .ref q_10, .ref q_12, .ref q_14, .ref q_16, .ref q_18, .ref q_20, .int 0, .int 0, .int 0, .int 0])), (q_1, .inr (9, [.int 0, .int 0, .int 0, .int 0, .int 0, .int 0, .int 0, .int 0, .int 0, .int 0, .int 0, .int 0, .int 0, .int 0, .ref q_1_4, .int 0])), (q_1_4, .inl (cA_2_5, 4096, .inl (fun _ => 0))), (q_6, .inl (cA_7, 32768, .inl (fun _ => 0))), (q_8, .inl (cA_9, 3, .inl (fun _ => 0))), (q_10, .inl (cA_11, 3, .inl (fun _ => 0))), (q_12, .inl (cA_13, 3, .inl (fun _ => 0))), (q_14, .inl (cA_15, 24, .inl (fun _ => 0))), (q_16, .inl (cA_17, 24, .inl (fun _ => 0))), (q_18, .inl (cA_19, 3, .inl (fun _ => 0))), (q_20, .inl (cA_21, 3, .inl (fun _ => 0)))] H := hP
  replace hD : va_D A [(h0, .inr (4, [.ref a1, .ref a2, .ref a3, .ref a4, .ref a5, .ref a6, .ref q_1, .ref q_6, .int 0, .ref q_8, .ref q_10, .ref q_12, .ref q_14, .ref q_16, .ref q_18, .ref q_20, .int 0, .int 0, .int 0, .int 0])), (q_1, .inr (9, [.int 0, .int 0, .int 0, .int 0, .int 0, .int 0, .int 0, .int 0, .int 0, .int 0, .int 0, .int 0, .int 0, .int 0, .ref q_1_4, .int 0])), (q_1_4, .inl (cA_2_5, 4096, .inl (fun _ => 0))), (q_6, .inl (cA_7, 32768, .inl (fun _ => 0))), (q_8, .inl (cA_9, 3, .inl (fun _ => 0))), (q_10, .inl (cA_11, 3, .inl (fun _ => 0))), (q_12, .inl (cA_13, 3, .inl (fun _ => 0))), (q_14, .inl (cA_15, 24, .inl (fun _ => 0))), (q_16, .inl (cA_17, 24, .inl (fun _ => 0))), (q_18, .inl (cA_19, 3, .inl (fun _ => 0))), (q_20, .inl (cA_21, 3, .inl (fun _ => 0)))] := hD
  have hP9 := hP.sub (ws' := [(h0, .inr (4, [.ref a1, .ref a2, .ref a3, .ref a4, .ref a5, .ref a6, .ref q_1, .ref q_6, .int 0, .ref q_8, .ref q_10, .ref q_12, .ref q_14, .ref q_16, .ref q_18, .ref q_20, .int 0, .int 0, .int 0, .int 0])), (q_1, .inr (9, [.int 0, .int 0, .int 0, .int 0, .int 0, .int 0, .int 0, .int 0, .int 0, .int 0, .int 0, .int 0, .int 0, .int 0, .ref q_1_4, .int 0])), (q_1_4, .inl (cA_2_5, 4096, .inl (fun _ => 0))), (q_6, .inl (cA_7, 32768, .inl (fun _ => 0))), (q_8, .inl (cA_9, 3, .inl (fun _ => 0))), (q_10, .inl (cA_11, 3, .inl (fun _ => 0))), (q_12, .inl (cA_13, 3, .inl (fun _ => 0))), (q_14, .inl (cA_15, 24, .inl (fun _ => 0))), (q_16, .inl (cA_17, 24, .inl (fun _ => 0))), (q_18, .inl (cA_19, 3, .inl (fun _ => 0))), (q_20, .inl (cA_21, 3, .inl (fun _ => 0)))]) [0, 1, 2, 3, 4, 5, 6, 7, 8, 9, 10] rfl
  have hD9 := hD.sub (ws' := [(h0, .inr (4, [.ref a1, .ref a2, .ref a3, .ref a4, .ref a5, .ref a6, .ref q_1, .ref q_6, .int 0, .ref q_8, .ref q_10, .ref q_12, .ref q_14, .ref q_16, .ref q_18, .ref q_20, .int 0, .int 0, .int 0, .int 0])), (q_1, .inr (9, [.int 0, .int 0, .int 0, .int 0, .int 0, .int 0, .int 0, .int 0, .int 0, .int 0, .int 0, .int 0, .int 0, .int 0, .ref q_1_4, .int 0])), (q_1_4, .inl (cA_2_5, 4096, .inl (fun _ => 0))), (q_6, .inl (cA_7, 32768, .inl (fun _ => 0))), (q_8, .inl (cA_9, 3, .inl (fun _ => 0))), (q_10, .inl (cA_11, 3, .inl (fun _ => 0))), (q_12, .inl (cA_13, 3, .inl (fun _ => 0))), (q_14, .inl (cA_15, 24, .inl (fun _ => 0))), (q_16, .inl (cA_17, 24, .inl (fun _ => 0))), (q_18, .inl (cA_19, 3, .inl (fun _ => 0))), (q_20, .inl (cA_21, 3, .inl (fun _ => 0)))]) [0, 1, 2, 3, 4, 5, 6, 7, 8, 9, 10] (by decide) rfl
  have hK9 := hK.sub (tys' := [(cA_2_5, .byte), (cA_7, .byte), (cA_9, .int), (cA_11, .int), (cA_13, .boolean), (cA_15, .int), (cA_17, .int), (cA_19, .int), (cA_21, .int)]) [0, 1, 2, 3, 4, 5, 6, 7, 8] rfl
  exact W.vret hx hb hr (fun t ht hW => ⟨⟨(), rfl, (trivial), q_1, q_1_4, q_6, q_8, q_10, q_12, q_14, q_16, q_18, q_20, cA_2_5, cA_7, cA_9, cA_11, cA_13, cA_15, cA_17, cA_19, cA_21, by rw [ht]; exact hP9, va_K.moved hW.alike hK9, hD9⟩, hS.F ht⟩) hS.2.2 d_Interpreter_init_107
