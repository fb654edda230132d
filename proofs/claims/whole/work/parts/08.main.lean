theorem wd_1_4 : (Jvm.Cond.initialized "SheetPrinter$Sheet") ∈ gT := gT_in (in_1 _ (List.mem_of_getElem? (i := 4) rfl)) rfl
theorem wd_1_15 : (Jvm.Cond.initialized "SheetPrinter$LineReader") ∈ gT := gT_in (in_1 _ (List.mem_of_getElem? (i := 15) rfl)) rfl
theorem wd_1_91 : (Jvm.Cond.fieldLink "SheetPrinter$Sheet" (40 : Nat) "SheetPrinter$Page" "dpi" "I") ∈ gT := gT_in (in_1 _ (List.mem_of_getElem? (i := 91) rfl)) rfl
theorem wd_1_172 : (Jvm.Cond.code ({ cls := "SheetPrinter$Sheet", name := "<init>", desc := "(LSheetPrinter$Page;I)V" } : Jvm.MethodName) prog_12_method_1_code (3 : Nat) (Option.none : Option Jvm.ClassFile.FieldType)) ∈ gT := gT_in (in_1 _ (List.mem_of_getElem? (i := 172) rfl)) rfl
theorem wd_1_173 : (Jvm.Cond.methodLink "SheetPrinter$Sheet" (3 : Nat) ({ cls := "java/lang/Object", name := "<init>", desc := "()V" } : Jvm.MethodName)) ∈ gT := gT_in (in_1 _ (List.mem_of_getElem? (i := 173) rfl)) rfl
theorem wd_1_174 : (Jvm.Cond.constant "SheetPrinter$Sheet" (15 : Nat) (65536 : Int32)) ∈ gT := gT_in (in_1 _ (List.mem_of_getElem? (i := 174) rfl)) rfl
theorem wd_1_175 : (Jvm.Cond.methodLink "SheetPrinter$Sheet" (24 : Nat) ({ cls := "java/lang/Math", name := "min", desc := "(II)I" } : Jvm.MethodName)) ∈ gT := gT_in (in_1 _ (List.mem_of_getElem? (i := 175) rfl)) rfl
theorem wd_1_178 : (Jvm.Cond.methodLink "SheetPrinter$Sheet" (30 : Nat) ({ cls := "java/lang/Math", name := "max", desc := "(II)I" } : Jvm.MethodName)) ∈ gT := gT_in (in_1 _ (List.mem_of_getElem? (i := 178) rfl)) rfl
theorem wd_1_181 : (Jvm.Cond.constant "SheetPrinter$Sheet" (39 : Nat) (79200 : Int32)) ∈ gT := gT_in (in_1 _ (List.mem_of_getElem? (i := 181) rfl)) rfl
theorem wd_1_182 : (Jvm.Cond.methodLink "SheetPrinter$Sheet" (43 : Nat) ({ cls := "SheetPrinter$Sheet", name := "wordsOf", desc := "(I)I" } : Jvm.MethodName)) ∈ gT := gT_in (in_1 _ (List.mem_of_getElem? (i := 182) rfl)) rfl
theorem wd_1_183 : (Jvm.Cond.static ({ cls := "SheetPrinter$Sheet", name := "wordsOf", desc := "(I)I" } : Jvm.MethodName)) ∈ gT := gT_in (in_1 _ (List.mem_of_getElem? (i := 183) rfl)) rfl
theorem wd_1_185 : (Jvm.Cond.fieldLink "SheetPrinter$Sheet" (20 : Nat) "SheetPrinter$Sheet" "page" "LSheetPrinter$Page;") ∈ gT := gT_in (in_1 _ (List.mem_of_getElem? (i := 185) rfl)) rfl
theorem wd_1_186 : (Jvm.Cond.fieldLink "SheetPrinter$Sheet" (11 : Nat) "SheetPrinter$Sheet" "marks" "[I") ∈ gT := gT_in (in_1 _ (List.mem_of_getElem? (i := 186) rfl)) rfl
theorem wd_1_189 : (Jvm.Cond.fieldLink "SheetPrinter$Sheet" (16 : Nat) "SheetPrinter$Sheet" "dots" "[B") ∈ gT := gT_in (in_1 _ (List.mem_of_getElem? (i := 189) rfl)) rfl
theorem wd_1_197 : (Jvm.Cond.fieldLink "SheetPrinter$Sheet" (47 : Nat) "SheetPrinter$Sheet" "band" "[J") ∈ gT := gT_in (in_1 _ (List.mem_of_getElem? (i := 197) rfl)) rfl
theorem wd_1_199 : (Jvm.Cond.fieldLink "SheetPrinter$Sheet" (33 : Nat) "SheetPrinter$Sheet" "bandLines" "I") ∈ gT := gT_in (in_1 _ (List.mem_of_getElem? (i := 199) rfl)) rfl
theorem wd_1_210 : (Jvm.Cond.laysFinal "SheetPrinter$Sheet" "SheetPrinter$Sheet" "page" "LSheetPrinter$Page;") ∈ gT := gT_in (in_1 _ (List.mem_of_getElem? (i := 210) rfl)) rfl
theorem wd_1_212 : (Jvm.Cond.laysFinal "SheetPrinter$Sheet" "SheetPrinter$Sheet" "marks" "[I") ∈ gT := gT_in (in_1 _ (List.mem_of_getElem? (i := 212) rfl)) rfl
theorem wd_1_214 : (Jvm.Cond.lays "SheetPrinter$Sheet" "SheetPrinter$Sheet" "count" "I") ∈ gT := gT_in (in_1 _ (List.mem_of_getElem? (i := 214) rfl)) rfl
theorem wd_1_216 : (Jvm.Cond.laysFinal "SheetPrinter$Sheet" "SheetPrinter$Sheet" "dots" "[B") ∈ gT := gT_in (in_1 _ (List.mem_of_getElem? (i := 216) rfl)) rfl
theorem wd_1_218 : (Jvm.Cond.lays "SheetPrinter$Sheet" "SheetPrinter$Sheet" "used" "I") ∈ gT := gT_in (in_1 _ (List.mem_of_getElem? (i := 218) rfl)) rfl
theorem wd_1_220 : (Jvm.Cond.lays "SheetPrinter$Sheet" "SheetPrinter$Sheet" "overrun" "Z") ∈ gT := gT_in (in_1 _ (List.mem_of_getElem? (i := 220) rfl)) rfl
theorem wd_1_222 : (Jvm.Cond.lays "SheetPrinter$Sheet" "SheetPrinter$Sheet" "due" "Z") ∈ gT := gT_in (in_1 _ (List.mem_of_getElem? (i := 222) rfl)) rfl
theorem wd_1_224 : (Jvm.Cond.laysFinal "SheetPrinter$Sheet" "SheetPrinter$Sheet" "band" "[J") ∈ gT := gT_in (in_1 _ (List.mem_of_getElem? (i := 224) rfl)) rfl
theorem wd_1_226 : (Jvm.Cond.laysFinal "SheetPrinter$Sheet" "SheetPrinter$Sheet" "bandLines" "I") ∈ gT := gT_in (in_1 _ (List.mem_of_getElem? (i := 226) rfl)) rfl
theorem wd_1_228 : (Jvm.Cond.lays "SheetPrinter$Sheet" "SheetPrinter$Sheet" "bandWords" "I") ∈ gT := gT_in (in_1 _ (List.mem_of_getElem? (i := 228) rfl)) rfl
theorem wd_1_230 : (Jvm.Cond.lays "SheetPrinter$Sheet" "SheetPrinter$Sheet" "ink" "I") ∈ gT := gT_in (in_1 _ (List.mem_of_getElem? (i := 230) rfl)) rfl
theorem wd_1_232 : (Jvm.Cond.lays "SheetPrinter$Sheet" "SheetPrinter$Sheet" "inkNumber" "I") ∈ gT := gT_in (in_1 _ (List.mem_of_getElem? (i := 232) rfl)) rfl
theorem wd_1_234 : (Jvm.Cond.lays "SheetPrinter$Sheet" "SheetPrinter$Sheet" "inkOpaque" "Z") ∈ gT := gT_in (in_1 _ (List.mem_of_getElem? (i := 234) rfl)) rfl
theorem wd_1_236 : (Jvm.Cond.lays "SheetPrinter$Sheet" "SheetPrinter$Sheet" "sourceOpaque" "Z") ∈ gT := gT_in (in_1 _ (List.mem_of_getElem? (i := 236) rfl)) rfl
theorem wd_1_238 : (Jvm.Cond.lays "SheetPrinter$Sheet" "SheetPrinter$Sheet" "ruleWidth" "I") ∈ gT := gT_in (in_1 _ (List.mem_of_getElem? (i := 238) rfl)) rfl
theorem wd_2_0 : (Jvm.Cond.lays "SheetPrinter$Sheet" "SheetPrinter$Sheet" "ruleHeight" "I") ∈ gT := gT_in (in_2 _ (List.mem_of_getElem? (i := 0) rfl)) rfl
theorem wd_2_2 : (Jvm.Cond.lays "SheetPrinter$Sheet" "SheetPrinter$Sheet" "pattern" "I") ∈ gT := gT_in (in_2 _ (List.mem_of_getElem? (i := 2) rfl)) rfl
theorem wd_2_5 : (Jvm.Cond.arrayClass Jvm.ClassFile.FieldType.long) ∈ gT := gT_in (in_2 _ (List.mem_of_getElem? (i := 5) rfl)) rfl
theorem wd_4_40 : (Jvm.Cond.code ({ cls := "SheetPrinter$LineReader", name := "<init>", desc := "([B)V" } : Jvm.MethodName) prog_5_method_1_code (2 : Nat) (Option.none : Option Jvm.ClassFile.FieldType)) ∈ gT := gT_in (in_4 _ (List.mem_of_getElem? (i := 40) rfl)) rfl
theorem wd_4_41 : (Jvm.Cond.methodLink "SheetPrinter$LineReader" (3 : Nat) ({ cls := "java/lang/Object", name := "<init>", desc := "()V" } : Jvm.MethodName)) ∈ gT := gT_in (in_4 _ (List.mem_of_getElem? (i := 41) rfl)) rfl
theorem wd_4_42 : (Jvm.Cond.methodLink "SheetPrinter$LineReader" (29 : Nat) ({ cls := "SheetPrinter$LineReader", name := "addModes", desc := "(I)V" } : Jvm.MethodName)) ∈ gT := gT_in (in_4 _ (List.mem_of_getElem? (i := 42) rfl)) rfl
theorem wd_4_44 : (Jvm.Cond.instanceMethod ({ cls := "SheetPrinter$LineReader", name := "addModes", desc := "(I)V" } : Jvm.MethodName)) ∈ gT := gT_in (in_4 _ (List.mem_of_getElem? (i := 44) rfl)) rfl
theorem wd_4_45 : (Jvm.Cond.code ({ cls := "SheetPrinter$LineReader", name := "addModes", desc := "(I)V" } : Jvm.MethodName) prog_5_method_2_code (3 : Nat) (Option.none : Option Jvm.ClassFile.FieldType)) ∈ gT := gT_in (in_4 _ (List.mem_of_getElem? (i := 45) rfl)) rfl
theorem wd_4_46 : (Jvm.Cond.methodLink "SheetPrinter$LineReader" (35 : Nat) ({ cls := "SheetPrinter$LineReader", name := "addWord", desc := "(III)V" } : Jvm.MethodName)) ∈ gT := gT_in (in_4 _ (List.mem_of_getElem? (i := 46) rfl)) rfl
theorem wd_4_48 : (Jvm.Cond.instanceMethod ({ cls := "SheetPrinter$LineReader", name := "addWord", desc := "(III)V" } : Jvm.MethodName)) ∈ gT := gT_in (in_4 _ (List.mem_of_getElem? (i := 48) rfl)) rfl
theorem wd_4_54 : (Jvm.Cond.fieldLink "SheetPrinter$LineReader" (55 : Nat) "SheetPrinter$Coder" "SHIFTS" "[I") ∈ gT := gT_in (in_4 _ (List.mem_of_getElem? (i := 54) rfl)) rfl
theorem wd_4_56 : (Jvm.Cond.fieldLink "SheetPrinter$LineReader" (39 : Nat) "SheetPrinter$Coder" "WHITE_RESTS" "[I") ∈ gT := gT_in (in_4 _ (List.mem_of_getElem? (i := 56) rfl)) rfl
theorem wd_4_58 : (Jvm.Cond.fieldLink "SheetPrinter$LineReader" (42 : Nat) "SheetPrinter$Coder" "WHITE_BLOCKS" "[I") ∈ gT := gT_in (in_4 _ (List.mem_of_getElem? (i := 58) rfl)) rfl
theorem wd_4_60 : (Jvm.Cond.methodLink "SheetPrinter$LineReader" (45 : Nat) ({ cls := "SheetPrinter$LineReader", name := "addRuns", desc := "(I[I[I)V" } : Jvm.MethodName)) ∈ gT := gT_in (in_4 _ (List.mem_of_getElem? (i := 60) rfl)) rfl
theorem wd_4_62 : (Jvm.Cond.instanceMethod ({ cls := "SheetPrinter$LineReader", name := "addRuns", desc := "(I[I[I)V" } : Jvm.MethodName)) ∈ gT := gT_in (in_4 _ (List.mem_of_getElem? (i := 62) rfl)) rfl
theorem wd_4_63 : (Jvm.Cond.code ({ cls := "SheetPrinter$LineReader", name := "addRuns", desc := "(I[I[I)V" } : Jvm.MethodName) prog_5_method_3_code (5 : Nat) (Option.none : Option Jvm.ClassFile.FieldType)) ∈ gT := gT_in (in_4 _ (List.mem_of_getElem? (i := 63) rfl)) rfl
theorem wd_4_64 : (Jvm.Cond.fieldLink "SheetPrinter$LineReader" (58 : Nat) "SheetPrinter$Coder" "LONG_BLOCKS" "[I") ∈ gT := gT_in (in_4 _ (List.mem_of_getElem? (i := 64) rfl)) rfl
theorem wd_4_66 : (Jvm.Cond.fieldLink "SheetPrinter$LineReader" (49 : Nat) "SheetPrinter$Coder" "BLACK_RESTS" "[I") ∈ gT := gT_in (in_4 _ (List.mem_of_getElem? (i := 66) rfl)) rfl
theorem wd_4_68 : (Jvm.Cond.fieldLink "SheetPrinter$LineReader" (52 : Nat) "SheetPrinter$Coder" "BLACK_BLOCKS" "[I") ∈ gT := gT_in (in_4 _ (List.mem_of_getElem? (i := 68) rfl)) rfl
theorem wd_4_72 : (Jvm.Cond.fieldLink "SheetPrinter$LineReader" (25 : Nat) "SheetPrinter$LineReader" "bytes" "[B") ∈ gT := gT_in (in_4 _ (List.mem_of_getElem? (i := 72) rfl)) rfl
theorem wd_4_76 : (Jvm.Cond.fieldLink "SheetPrinter$LineReader" (19 : Nat) "SheetPrinter$LineReader" "above" "[I") ∈ gT := gT_in (in_4 _ (List.mem_of_getElem? (i := 76) rfl)) rfl
theorem wd_4_78 : (Jvm.Cond.fieldLink "SheetPrinter$LineReader" (22 : Nat) "SheetPrinter$LineReader" "line" "[I") ∈ gT := gT_in (in_4 _ (List.mem_of_getElem? (i := 78) rfl)) rfl
theorem ws_18 : Cond.selects "SheetPrinter$LineReader" ⟨"SheetPrinter$LineReader", "addModes", "(I)V"⟩ ⟨"SheetPrinter$LineReader", "addModes", "(I)V"⟩ ∈ gT := gT_in (List.mem_append_left _ (List.mem_of_getElem? (i := 18) rfl)) rfl
theorem ws_19 : Cond.selects "SheetPrinter$LineReader" ⟨"SheetPrinter$LineReader", "addWord", "(III)V"⟩ ⟨"SheetPrinter$LineReader", "addWord", "(III)V"⟩ ∈ gT := gT_in (List.mem_append_left _ (List.mem_of_getElem? (i := 19) rfl)) rfl
theorem ws_20 : Cond.selects "SheetPrinter$LineReader" ⟨"SheetPrinter$LineReader", "addRuns", "(I[I[I)V"⟩ ⟨"SheetPrinter$LineReader", "addRuns", "(I[I[I)V"⟩ ∈ gT := gT_in (List.mem_append_left _ (List.mem_of_getElem? (i := 20) rfl)) rfl
theorem i_Sheet : ∀ w ∈ u_ws R_Sheet F_Sheet 17, w ∈ gT := by
  intro w h
  obtain ⟨k, hk, rfl⟩ := List.mem_map.mp h
  have hk := List.mem_range.mp hk
  match k, hk with
  | 0, _ => exact wd_1_210
  | 1, _ => exact wd_1_212
  | 2, _ => exact wd_1_214
  | 3, _ => exact wd_1_216
  | 4, _ => exact wd_1_218
  | 5, _ => exact wd_1_220
  | 6, _ => exact wd_1_222
  | 7, _ => exact wd_1_224
  | 8, _ => exact wd_1_226
  | 9, _ => exact wd_1_228
  | 10, _ => exact wd_1_230
  | 11, _ => exact wd_1_232
  | 12, _ => exact wd_1_234
  | 13, _ => exact wd_1_236
  | 14, _ => exact wd_1_238
  | 15, _ => exact wd_2_0
  | 16, _ => exact wd_2_2
  | k + 17, hk => exact absurd hk (by omega)
abbrev b_LineReader_addModes : ByteArray := prog_5_method_2_code
abbrev y_LineReader_addModes : MethodName := ⟨"SheetPrinter$LineReader", "addModes", "(I)V"⟩
abbrev w_LineReader_addModes : List Cond := .code y_LineReader_addModes b_LineReader_addModes 3 none :: gT
theorem gd_LineReader_addModes : GoodIn gT w_LineReader_addModes := gW wd_4_45
theorem d_LineReader_addModes_0 : decode b_LineReader_addModes 0 = .ok (.aload_n 0, 1) := by decide +kernel
theorem d_LineReader_addModes_1 : decode b_LineReader_addModes 1 = .ok (.iload_n 1, 1) := by decide +kernel
theorem d_LineReader_addModes_2 : decode b_LineReader_addModes 2 = .ok (.bipush 17, 2) := by decide +kernel
theorem d_LineReader_addModes_4 : decode b_LineReader_addModes 4 = .ok (.bipush 20, 2) := by decide +kernel
theorem d_LineReader_addModes_6 : decode b_LineReader_addModes 6 = .ok (.invokevirtual 35, 3) := by decide +kernel
theorem d_LineReader_addModes_9 : decode b_LineReader_addModes 9 = .ok (.aload_n 0, 1) := by decide +kernel
theorem d_LineReader_addModes_10 : decode b_LineReader_addModes 10 = .ok (.iload_n 1, 1) := by decide +kernel
theorem d_LineReader_addModes_11 : decode b_LineReader_addModes 11 = .ok (.bipush 9, 2) := by decide +kernel
theorem d_LineReader_addModes_13 : decode b_LineReader_addModes 13 = .ok (.bipush 21, 2) := by decide +kernel
theorem d_LineReader_addModes_15 : decode b_LineReader_addModes 15 = .ok (.invokevirtual 35, 3) := by decide +kernel
theorem d_LineReader_addModes_18 : decode b_LineReader_addModes 18 = .ok (.iconst 0, 1) := by decide +kernel
theorem d_LineReader_addModes_19 : decode b_LineReader_addModes 19 = .ok (.istore_n 2, 1) := by decide +kernel
theorem d_LineReader_addModes_20 : decode b_LineReader_addModes 20 = .ok (.iload_n 2, 1) := by decide +kernel
theorem d_LineReader_addModes_21 : decode b_LineReader_addModes 21 = .ok (.getstatic 55, 3) := by decide +kernel
theorem d_LineReader_addModes_24 : decode b_LineReader_addModes 24 = .ok (.arraylength, 1) := by decide +kernel
theorem d_LineReader_addModes_25 : decode b_LineReader_addModes 25 = .ok (.if_icmp .ge 20, 3) := by decide +kernel
theorem d_LineReader_addModes_28 : decode b_LineReader_addModes 28 = .ok (.aload_n 0, 1) := by decide +kernel
theorem d_LineReader_addModes_29 : decode b_LineReader_addModes 29 = .ok (.iload_n 1, 1) := by decide +kernel
theorem d_LineReader_addModes_30 : decode b_LineReader_addModes 30 = .ok (.getstatic 55, 3) := by decide +kernel
theorem d_LineReader_addModes_33 : decode b_LineReader_addModes 33 = .ok (.iload_n 2, 1) := by decide +kernel
theorem d_LineReader_addModes_34 : decode b_LineReader_addModes 34 = .ok (.iaload, 1) := by decide +kernel
theorem d_LineReader_addModes_35 : decode b_LineReader_addModes 35 = .ok (.iload_n 2, 1) := by decide +kernel
theorem d_LineReader_addModes_36 : decode b_LineReader_addModes 36 = .ok (.invokevirtual 35, 3) := by decide +kernel
theorem d_LineReader_addModes_39 : decode b_LineReader_addModes 39 = .ok (.iinc 2 1, 3) := by decide +kernel
theorem d_LineReader_addModes_42 : decode b_LineReader_addModes 42 = .ok (.goto (-22), 3) := by decide +kernel
theorem d_LineReader_addModes_45 : decode b_LineReader_addModes 45 = .ok (.return_, 1) := by decide +kernel
abbrev b_LineReader_addRuns : ByteArray := prog_5_method_3_code
abbrev y_LineReader_addRuns : MethodName := ⟨"SheetPrinter$LineReader", "addRuns", "(I[I[I)V"⟩
abbrev w_LineReader_addRuns : List Cond := .code y_LineReader_addRuns b_LineReader_addRuns 5 none :: gT
theorem gd_LineReader_addRuns : GoodIn gT w_LineReader_addRuns := gW wd_4_63
theorem d_LineReader_addRuns_0 : decode b_LineReader_addRuns 0 = .ok (.iconst 0, 1) := by decide +kernel
theorem d_LineReader_addRuns_1 : decode b_LineReader_addRuns 1 = .ok (.istore 4, 2) := by decide +kernel
theorem d_LineReader_addRuns_3 : decode b_LineReader_addRuns 3 = .ok (.iload 4, 2) := by decide +kernel
theorem d_LineReader_addRuns_5 : decode b_LineReader_addRuns 5 = .ok (.aload_n 2, 1) := by decide +kernel
theorem d_LineReader_addRuns_6 : decode b_LineReader_addRuns 6 = .ok (.arraylength, 1) := by decide +kernel
theorem d_LineReader_addRuns_7 : decode b_LineReader_addRuns 7 = .ok (.if_icmp .ge 20, 3) := by decide +kernel
theorem d_LineReader_addRuns_10 : decode b_LineReader_addRuns 10 = .ok (.aload_n 0, 1) := by decide +kernel
theorem d_LineReader_addRuns_11 : decode b_LineReader_addRuns 11 = .ok (.iload_n 1, 1) := by decide +kernel
theorem d_LineReader_addRuns_12 : decode b_LineReader_addRuns 12 = .ok (.aload_n 2, 1) := by decide +kernel
theorem d_LineReader_addRuns_13 : decode b_LineReader_addRuns 13 = .ok (.iload 4, 2) := by decide +kernel
theorem d_LineReader_addRuns_15 : decode b_LineReader_addRuns 15 = .ok (.iaload, 1) := by decide +kernel
theorem d_LineReader_addRuns_16 : decode b_LineReader_addRuns 16 = .ok (.iload 4, 2) := by decide +kernel
theorem d_LineReader_addRuns_18 : decode b_LineReader_addRuns 18 = .ok (.invokevirtual 35, 3) := by decide +kernel
theorem d_LineReader_addRuns_21 : decode b_LineReader_addRuns 21 = .ok (.iinc 4 1, 3) := by decide +kernel
theorem d_LineReader_addRuns_24 : decode b_LineReader_addRuns 24 = .ok (.goto (-21), 3) := by decide +kernel
theorem d_LineReader_addRuns_27 : decode b_LineReader_addRuns 27 = .ok (.iconst 0, 1) := by decide +kernel
theorem d_LineReader_addRuns_28 : decode b_LineReader_addRuns 28 = .ok (.istore 4, 2) := by decide +kernel
theorem d_LineReader_addRuns_30 : decode b_LineReader_addRuns 30 = .ok (.iload 4, 2) := by decide +kernel
theorem d_LineReader_addRuns_32 : decode b_LineReader_addRuns 32 = .ok (.aload_n 3, 1) := by decide +kernel
theorem d_LineReader_addRuns_33 : decode b_LineReader_addRuns 33 = .ok (.arraylength, 1) := by decide +kernel
theorem d_LineReader_addRuns_34 : decode b_LineReader_addRuns 34 = .ok (.if_icmp .ge 26, 3) := by decide +kernel
theorem d_LineReader_addRuns_37 : decode b_LineReader_addRuns 37 = .ok (.aload_n 0, 1) := by decide +kernel
theorem d_LineReader_addRuns_38 : decode b_LineReader_addRuns 38 = .ok (.iload_n 1, 1) := by decide +kernel
theorem d_LineReader_addRuns_39 : decode b_LineReader_addRuns 39 = .ok (.aload_n 3, 1) := by decide +kernel
theorem d_LineReader_addRuns_40 : decode b_LineReader_addRuns 40 = .ok (.iload 4, 2) := by decide +kernel
theorem d_LineReader_addRuns_42 : decode b_LineReader_addRuns 42 = .ok (.iaload, 1) := by decide +kernel
theorem d_LineReader_addRuns_43 : decode b_LineReader_addRuns 43 = .ok (.bipush 64, 2) := by decide +kernel
theorem d_LineReader_addRuns_45 : decode b_LineReader_addRuns 45 = .ok (.bipush 64, 2) := by decide +kernel
theorem d_LineReader_addRuns_47 : decode b_LineReader_addRuns 47 = .ok (.iload 4, 2) := by decide +kernel
theorem d_LineReader_addRuns_49 : decode b_LineReader_addRuns 49 = .ok (.imul, 1) := by decide +kernel
theorem d_LineReader_addRuns_50 : decode b_LineReader_addRuns 50 = .ok (.iadd, 1) := by decide +kernel
theorem d_LineReader_addRuns_51 : decode b_LineReader_addRuns 51 = .ok (.invokevirtual 35, 3) := by decide +kernel
theorem d_LineReader_addRuns_54 : decode b_LineReader_addRuns 54 = .ok (.iinc 4 1, 3) := by decide +kernel
theorem d_LineReader_addRuns_57 : decode b_LineReader_addRuns 57 = .ok (.goto (-27), 3) := by decide +kernel
theorem d_LineReader_addRuns_60 : decode b_LineReader_addRuns 60 = .ok (.iconst 0, 1) := by decide +kernel
theorem d_LineReader_addRuns_61 : decode b_LineReader_addRuns 61 = .ok (.istore 4, 2) := by decide +kernel
theorem d_LineReader_addRuns_63 : decode b_LineReader_addRuns 63 = .ok (.iload 4, 2) := by decide +kernel
theorem d_LineReader_addRuns_65 : decode b_LineReader_addRuns 65 = .ok (.getstatic 58, 3) := by decide +kernel
theorem d_LineReader_addRuns_68 : decode b_LineReader_addRuns 68 = .ok (.arraylength, 1) := by decide +kernel
theorem d_LineReader_addRuns_69 : decode b_LineReader_addRuns 69 = .ok (.if_icmp .ge 29, 3) := by decide +kernel
theorem d_LineReader_addRuns_72 : decode b_LineReader_addRuns 72 = .ok (.aload_n 0, 1) := by decide +kernel
theorem d_LineReader_addRuns_73 : decode b_LineReader_addRuns 73 = .ok (.iload_n 1, 1) := by decide +kernel
theorem d_LineReader_addRuns_74 : decode b_LineReader_addRuns 74 = .ok (.getstatic 58, 3) := by decide +kernel
theorem d_LineReader_addRuns_77 : decode b_LineReader_addRuns 77 = .ok (.iload 4, 2) := by decide +kernel
theorem d_LineReader_addRuns_79 : decode b_LineReader_addRuns 79 = .ok (.iaload, 1) := by decide +kernel
theorem d_LineReader_addRuns_80 : decode b_LineReader_addRuns 80 = .ok (.sipush 1792, 3) := by decide +kernel
theorem d_LineReader_addRuns_83 : decode b_LineReader_addRuns 83 = .ok (.bipush 64, 2) := by decide +kernel
theorem d_LineReader_addRuns_85 : decode b_LineReader_addRuns 85 = .ok (.iload 4, 2) := by decide +kernel
theorem d_LineReader_addRuns_87 : decode b_LineReader_addRuns 87 = .ok (.imul, 1) := by decide +kernel
theorem d_LineReader_addRuns_88 : decode b_LineReader_addRuns 88 = .ok (.iadd, 1) := by decide +kernel
theorem d_LineReader_addRuns_89 : decode b_LineReader_addRuns 89 = .ok (.invokevirtual 35, 3) := by decide +kernel
theorem d_LineReader_addRuns_92 : decode b_LineReader_addRuns 92 = .ok (.iinc 4 1, 3) := by decide +kernel
theorem d_LineReader_addRuns_95 : decode b_LineReader_addRuns 95 = .ok (.goto (-32), 3) := by decide +kernel
theorem d_LineReader_addRuns_98 : decode b_LineReader_addRuns 98 = .ok (.return_, 1) := by decide +kernel
abbrev b_LineReader_init : ByteArray := prog_5_method_1_code
abbrev y_LineReader_init : MethodName := ⟨"SheetPrinter$LineReader", "<init>", "([B)V"⟩
abbrev w_LineReader_init : List Cond := .code y_LineReader_init b_LineReader_init 2 none :: gT
theorem gd_LineReader_init : GoodIn gT w_LineReader_init := gW wd_4_40
theorem d_LineReader_init_0 : decode b_LineReader_init 0 = .ok (.aload_n 0, 1) := by decide +kernel
theorem d_LineReader_init_1 : decode b_LineReader_init 1 = .ok (.invokespecial 3, 3) := by decide +kernel
theorem d_LineReader_init_4 : decode b_LineReader_init 4 = .ok (.aload_n 0, 1) := by decide +kernel
theorem d_LineReader_init_5 : decode b_LineReader_init 5 = .ok (.sipush 1024, 3) := by decide +kernel
theorem d_LineReader_init_8 : decode b_LineReader_init 8 = .ok (.newarray .int, 2) := by decide +kernel
theorem d_LineReader_init_10 : decode b_LineReader_init 10 = .ok (.putfield 11, 3) := by decide +kernel
theorem d_LineReader_init_13 : decode b_LineReader_init 13 = .ok (.aload_n 0, 1) := by decide +kernel
theorem d_LineReader_init_14 : decode b_LineReader_init 14 = .ok (.iconst 5, 1) := by decide +kernel
theorem d_LineReader_init_15 : decode b_LineReader_init 15 = .ok (.putfield 15, 3) := by decide +kernel
theorem d_LineReader_init_18 : decode b_LineReader_init 18 = .ok (.aload_n 0, 1) := by decide +kernel
theorem d_LineReader_init_19 : decode b_LineReader_init 19 = .ok (.sipush 10000, 3) := by decide +kernel
theorem d_LineReader_init_22 : decode b_LineReader_init 22 = .ok (.newarray .int, 2) := by decide +kernel
theorem d_LineReader_init_24 : decode b_LineReader_init 24 = .ok (.putfield 19, 3) := by decide +kernel
theorem d_LineReader_init_27 : decode b_LineReader_init 27 = .ok (.aload_n 0, 1) := by decide +kernel
theorem d_LineReader_init_28 : decode b_LineReader_init 28 = .ok (.sipush 10000, 3) := by decide +kernel
theorem d_LineReader_init_31 : decode b_LineReader_init 31 = .ok (.newarray .int, 2) := by decide +kernel
theorem d_LineReader_init_33 : decode b_LineReader_init 33 = .ok (.putfield 22, 3) := by decide +kernel
theorem d_LineReader_init_36 : decode b_LineReader_init 36 = .ok (.aload_n 0, 1) := by decide +kernel
theorem d_LineReader_init_37 : decode b_LineReader_init 37 = .ok (.aload_n 1, 1) := by decide +kernel
theorem d_LineReader_init_38 : decode b_LineReader_init 38 = .ok (.putfield 25, 3) := by decide +kernel
theorem d_LineReader_init_41 : decode b_LineReader_init 41 = .ok (.aload_n 0, 1) := by decide +kernel
theorem d_LineReader_init_42 : decode b_LineReader_init 42 = .ok (.iconst 0, 1) := by decide +kernel
theorem d_LineReader_init_43 : decode b_LineReader_init 43 = .ok (.invokevirtual 29, 3) := by decide +kernel
theorem d_LineReader_init_46 : decode b_LineReader_init 46 = .ok (.aload_n 0, 1) := by decide +kernel
theorem d_LineReader_init_47 : decode b_LineReader_init 47 = .ok (.iconst 1, 1) := by decide +kernel
theorem d_LineReader_init_48 : decode b_LineReader_init 48 = .ok (.invokevirtual 29, 3) := by decide +kernel
theorem d_LineReader_init_51 : decode b_LineReader_init 51 = .ok (.aload_n 0, 1) := by decide +kernel
theorem d_LineReader_init_52 : decode b_LineReader_init 52 = .ok (.iconst 0, 1) := by decide +kernel
theorem d_LineReader_init_53 : decode b_LineReader_init 53 = .ok (.sipush 4097, 3) := by decide +kernel
theorem d_LineReader_init_56 : decode b_LineReader_init 56 = .ok (.bipush 22, 2) := by decide +kernel
theorem d_LineReader_init_58 : decode b_LineReader_init 58 = .ok (.invokevirtual 35, 3) := by decide +kernel
theorem d_LineReader_init_61 : decode b_LineReader_init 61 = .ok (.aload_n 0, 1) := by decide +kernel
theorem d_LineReader_init_62 : decode b_LineReader_init 62 = .ok (.iconst 2, 1) := by decide +kernel
theorem d_LineReader_init_63 : decode b_LineReader_init 63 = .ok (.sipush 4097, 3) := by decide +kernel
theorem d_LineReader_init_66 : decode b_LineReader_init 66 = .ok (.bipush 22, 2) := by decide +kernel
theorem d_LineReader_init_68 : decode b_LineReader_init 68 = .ok (.invokevirtual 35, 3) := by decide +kernel
theorem d_LineReader_init_71 : decode b_LineReader_init 71 = .ok (.aload_n 0, 1) := by decide +kernel
theorem d_LineReader_init_72 : decode b_LineReader_init 72 = .ok (.iconst 3, 1) := by decide +kernel
theorem d_LineReader_init_73 : decode b_LineReader_init 73 = .ok (.getstatic 39, 3) := by decide +kernel
theorem d_LineReader_init_76 : decode b_LineReader_init 76 = .ok (.getstatic 42, 3) := by decide +kernel
theorem d_LineReader_init_79 : decode b_LineReader_init 79 = .ok (.invokevirtual 45, 3) := by decide +kernel
theorem d_LineReader_init_82 : decode b_LineReader_init 82 = .ok (.aload_n 0, 1) := by decide +kernel
theorem d_LineReader_init_83 : decode b_LineReader_init 83 = .ok (.iconst 4, 1) := by decide +kernel
theorem d_LineReader_init_84 : decode b_LineReader_init 84 = .ok (.getstatic 49, 3) := by decide +kernel
theorem d_LineReader_init_87 : decode b_LineReader_init 87 = .ok (.getstatic 52, 3) := by decide +kernel
theorem d_LineReader_init_90 : decode b_LineReader_init 90 = .ok (.invokevirtual 45, 3) := by decide +kernel
theorem d_LineReader_init_93 : decode b_LineReader_init 93 = .ok (.return_, 1) := by decide +kernel
abbrev b_Sheet_init : ByteArray := prog_12_method_1_code
abbrev y_Sheet_init : MethodName := ⟨"SheetPrinter$Sheet", "<init>", "(LSheetPrinter$Page;I)V"⟩
abbrev w_Sheet_init : List Cond := .code y_Sheet_init b_Sheet_init 3 none :: gT
theorem gd_Sheet_init : GoodIn gT w_Sheet_init := gW wd_1_172
theorem d_Sheet_init_0 : decode b_Sheet_init 0 = .ok (.aload_n 0, 1) := by decide +kernel
theorem d_Sheet_init_1 : decode b_Sheet_init 1 = .ok (.invokespecial 3, 3) := by decide +kernel
theorem d_Sheet_init_4 : decode b_Sheet_init 4 = .ok (.aload_n 0, 1) := by decide +kernel
theorem d_Sheet_init_5 : decode b_Sheet_init 5 = .ok (.sipush 24576, 3) := by decide +kernel
theorem d_Sheet_init_8 : decode b_Sheet_init 8 = .ok (.newarray .int, 2) := by decide +kernel
theorem d_Sheet_init_10 : decode b_Sheet_init 10 = .ok (.putfield 11, 3) := by decide +kernel
theorem d_Sheet_init_13 : decode b_Sheet_init 13 = .ok (.aload_n 0, 1) := by decide +kernel
theorem d_Sheet_init_14 : decode b_Sheet_init 14 = .ok (.ldc 15, 2) := by decide +kernel
theorem d_Sheet_init_16 : decode b_Sheet_init 16 = .ok (.newarray .byte, 2) := by decide +kernel
theorem d_Sheet_init_18 : decode b_Sheet_init 18 = .ok (.putfield 16, 3) := by decide +kernel
theorem d_Sheet_init_21 : decode b_Sheet_init 21 = .ok (.aload_n 0, 1) := by decide +kernel
theorem d_Sheet_init_22 : decode b_Sheet_init 22 = .ok (.aload_n 1, 1) := by decide +kernel
theorem d_Sheet_init_23 : decode b_Sheet_init 23 = .ok (.putfield 20, 3) := by decide +kernel
theorem d_Sheet_init_26 : decode b_Sheet_init 26 = .ok (.aload_n 0, 1) := by decide +kernel
theorem d_Sheet_init_27 : decode b_Sheet_init 27 = .ok (.iconst 1, 1) := by decide +kernel
theorem d_Sheet_init_28 : decode b_Sheet_init 28 = .ok (.sipush 1024, 3) := by decide +kernel
theorem d_Sheet_init_31 : decode b_Sheet_init 31 = .ok (.iload_n 2, 1) := by decide +kernel
theorem d_Sheet_init_32 : decode b_Sheet_init 32 = .ok (.invokestatic 24, 3) := by decide +kernel
theorem d_Sheet_init_35 : decode b_Sheet_init 35 = .ok (.invokestatic 30, 3) := by decide +kernel
theorem d_Sheet_init_38 : decode b_Sheet_init 38 = .ok (.putfield 33, 3) := by decide +kernel
theorem d_Sheet_init_41 : decode b_Sheet_init 41 = .ok (.aload_n 0, 1) := by decide +kernel
theorem d_Sheet_init_42 : decode b_Sheet_init 42 = .ok (.aload_n 0, 1) := by decide +kernel
theorem d_Sheet_init_43 : decode b_Sheet_init 43 = .ok (.getfield 33, 3) := by decide +kernel
theorem d_Sheet_init_46 : decode b_Sheet_init 46 = .ok (.ldc 39, 2) := by decide +kernel
theorem d_Sheet_init_48 : decode b_Sheet_init 48 = .ok (.aload_n 1, 1) := by decide +kernel
theorem d_Sheet_init_49 : decode b_Sheet_init 49 = .ok (.getfield 40, 3) := by decide +kernel
theorem d_Sheet_init_52 : decode b_Sheet_init 52 = .ok (.imul, 1) := by decide +kernel
theorem d_Sheet_init_53 : decode b_Sheet_init 53 = .ok (.sipush 7200, 3) := by decide +kernel
theorem d_Sheet_init_56 : decode b_Sheet_init 56 = .ok (.idiv, 1) := by decide +kernel
theorem d_Sheet_init_57 : decode b_Sheet_init 57 = .ok (.invokestatic 43, 3) := by decide +kernel
theorem d_Sheet_init_60 : decode b_Sheet_init 60 = .ok (.imul, 1) := by decide +kernel
theorem d_Sheet_init_61 : decode b_Sheet_init 61 = .ok (.newarray .long, 2) := by decide +kernel
theorem d_Sheet_init_63 : decode b_Sheet_init 63 = .ok (.putfield 47, 3) := by decide +kernel
theorem d_Sheet_init_66 : decode b_Sheet_init 66 = .ok (.return_, 1) := by decide +kernel
theorem tbw_SHIFTS : ∀ j, j < 7 → tb_Coder_SHIFTS j = nI (tb_Coder_SHIFTS j).toNatClampNeg ∧ (tb_Coder_SHIFTS j).toNatClampNeg < 65536 := by decide +kernel
theorem tbw_WHITE_RESTS : ∀ j, j < 64 → tb_Coder_WHITE_RESTS j = nI (tb_Coder_WHITE_RESTS j).toNatClampNeg ∧ (tb_Coder_WHITE_RESTS j).toNatClampNeg < 65536 := by decide +kernel
theorem tbw_WHITE_BLOCKS : ∀ j, j < 27 → tb_Coder_WHITE_BLOCKS j = nI (tb_Coder_WHITE_BLOCKS j).toNatClampNeg ∧ (tb_Coder_WHITE_BLOCKS j).toNatClampNeg < 65536 := by decide +kernel
theorem tbw_BLACK_RESTS : ∀ j, j < 64 → tb_Coder_BLACK_RESTS j = nI (tb_Coder_BLACK_RESTS j).toNatClampNeg ∧ (tb_Coder_BLACK_RESTS j).toNatClampNeg < 65536 := by decide +kernel
theorem tbw_BLACK_BLOCKS : ∀ j, j < 27 → tb_Coder_BLACK_BLOCKS j = nI (tb_Coder_BLACK_BLOCKS j).toNatClampNeg ∧ (tb_Coder_BLACK_BLOCKS j).toNatClampNeg < 65536 := by decide +kernel
theorem tbw_LONG_BLOCKS : ∀ j, j < 13 → tb_Coder_LONG_BLOCKS j = nI (tb_Coder_LONG_BLOCKS j).toNatClampNeg ∧ (tb_Coder_LONG_BLOCKS j).toNatClampNeg < 65536 := by decide +kernel
theorem mg_a : ∀ j, j < 64 → ((-1 - nI j : Int32)).toInt < 512 := by decide +kernel
theorem mg_b : ∀ j, j < 27 → ((-1 - (64 + 64 * nI j) : Int32)).toInt < 512 := by decide +kernel
theorem mg_c : ∀ j, j < 13 → ((-1 - (1792 + 64 * nI j) : Int32)).toInt < 512 := by decide +kernel
def dp_of (x : Int32) : Int32 := if x < 300 then (if x < 150 then 75 else 150) else 300
theorem dp_cases (x : Int32) : dp_of x = 75 ∨ dp_of x = 150 ∨ dp_of x = 300 := by
  unfold dp_of
  by_cases h : x < 300
  · by_cases k : x < 150
    · exact Or.inl (by rw [if_pos h, if_pos k])
    · exact Or.inr (Or.inl (by rw [if_pos h, if_neg k]))
  · exact Or.inr (Or.inr (by rw [if_neg h]))
theorem dw_ex {d x : Int32} (hd : d = dp_of x) : ∃ dw : Nat, dw ≤ 52 ∧ (79200 * d / 7200 + 63) / 64 = nI dw := by
  rcases dp_cases x with h | h | h <;> rw [hd, h]
  · exact ⟨13, by decide, by decide⟩
  · exact ⟨26, by decide, by decide⟩
  · exact ⟨52, by decide, by decide⟩
def bl_of (x : Int32) : Int32 := if 1 < (if x < 1024 then x else 1024) then (if x < 1024 then x else 1024) else 1
theorem bl_ex (x : Int32) : ∃ b : Nat, b ≤ 1024 ∧ bl_of x = nI b := by
  unfold bl_of
  by_cases h : x < 1024
  · rw [if_pos h]
    by_cases k : 1 < x
    · rw [if_pos k]
      obtain ⟨j, hj, e⟩ := nI_of (x := x) (fun q => by rw [Int32.lt_iff_toInt_lt] at k q; simp at k q; omega)
      refine ⟨j, ?_, e⟩
      rw [e, Int32.lt_iff_toInt_lt, nI_toInt hj] at h
      simp at h; omega
    · exact ⟨1, by decide, by rw [if_neg k]; rfl⟩
  · rw [if_neg h]; exact ⟨1024, by decide, by decide⟩

abbrev at_c_addModes (dC : Nat → ClassId) (dI : Nat → Nat → Nat) (h0 : Nat) (l_tree : Nat) (l_bytes : Nat) (l_at : Int32) (l_end : Int32) (l_turned : Int32) (l_above : Nat) (l_aboveCount : Int32) (l_line : Nat) (l_lineCount : Int32) (l_width : Int32) (l_a : Int32) (l_colour : Int32) (l_over : Int32) (l_run : Int32) (nd : Nat) (ct : ClassId) (f : Nat → Int32) (rt : Nat) (A : Nat → Prop) (u : (Nat → Int32) × Nat) (t : State) : Prop := match u with
  | (g, nd2) => va_P (dC, dI) vcl [(h0, .inr (5, [.ref l_tree, .int (nI nd2), .ref l_bytes, .int l_at, .int l_end, .int l_turned, .ref l_above, .int l_aboveCount, .ref l_line, .int l_lineCount, .int l_width, .int l_a, .int l_colour, .int l_over, .int l_run])), (l_tree, .inl (ct, 1024, .inl g))] t.heap ∧ va_K (dC, dI) vcl [(ct, .int)] t ∧ va_D A [(h0, .inr (5, [.ref l_tree, .int (nI nd2), .ref l_bytes, .int l_at, .int l_end, .int l_turned, .ref l_above, .int l_aboveCount, .ref l_line, .int l_lineCount, .int l_width, .int l_a, .int l_colour, .int l_over, .int l_run])), (l_tree, .inl (ct, 1024, .inl g))]
abbrev po_c_addModes (h0 : Nat) (l_tree : Nat) (l_bytes : Nat) (l_at : Int32) (l_end : Int32) (l_turned : Int32) (l_above : Nat) (l_aboveCount : Int32) (l_line : Nat) (l_lineCount : Int32) (l_width : Int32) (l_a : Int32) (l_colour : Int32) (l_over : Int32) (l_run : Int32) (nd : Nat) (ct : ClassId) (f : Nat → Int32) (rt : Nat) (u : (Nat → Int32) × Nat) : Prop := match u with
  | (g, nd2) => (∀ i, i < 1024 → (g i).toInt < 512) ∧ nd2 ≤ 512
abbrev q_c_addModes (dC : Nat → ClassId) (dI : Nat → Nat → Nat) (h0 : Nat) (l_tree : Nat) (l_bytes : Nat) (l_at : Int32) (l_end : Int32) (l_turned : Int32) (l_above : Nat) (l_aboveCount : Int32) (l_line : Nat) (l_lineCount : Int32) (l_width : Int32) (l_a : Int32) (l_colour : Int32) (l_over : Int32) (l_run : Int32) (nd : Nat) (ct : ClassId) (f : Nat → Int32) (rt : Nat) (A : Nat → Prop) : Array Value → State → Outcome → State → Prop := va_Qv (po_c_addModes h0 l_tree l_bytes l_at l_end l_turned l_above l_aboveCount l_line l_lineCount l_width l_a l_colour l_over l_run nd ct f rt) (at_c_addModes dC dI h0 l_tree l_bytes l_at l_end l_turned l_above l_aboveCount l_line l_lineCount l_width l_a l_colour l_over l_run nd ct f rt A) A
abbrev rm_c_addModes : Room := { frames := 2, cells := 0, slots := 0, locals := 48 }
set_option maxHeartbeats 4000000 in
set_option maxRecDepth 100000 in
theorem c_addModes (l : Launch) (dC : Nat → ClassId) (dI : Nat → Nat → Nat) (tt : Nat → Nat) (h0 : Nat) (l_tree : Nat) (l_bytes : Nat) (l_at : Int32) (l_end : Int32) (l_turned : Int32) (l_above : Nat) (l_aboveCount : Int32) (l_line : Nat) (l_lineCount : Int32) (l_width : Int32) (l_a : Int32) (l_colour : Int32) (l_over : Int32) (l_run : Int32) (nd : Nat) (ct : ClassId) (f : Nat → Int32) (rt : Nat) (sz : Nat) (hTI : ∀ i, i < 1024 → (f i).toInt < 512) (hNd : nd ≤ 512) (hrt : rt < 512) : Met l y_LineReader_addModes w_LineReader_addModes rm_c_addModes (va_Pc [.ref h0, .int (nI rt)] (fun U => U.heap.size = sz ∧ va_P (dC, dI) vcl [(h0, .inr (5, [.ref l_tree, .int (nI nd), .ref l_bytes, .int l_at, .int l_end, .int l_turned, .ref l_above, .int l_aboveCount, .ref l_line, .int l_lineCount, .int l_width, .int l_a, .int l_colour, .int l_over, .int l_run])), (l_tree, .inl (ct, 1024, .inl f))] U.heap ∧ va_K (dC, dI) vcl [(ct, .int)] U ∧ va_D (fun _ => True) [(h0, .inr (5, [.ref l_tree, .int (nI nd), .ref l_bytes, .int l_at, .int l_end, .int l_turned, .ref l_above, .int l_aboveCount, .ref l_line, .int l_lineCount, .int l_width, .int l_a, .int l_colour, .int l_over, .int l_run])), (l_tree, .inl (ct, 1024, .inl f))] ∧ SF tt (va_A [(h0, .inr (5, [.ref l_tree, .int (nI nd), .ref l_bytes, .int l_at, .int l_end, .int l_turned, .ref l_above, .int l_aboveCount, .ref l_line, .int l_lineCount, .int l_width, .int l_a, .int l_colour, .int l_over, .int l_run])), (l_tree, .inl (ct, 1024, .inl f))] sz) U U.heap)) (q_c_addModes dC dI h0 l_tree l_bytes l_at l_end l_turned l_above l_aboveCount l_line l_lineCount l_width l_a l_colour l_over l_run nd ct f rt (va_A [(h0, .inr (5, [.ref l_tree, .int (nI nd), .ref l_bytes, .int l_at, .int l_end, .int l_turned, .ref l_above, .int l_aboveCount, .ref l_line, .int l_lineCount, .int l_width, .int l_a, .int l_colour, .int l_over, .int l_run])), (l_tree, .inl (ct, 1024, .inl f))] sz)) 0 0 (va_A [(h0, .inr (5, [.ref l_tree, .int (nI nd), .ref l_bytes, .int l_at, .int l_end, .int l_turned, .ref l_above, .int l_aboveCount, .ref l_line, .int l_lineCount, .int l_width, .int l_a, .int l_colour, .int l_over, .int l_run])), (l_tree, .inl (ct, 1024, .inl f))] sz) := by
  refine Met.ofW (cc := b_LineReader_addModes) (maxL := 3) (ret := none) (by decide) rfl ?_
  intro p e s m args below meth c s₁ B hml hv
  obtain ⟨rfl, hsz, hP, hK, hD0, hF⟩ := hv
  have hx := B.exec
  have hb := B.bytes
  have hr := B.returns
  have hwd : ∀ w ∈ gT, w.before _ s = true := fun w h => atoms_spec (ws := w_LineReader_addModes) B.pre w (List.mem_cons_of_mem _ h)
  have hown : s.vm.findClass R_LineReader = some m.cls := findClass_of_methodNamed B.named
  have hlocks := B.notSynchronized
  subst hsz
  have hD := hD0.self (sz := s.heap.size)
  generalize hAe : va_A [(h0, .inr (5, [.ref l_tree, .int (nI nd), .ref l_bytes, .int l_at, .int l_end, .int l_turned, .ref l_above, .int l_aboveCount, .ref l_line, .int l_lineCount, .int l_width, .int l_a, .int l_colour, .int l_over, .int l_run])), (l_tree, .inl (ct, 1024, .inl f))] s.heap.size = A at hD hF ⊢
  have hA : ∀ q : Nat, s.heap.size ≤ q → A q := fun q h => by rw [← hAe]; exact Or.inr h
  have hS : va_S A s.heap s.heap [] := va_S.rf
  have hP : va_P (dC, dI) vcl [(h0, .inr (5, [.ref l_tree, .int (nI nd), .ref l_bytes, .int l_at, .int l_end, .int l_turned, .ref l_above, .int l_aboveCount, .ref l_line, .int l_lineCount, .int l_width, .int l_a, .int l_colour, .int l_over, .int l_run])), (l_tree, .inl (ct, 1024, .inl f))] s.heap := hP
  have hl := lv_entry ([.ref h0, .int (nI rt)]) (n := 3) (Nat.le_of_ble_eq_true rfl)
  rw [lg_entry_eq]
  generalize (lg_sl ([.ref h0, .int (nI rt)]) ++ List.replicate (3 - (lg_sl ([.ref h0, .int (nI rt)])).length) Slot.unset).toArray = ls at hl ⊢
  have hl : lv_has ls 3 [(0, .ref h0), (1, .int (nI rt))] := hl
  refine lv_aload_n hx hb d_LineReader_addModes_0 rfl (lv_at hl 0 rfl) ?_
  refine lv_iload_n hx hb d_LineReader_addModes_1 rfl (lv_at hl 1 rfl) ?_
  refine lv_bipush (v := 17) hx hb d_LineReader_addModes_2 (by decide) ?_
  refine lv_bipush (v := 20) hx hb d_LineReader_addModes_4 (by decide) ?_
  have hPc := hP.sub (ws' := [(h0, .inr (5, [.ref l_tree, .int (nI nd), .ref l_bytes, .int l_at, .int l_end, .int l_turned, .ref l_above, .int l_aboveCount, .ref l_line, .int l_lineCount, .int l_width, .int l_a, .int l_colour, .int l_over, .int l_run])), (l_tree, .inl (ct, 1024, .inl f))]) [0, 1] rfl
  have hDc := hD.sub (ws' := [(h0, .inr (5, [.ref l_tree, .int (nI nd), .ref l_bytes, .int l_at, .int l_end, .int l_turned, .ref l_above, .int l_aboveCount, .ref l_line, .int l_lineCount, .int l_width, .int l_a, .int l_colour, .int l_over, .int l_run])), (l_tree, .inl (ct, 1024, .inl f))]) [0, 1] (by decide) rfl
  have hKc := hK.sub (tys' := [(ct, .int)]) [0] rfl
  have hFc := va_free (wc := [(h0, .inr (5, [.ref l_tree, .int (nI nd), .ref l_bytes, .int l_at, .int l_end, .int l_turned, .ref l_above, .int l_aboveCount, .ref l_line, .int l_lineCount, .int l_width, .int l_a, .int l_colour, .int l_over, .int l_run])), (l_tree, .inl (ct, 1024, .inl f))]) hD hS hA [0, 1] rfl
  refine va_callv (va_runV (As := [.int (nI rt), .int 17, .int 20]) (rest := []) ⟨hx, hb, hml, hown, hwd⟩ (c_addWord l dC dI tt h0 l_tree l_bytes l_at l_end l_turned l_above l_aboveCount l_line l_lineCount l_width l_a l_colour l_over l_run nd ct f rt 17 20 17 s.heap.size (hTI) (hNd) (hrt) (rfl) (by decide) (by decide)) (cwV 3 hwd (gV gd_LineReader_addWord wd_4_46 wd_4_48 ws_19 wd_1_15) rfl rfl rfl (by decide +kernel) ⟨Nat.le_of_ble_eq_true rfl, Nat.le_of_ble_eq_true rfl⟩) ⟨fun a U g mk q => by obtain ⟨q0, q1, qP, qK, qD, qF⟩ := q; exact ⟨q0, q1, qP, va_K.moved (u := U) (U := U.calling g mk a) (Vm.Alike.refl U.vm) qK, qD, SF.same (u := U) (U := U.calling g mk a) rfl qF⟩, va_recv hKc hPc (ci := 5) (q0 := 0) rfl rfl, fun U hU hW => ⟨rfl, by rw [hU], by rw [hU]; exact hPc, va_K.moved hW.alike hKc, hDc.weaken (fun _ _ _ _ => trivial), by rw [hU]; exact SF.narrow (SF.moved hW (SF.kept hF (fun a h1 h2 => hS.2.1 a h1 h2))) hFc⟩⟩ rfl rfl hl.1 rfl (lv_room (Nat.le_of_ble_eq_true rfl)) d_LineReader_addModes_6 ⟨Nat.le_of_ble_eq_true rfl, Nat.le_of_ble_eq_true rfl⟩) hS (fun q _ h => hFc q h) hFc ?_
  clear hPc hDc hKc hS
  intro u_2 t H1 locs ht hvm hw hB hz1 hk1 hS
  obtain ⟨g_3, nd2_4⟩ := u_2
  obtain ⟨hP1, hK1, hD1⟩ := hB
  rw [ht] at hP1
  have hK1 := va_K.moved hvm.symm hK1
  try dsimp only at hw
  have hJ := va_join (wr := []) (w1 := [(h0, .inr (5, [.ref l_tree, .int (nI nd2_4), .ref l_bytes, .int l_at, .int l_end, .int l_turned, .ref l_above, .int l_aboveCount, .ref l_line, .int l_lineCount, .int l_width, .int l_a, .int l_colour, .int l_over, .int l_run])), (l_tree, .inl (ct, 1024, .inl g_3))]) hP hD [0, 1] [] rfl rfl (by decide) (by decide) hk1 hFc hP1 hD1
  clear hP hD hk1 hFc hP1 hD1 hz1
  obtain ⟨hP, hD⟩ := hJ
  clear hK1 ht hvm
  generalize H1 = H at hP hS ⊢
  replace hP : va_P (dC, dI) vcl [(h0, .inr (5, [.ref l_tree, .int (nI nd2_4), .ref l_bytes, .int l_at, .int l_end, .int l_turned, .ref l_above, .int l_aboveCount, .ref l_line, .int l_lineCount, .int l_width, .int l_a, .int l_colour, .int l_over, .int l_run])), (l_tree, .inl (ct, 1024, .inl g_3))] H := hP
  replace hD : va_D A [(h0, .inr (5, [.ref l_tree, .int (nI nd2_4), .ref l_bytes, .int l_at, .int l_end, .int l_turned, .ref l_above, .int l_aboveCount, .ref l_line, .int l_lineCount, .int l_width, .int l_a, .int l_colour, .int l_over, .int l_run])), (l_tree, .inl (ct, 1024, .inl g_3))] := hD
  obtain ⟨hTI, hNd⟩ := hw
  refine lv_aload_n hx hb d_LineReader_addModes_9 rfl (lv_at hl 0 rfl) ?_
  refine lv_iload_n hx hb d_LineReader_addModes_10 rfl (lv_at hl 1 rfl) ?_
  refine lv_bipush (v := 9) hx hb d_LineReader_addModes_11 (by decide) ?_
  refine lv_bipush (v := 21) hx hb d_LineReader_addModes_13 (by decide) ?_
  have hPc := hP.sub (ws' := [(h0, .inr (5, [.ref l_tree, .int (nI nd2_4), .ref l_bytes, .int l_at, .int l_end, .int l_turned, .ref l_above, .int l_aboveCount, .ref l_line, .int l_lineCount, .int l_width, .int l_a, .int l_colour, .int l_over, .int l_run])), (l_tree, .inl (ct, 1024, .inl g_3))]) [0, 1] rfl
  have hDc := hD.sub (ws' := [(h0, .inr (5, [.ref l_tree, .int (nI nd2_4), .ref l_bytes, .int l_at, .int l_end, .int l_turned, .ref l_above, .int l_aboveCount, .ref l_line, .int l_lineCount, .int l_width, .int l_a, .int l_colour, .int l_over, .int l_run])), (l_tree, .inl (ct, 1024, .inl g_3))]) [0, 1] (by decide) rfl
  have hKc := hK.sub (tys' := [(ct, .int)]) [0] rfl
  have hFc := va_free (wc := [(h0, .inr (5, [.ref l_tree, .int (nI nd2_4), .ref l_bytes, .int l_at, .int l_end, .int l_turned, .ref l_above, .int l_aboveCount, .ref l_line, .int l_lineCount, .int l_width, .int l_a, .int l_colour, .int l_over, .int l_run])), (l_tree, .inl (ct, 1024, .inl g_3))]) hD hS hA [0, 1] rfl
  refine va_callv (va_runV (As := [.int (nI rt), .int 9, .int 21]) (rest := []) ⟨hx, hb, hml, hown, hwd⟩ (c_addWord l dC dI tt h0 l_tree l_bytes l_at l_end l_turned l_above l_aboveCount l_line l_lineCount l_width l_a l_colour l_over l_run nd2_4 ct g_3 rt 9 21 9 H.size (hTI) (hNd) (hrt) (rfl) (by decide) (by decide)) (cwV 3 hwd (gV gd_LineReader_addWord wd_4_46 wd_4_48 ws_19 wd_1_15) rfl rfl rfl (by decide +kernel) ⟨Nat.le_of_ble_eq_true rfl, Nat.le_of_ble_eq_true rfl⟩) ⟨fun a U g mk q => by obtain ⟨q0, q1, qP, qK, qD, qF⟩ := q; exact ⟨q0, q1, qP, va_K.moved (u := U) (U := U.calling g mk a) (Vm.Alike.refl U.vm) qK, qD, SF.same (u := U) (U := U.calling g mk a) rfl qF⟩, va_recv hKc hPc (ci := 5) (q0 := 0) rfl rfl, fun U hU hW => ⟨rfl, by rw [hU], by rw [hU]; exact hPc, va_K.moved hW.alike hKc, hDc.weaken (fun _ _ _ _ => trivial), by rw [hU]; exact SF.narrow (SF.moved hW (SF.kept hF (fun a h1 h2 => hS.2.1 a h1 h2))) hFc⟩⟩ rfl rfl hl.1 rfl (lv_room (Nat.le_of_ble_eq_true rfl)) d_LineReader_addModes_15 ⟨Nat.le_of_ble_eq_true rfl, Nat.le_of_ble_eq_true rfl⟩) hS (fun q _ h => hFc q h) hFc ?_
  clear hPc hDc hKc hS
  intro u_6 t H1 locs ht hvm hw hB hz1 hk1 hS
  obtain ⟨g_7, nd2_8⟩ := u_6
  obtain ⟨hP1, hK1, hD1⟩ := hB
  rw [ht] at hP1
  have hK1 := va_K.moved hvm.symm hK1
  try dsimp only at hw
  have hJ := va_join (wr := []) (w1 := [(h0, .inr (5, [.ref l_tree, .int (nI nd2_8), .ref l_bytes, .int l_at, .int l_end, .int l_turned, .ref l_above, .int l_aboveCount, .ref l_line, .int l_lineCount, .int l_width, .int l_a, .int l_colour, .int l_over, .int l_run])), (l_tree, .inl (ct, 1024, .inl g_7))]) hP hD [0, 1] [] rfl rfl (by decide) (by decide) hk1 hFc hP1 hD1
  clear hP hD hk1 hFc hP1 hD1 hz1
  obtain ⟨hP, hD⟩ := hJ
  clear hK1 ht hvm
  generalize H1 = H at hP hS ⊢
  replace hP : va_P (dC, dI) vcl [(h0, .inr (5, [.ref l_tree, .int (nI nd2_8), .ref l_bytes, .int l_at, .int l_end, .int l_turned, .ref l_above, .int l_aboveCount, .ref l_line, .int l_lineCount, .int l_width, .int l_a, .int l_colour, .int l_over, .int l_run])), (l_tree, .inl (ct, 1024, .inl g_7))] H := hP
  replace hD : va_D A [(h0, .inr (5, [.ref l_tree, .int (nI nd2_8), .ref l_bytes, .int l_at, .int l_end, .int l_turned, .ref l_above, .int l_aboveCount, .ref l_line, .int l_lineCount, .int l_width, .int l_a, .int l_colour, .int l_over, .int l_run])), (l_tree, .inl (ct, 1024, .inl g_7))] := hD
  obtain ⟨hTI, hNd⟩ := hw
  refine lv_iconst (v := 0) hx hb d_LineReader_addModes_18 (by decide) ?_
  refine lv_istore_n (lv' := [(2, .int 0), (0, .ref h0), (1, .int (nI rt))]) hx hb d_LineReader_addModes_19 rfl hl (by decide) rfl ?_
  clear hl
  intro ls hl
  refine lv_iload_n hx hb d_LineReader_addModes_20 rfl (lv_at hl 0 rfl) ?_
  refine va_gets hx hb (SF_p7 hF).1 hS hown (hwd _ wd_4_54) (fun _ h9 => h9) d_LineReader_addModes_21 ?_
  refine va_tlen (v := 7) hx hb (SF_p7 hF).2 hS rfl d_LineReader_addModes_24 ?_
  refine lv_icmp_ge (tgt := 45) hx hb d_LineReader_addModes_25 (by decide) (fun c25 => absurd c25 (by decide)) (fun _ => ?_)
  refine lv_aload_n hx hb d_LineReader_addModes_28 rfl (lv_at hl 1 rfl) ?_
  refine lv_iload_n hx hb d_LineReader_addModes_29 rfl (lv_at hl 2 rfl) ?_
  refine va_gets hx hb (SF_p7 hF).1 hS hown (hwd _ wd_4_54) (fun _ h9 => h9) d_LineReader_addModes_30 ?_
  refine lv_iload_n hx hb d_LineReader_addModes_33 rfl (lv_at hl 0 rfl) ?_
  refine va_ti (v := .int 130) hx hb (SF_p7 hF).2 hS (show ¬ ((0 : Int32) < 0 ∨ 7 ≤ (0 : Int32).toNatClampNeg) by decide) rfl d_LineReader_addModes_34 ?_
  refine lv_iload_n hx hb d_LineReader_addModes_35 rfl (lv_at hl 0 rfl) ?_
  have hPc := hP.sub (ws' := [(h0, .inr (5, [.ref l_tree, .int (nI nd2_8), .ref l_bytes, .int l_at, .int l_end, .int l_turned, .ref l_above, .int l_aboveCount, .ref l_line, .int l_lineCount, .int l_width, .int l_a, .int l_colour, .int l_over, .int l_run])), (l_tree, .inl (ct, 1024, .inl g_7))]) [0, 1] rfl
  have hDc := hD.sub (ws' := [(h0, .inr (5, [.ref l_tree, .int (nI nd2_8), .ref l_bytes, .int l_at, .int l_end, .int l_turned, .ref l_above, .int l_aboveCount, .ref l_line, .int l_lineCount, .int l_width, .int l_a, .int l_colour, .int l_over, .int l_run])), (l_tree, .inl (ct, 1024, .inl g_7))]) [0, 1] (by decide) rfl
  have hKc := hK.sub (tys' := [(ct, .int)]) [0] rfl
  have hFc := va_free (wc := [(h0, .inr (5, [.ref l_tree, .int (nI nd2_8), .ref l_bytes, .int l_at, .int l_end, .int l_turned, .ref l_above, .int l_aboveCount, .ref l_line, .int l_lineCount, .int l_width, .int l_a, .int l_colour, .int l_over, .int l_run])), (l_tree, .inl (ct, 1024, .inl g_7))]) hD hS hA [0, 1] rfl
  refine va_callv (va_runV (As := [.int (nI rt), .int 130, .int 0]) (rest := []) ⟨hx, hb, hml, hown, hwd⟩ (c_addWord l dC dI tt h0 l_tree l_bytes l_at l_end l_turned l_above l_aboveCount l_line l_lineCount l_width l_a l_colour l_over l_run nd2_8 ct g_7 rt 130 0 130 H.size (hTI) (hNd) (hrt) (rfl) (by decide) (by decide)) (cwV 3 hwd (gV gd_LineReader_addWord wd_4_46 wd_4_48 ws_19 wd_1_15) rfl rfl rfl (by decide +kernel) ⟨Nat.le_of_ble_eq_true rfl, Nat.le_of_ble_eq_true rfl⟩) ⟨fun a U g mk q => by obtain ⟨q0, q1, qP, qK, qD, qF⟩ := q; exact ⟨q0, q1, qP, va_K.moved (u := U) (U := U.calling g mk a) (Vm.Alike.refl U.vm) qK, qD, SF.same (u := U) (U := U.calling g mk a) rfl qF⟩, va_recv hKc hPc (ci := 5) (q0 := 0) rfl rfl, fun U hU hW => ⟨rfl, by rw [hU], by rw [hU]; exact hPc, va_K.moved hW.alike hKc, hDc.weaken (fun _ _ _ _ => trivial), by rw [hU]; exact SF.narrow (SF.moved hW (SF.kept hF (fun a h1 h2 => hS.2.1 a h1 h2))) hFc⟩⟩ rfl rfl hl.1 rfl (lv_room (Nat.le_of_ble_eq_true rfl)) d_LineReader_addModes_36 ⟨Nat.le_of_ble_eq_true rfl, Nat.le_of_ble_eq_true rfl⟩) hS (fun q _ h => hFc q h) hFc ?_
  clear hPc hDc hKc hS
  intro u_10 t H1 locs ht hvm hw hB hz1 hk1 hS
  obtain ⟨g_11, nd2_12⟩ := u_10
  obtain ⟨hP1, hK1, hD1⟩ := hB
  rw [ht] at hP1
  have hK1 := va_K.moved hvm.symm hK1
  try dsimp only at hw
  have hJ := va_join (wr := []) (w1 := [(h0, .inr (5, [.ref l_tree, .int (nI nd2_12), .ref l_bytes, .int l_at, .int l_end, .int l_turned, .ref l_above, .int l_aboveCount, .ref l_line, .int l_lineCount, .int l_width, .int l_a, .int l_colour, .int l_over, .int l_run])), (l_tree, .inl (ct, 1024, .inl g_11))]) hP hD [0, 1] [] rfl rfl (by decide) (by decide) hk1 hFc hP1 hD1
  clear hP hD hk1 hFc hP1 hD1 hz1
  obtain ⟨hP, hD⟩ := hJ
  clear hK1 ht hvm
  generalize H1 = H at hP hS ⊢
  replace hP : va_P (dC, dI) vcl [(h0, .inr (5, [.ref l_tree, .int (nI nd2_12), .ref l_bytes, .int l_at, .int l_end, .int l_turned, .ref l_above, .int l_aboveCount, .ref l_line, .int l_lineCount, .int l_width, .int l_a, .int l_colour, .int l_over, .int l_run])), (l_tree, .inl (ct, 1024, .inl g_11))] H := hP
  replace hD : va_D A [(h0, .inr (5, [.ref l_tree, .int (nI nd2_12), .ref l_bytes, .int l_at, .int l_end, .int l_turned, .ref l_above, .int l_aboveCount, .ref l_line, .int l_lineCount, .int l_width, .int l_a, .int l_colour, .int l_over, .int l_run])), (l_tree, .inl (ct, 1024, .inl g_11))] := hD
  obtain ⟨hTI, hNd⟩ := hw
  refine lv_iinc (v := 1) (lv' := [(2, .int 1), (0, .ref h0), (1, .int (nI rt))]) hx hb d_LineReader_addModes_39 hl (k := 0) rfl (by decide) (by decide) rfl ?_
  clear hl
  intro ls hl
  refine lv_goto (tgt := 20) hx hb d_LineReader_addModes_42 (by decide) ?_
  refine lv_iload_n hx hb d_LineReader_addModes_20 rfl (lv_at hl 0 rfl) ?_
  refine va_gets hx hb (SF_p7 hF).1 hS hown (hwd _ wd_4_54) (fun _ h9 => h9) d_LineReader_addModes_21 ?_
  refine va_tlen (v := 7) hx hb (SF_p7 hF).2 hS rfl d_LineReader_addModes_24 ?_
  refine lv_icmp_ge (tgt := 45) hx hb d_LineReader_addModes_25 (by decide) (fun c25 => absurd c25 (by decide)) (fun _ => ?_)
  refine lv_aload_n hx hb d_LineReader_addModes_28 rfl (lv_at hl 1 rfl) ?_
  refine lv_iload_n hx hb d_LineReader_addModes_29 rfl (lv_at hl 2 rfl) ?_
  refine va_gets hx hb (SF_p7 hF).1 hS hown (hwd _ wd_4_54) (fun _ h9 => h9) d_LineReader_addModes_30 ?_
  refine lv_iload_n hx hb d_LineReader_addModes_33 rfl (lv_at hl 0 rfl) ?_
  refine va_ti (v := .int 66) hx hb (SF_p7 hF).2 hS (show ¬ ((1 : Int32) < 0 ∨ 7 ≤ (1 : Int32).toNatClampNeg) by decide) rfl d_LineReader_addModes_34 ?_
  refine lv_iload_n hx hb d_LineReader_addModes_35 rfl (lv_at hl 0 rfl) ?_
  have hPc := hP.sub (ws' := [(h0, .inr (5, [.ref l_tree, .int (nI nd2_12), .ref l_bytes, .int l_at, .int l_end, .int l_turned, .ref l_above, .int l_aboveCount, .ref l_line, .int l_lineCount, .int l_width, .int l_a, .int l_colour, .int l_over, .int l_run])), (l_tree, .inl (ct, 1024, .inl g_11))]) [0, 1] rfl
  have hDc := hD.sub (ws' := [(h0, .inr (5, [.ref l_tree, .int (nI nd2_12), .ref l_bytes, .int l_at, .int l_end, .int l_turned, .ref l_above, .int l_aboveCount, .ref l_line, .int l_lineCount, .int l_width, .int l_a, .int l_colour, .int l_over, .int l_run])), (l_tree, .inl (ct, 1024, .inl g_11))]) [0, 1] (by decide) rfl
  have hKc := hK.sub (tys' := [(ct, .int)]) [0] rfl
  have hFc := va_free (wc := [(h0, .inr (5, [.ref l_tree, .int (nI nd2_12), .ref l_bytes, .int l_at, .int l_end, .int l_turned, .ref l_above, .int l_aboveCount, .ref l_line, .int l_lineCount, .int l_width, .int l_a, .int l_colour, .int l_over, .int l_run])), (l_tree, .inl (ct, 1024, .inl g_11))]) hD hS hA [0, 1] rfl
  refine va_callv (va_runV (As := [.int (nI rt), .int 66, .int 1]) (rest := []) ⟨hx, hb, hml, hown, hwd⟩ (c_addWord l dC dI tt h0 l_tree l_bytes l_at l_end l_turned l_above l_aboveCount l_line l_lineCount l_width l_a l_colour l_over l_run nd2_12 ct g_11 rt 66 1 66 H.size (hTI) (hNd) (hrt) (rfl) (by decide) (by decide)) (cwV 3 hwd (gV gd_LineReader_addWord wd_4_46 wd_4_48 ws_19 wd_1_15) rfl rfl rfl (by decide +kernel) ⟨Nat.le_of_ble_eq_true rfl, Nat.le_of_ble_eq_true rfl⟩) ⟨fun a U g mk q => by obtain ⟨q0, q1, qP, qK, qD, qF⟩ := q; exact ⟨q0, q1, qP, va_K.moved (u := U) (U := U.calling g mk a) (Vm.Alike.refl U.vm) qK, qD, SF.same (u := U) (U := U.calling g mk a) rfl qF⟩, va_recv hKc hPc (ci := 5) (q0 := 0) rfl rfl, fun U hU hW => ⟨rfl, by rw [hU], by rw [hU]; exact hPc, va_K.moved hW.alike hKc, hDc.weaken (fun _ _ _ _ => trivial), by rw [hU]; exact SF.narrow (SF.moved hW (SF.kept hF (fun a h1 h2 => hS.2.1 a h1 h2))) hFc⟩⟩ rfl rfl hl.1 rfl (lv_room (Nat.le_of_ble_eq_true rfl)) d_LineReader_addModes_36 ⟨Nat.le_of_ble_eq_true rfl, Nat.le_of_ble_eq_true rfl⟩) hS (fun q _ h => hFc q h) hFc ?_
  clear hPc hDc hKc hS
  intro u_14 t H1 locs ht hvm hw hB hz1 hk1 hS
  obtain ⟨g_15, nd2_16⟩ := u_14
  obtain ⟨hP1, hK1, hD1⟩ := hB
  rw [ht] at hP1
  have hK1 := va_K.moved hvm.symm hK1
  try dsimp only at hw
  have hJ := va_join (wr := []) (w1 := [(h0, .inr (5, [.ref l_tree, .int (nI nd2_16), .ref l_bytes, .int l_at, .int l_end, .int l_turned, .ref l_above, .int l_aboveCount, .ref l_line, .int l_lineCount, .int l_width, .int l_a, .int l_colour, .int l_over, .int l_run])), (l_tree, .inl (ct, 1024, .inl g_15))]) hP hD [0, 1] [] rfl rfl (by decide) (by decide) hk1 hFc hP1 hD1
  clear hP hD hk1 hFc hP1 hD1 hz1
  obtain ⟨hP, hD⟩ := hJ
  clear hK1 ht hvm
  generalize H1 = H at hP hS ⊢
  replace hP : va_P (dC, dI) vcl [(h0, .inr (5, [.ref l_tree, .int (nI nd2_16), .ref l_bytes, .int l_at, .int l_end, .int l_turned, .ref l_above, .int l_aboveCount, .ref l_line, .int l_lineCount, .int l_width, .int l_a, .int l_colour, .int l_over, .int l_run])), (l_tree, .inl (ct, 1024, .inl g_15))] H := hP
  replace hD : va_D A [(h0, .inr (5, [.ref l_tree, .int (nI nd2_16), .ref l_bytes, .int l_at, .int l_end, .int l_turned, .ref l_above, .int l_aboveCount, .ref l_line, .int l_lineCount, .int l_width, .int l_a, .int l_colour, .int l_over, .int l_run])), (l_tree, .inl (ct, 1024, .inl g_15))] := hD
  obtain ⟨hTI, hNd⟩ := hw
  refine lv_iinc (v := 2) (lv' := [(2, .int 2), (0, .ref h0), (1, .int (nI rt))]) hx hb d_LineReader_addModes_39 hl (k := 0) rfl (by decide) (by decide) rfl ?_
  clear hl
  intro ls hl
  refine lv_goto (tgt := 20) hx hb d_LineReader_addModes_42 (by decide) ?_
  refine lv_iload_n hx hb d_LineReader_addModes_20 rfl (lv_at hl 0 rfl) ?_
  refine va_gets hx hb (SF_p7 hF).1 hS hown (hwd _ wd_4_54) (fun _ h9 => h9) d_LineReader_addModes_21 ?_
  refine va_tlen (v := 7) hx hb (SF_p7 hF).2 hS rfl d_LineReader_addModes_24 ?_
  refine lv_icmp_ge (tgt := 45) hx hb d_LineReader_addModes_25 (by decide) (fun c25 => absurd c25 (by decide)) (fun _ => ?_)
  refine lv_aload_n hx hb d_LineReader_addModes_28 rfl (lv_at hl 1 rfl) ?_
  refine lv_iload_n hx hb d_LineReader_addModes_29 rfl (lv_at hl 2 rfl) ?_
  refine va_gets hx hb (SF_p7 hF).1 hS hown (hwd _ wd_4_54) (fun _ h9 => h9) d_LineReader_addModes_30 ?_
  refine lv_iload_n hx hb d_LineReader_addModes_33 rfl (lv_at hl 0 rfl) ?_
  refine va_ti (v := .int 10) hx hb (SF_p7 hF).2 hS (show ¬ ((2 : Int32) < 0 ∨ 7 ≤ (2 : Int32).toNatClampNeg) by decide) rfl d_LineReader_addModes_34 ?_
  refine lv_iload_n hx hb d_LineReader_addModes_35 rfl (lv_at hl 0 rfl) ?_
  have hPc := hP.sub (ws' := [(h0, .inr (5, [.ref l_tree, .int (nI nd2_16), .ref l_bytes, .int l_at, .int l_end, .int l_turned, .ref l_above, .int l_aboveCount, .ref l_line, .int l_lineCount, .int l_width, .int l_a, .int l_colour, .int l_over, .int l_run])), (l_tree, .inl (ct, 1024, .inl g_15))]) [0, 1] rfl
  have hDc := hD.sub (ws' := [(h0, .inr (5, [.ref l_tree, .int (nI nd2_16), .ref l_bytes, .int l_at, .int l_end, .int l_turned, .ref l_above, .int l_aboveCount, .ref l_line, .int l_lineCount, .int l_width, .int l_a, .int l_colour, .int l_over, .int l_run])), (l_tree, .inl (ct, 1024, .inl g_15))]) [0, 1] (by decide) rfl
  have hKc := hK.sub (tys' := [(ct, .int)]) [0] rfl
  have hFc := va_free (wc := [(h0, .inr (5, [.ref l_tree, .int (nI nd2_16), .ref l_bytes, .int l_at, .int l_end, .int l_turned, .ref l_above, .int l_aboveCount, .ref l_line, .int l_lineCount, .int l_width, .int l_a, .int l_colour, .int l_over, .int l_run])), (l_tree, .inl (ct, 1024, .inl g_15))]) hD hS hA [0, 1] rfl
  refine va_callv (va_runV (As := [.int (nI rt), .int 10, .int 2]) (rest := []) ⟨hx, hb, hml, hown, hwd⟩ (c_addWord l dC dI tt h0 l_tree l_bytes l_at l_end l_turned l_above l_aboveCount l_line l_lineCount l_width l_a l_colour l_over l_run nd2_16 ct g_15 rt 10 2 10 H.size (hTI) (hNd) (hrt) (rfl) (by decide) (by decide)) (cwV 3 hwd (gV gd_LineReader_addWord wd_4_46 wd_4_48 ws_19 wd_1_15) rfl rfl rfl (by decide +kernel) ⟨Nat.le_of_ble_eq_true rfl, Nat.le_of_ble_eq_true rfl⟩) ⟨fun a U g mk q => by obtain ⟨q0, q1, qP, qK, qD, qF⟩ := q; exact ⟨q0, q1, qP, va_K.moved (u := U) (U := U.calling g mk a) (Vm.Alike.refl U.vm) qK, qD, SF.same (u := U) (U := U.calling g mk a) rfl qF⟩, va_recv hKc hPc (ci := 5) (q0 := 0) rfl rfl, fun U hU hW => ⟨rfl, by rw [hU], by rw [hU]; exact hPc, va_K.moved hW.alike hKc, hDc.weaken (fun _ _ _ _ => trivial), by rw [hU]; exact SF.narrow (SF.moved hW (SF.kept hF (fun a h1 h2 => hS.2.1 a h1 h2))) hFc⟩⟩ rfl rfl hl.1 rfl (lv_room (Nat.le_of_ble_eq_true rfl)) d_LineReader_addModes_36 ⟨Nat.le_of_ble_eq_true rfl, Nat.le_of_ble_eq_true rfl⟩) hS (fun q _ h => hFc q h) hFc ?_
  clear hPc hDc hKc hS
  intro u_18 t H1 locs ht hvm hw hB hz1 hk1 hS
  obtain ⟨g_19, nd2_20⟩ := u_18
  obtain ⟨hP1, hK1, hD1⟩ := hB
  rw [ht] at hP1
  have hK1 := va_K.moved hvm.symm hK1
  try dsimp only at hw
  have hJ := va_join (wr := []) (w1 := [(h0, .inr (5, [.ref l_tree, .int (nI nd2_20), .ref l_bytes, .int l_at, .int l_end, .int l_turned, .ref l_above, .int l_aboveCount, .ref l_line, .int l_lineCount, .int l_width, .int l_a, .int l_colour, .int l_over, .int l_run])), (l_tree, .inl (ct, 1024, .inl g_19))]) hP hD [0, 1] [] rfl rfl (by decide) (by decide) hk1 hFc hP1 hD1
  clear hP hD hk1 hFc hP1 hD1 hz1
  obtain ⟨hP, hD⟩ := hJ
  clear hK1 ht hvm
  generalize H1 = H at hP hS ⊢
  replace hP : va_P (dC, dI) vcl [(h0, .inr (5, [.ref l_tree, .int (nI nd2_20), .ref l_bytes, .int l_at, .int l_end, .int l_turned, .ref l_above, .int l_aboveCount, .ref l_line, .int l_lineCount, .int l_width, .int l_a, .int l_colour, .int l_over, .int l_run])), (l_tree, .inl (ct, 1024, .inl g_19))] H := hP
  replace hD : va_D A [(h0, .inr (5, [.ref l_tree, .int (nI nd2_20), .ref l_bytes, .int l_at, .int l_end, .int l_turned, .ref l_above, .int l_aboveCount, .ref l_line, .int l_lineCount, .int l_width, .int l_a, .int l_colour, .int l_over, .int l_run])), (l_tree, .inl (ct, 1024, .inl g_19))] := hD
  obtain ⟨hTI, hNd⟩ := hw
  refine lv_iinc (v := 3) (lv' := [(2, .int 3), (0, .ref h0), (1, .int (nI rt))]) hx hb d_LineReader_addModes_39 hl (k := 0) rfl (by decide) (by decide) rfl ?_
  clear hl
  intro ls hl
  refine lv_goto (tgt := 20) hx hb d_LineReader_addModes_42 (by decide) ?_
  refine lv_iload_n hx hb d_LineReader_addModes_20 rfl (lv_at hl 0 rfl) ?_
  refine va_gets hx hb (SF_p7 hF).1 hS hown (hwd _ wd_4_54) (fun _ h9 => h9) d_LineReader_addModes_21 ?_
  refine va_tlen (v := 7) hx hb (SF_p7 hF).2 hS rfl d_LineReader_addModes_24 ?_
  refine lv_icmp_ge (tgt := 45) hx hb d_LineReader_addModes_25 (by decide) (fun c25 => absurd c25 (by decide)) (fun _ => ?_)
  refine lv_aload_n hx hb d_LineReader_addModes_28 rfl (lv_at hl 1 rfl) ?_
  refine lv_iload_n hx hb d_LineReader_addModes_29 rfl (lv_at hl 2 rfl) ?_
  refine va_gets hx hb (SF_p7 hF).1 hS hown (hwd _ wd_4_54) (fun _ h9 => h9) d_LineReader_addModes_30 ?_
  refine lv_iload_n hx hb d_LineReader_addModes_33 rfl (lv_at hl 0 rfl) ?_
  refine va_ti (v := .int 3) hx hb (SF_p7 hF).2 hS (show ¬ ((3 : Int32) < 0 ∨ 7 ≤ (3 : Int32).toNatClampNeg) by decide) rfl d_LineReader_addModes_34 ?_
  refine lv_iload_n hx hb d_LineReader_addModes_35 rfl (lv_at hl 0 rfl) ?_
  have hPc := hP.sub (ws' := [(h0, .inr (5, [.ref l_tree, .int (nI nd2_20), .ref l_bytes, .int l_at, .int l_end, .int l_turned, .ref l_above, .int l_aboveCount, .ref l_line, .int l_lineCount, .int l_width, .int l_a, .int l_colour, .int l_over, .int l_run])), (l_tree, .inl (ct, 1024, .inl g_19))]) [0, 1] rfl
  have hDc := hD.sub (ws' := [(h0, .inr (5, [.ref l_tree, .int (nI nd2_20), .ref l_bytes, .int l_at, .int l_end, .int l_turned, .ref l_above, .int l_aboveCount, .ref l_line, .int l_lineCount, .int l_width, .int l_a, .int l_colour, .int l_over, .int l_run])), (l_tree, .inl (ct, 1024, .inl g_19))]) [0, 1] (by decide) rfl
  have hKc := hK.sub (tys' := [(ct, .int)]) [0] rfl
  have hFc := va_free (wc := [(h0, .inr (5, [.ref l_tree, .int (nI nd2_20), .ref l_bytes, .int l_at, .int l_end, .int l_turned, .ref l_above, .int l_aboveCount, .ref l_line, .int l_lineCount, .int l_width, .int l_a, .int l_colour, .int l_over, .int l_run])), (l_tree, .inl (ct, 1024, .inl g_19))]) hD hS hA [0, 1] rfl
  refine va_callv (va_runV (As := [.int (nI rt), .int 3, .int 3]) (rest := []) ⟨hx, hb, hml, hown, hwd⟩ (c_addWord l dC dI tt h0 l_tree l_bytes l_at l_end l_turned l_above l_aboveCount l_line l_lineCount l_width l_a l_colour l_over l_run nd2_20 ct g_19 rt 3 3 3 H.size (hTI) (hNd) (hrt) (rfl) (by decide) (by decide)) (cwV 3 hwd (gV gd_LineReader_addWord wd_4_46 wd_4_48 ws_19 wd_1_15) rfl rfl rfl (by decide +kernel) ⟨Nat.le_of_ble_eq_true rfl, Nat.le_of_ble_eq_true rfl⟩) ⟨fun a U g mk q => by obtain ⟨q0, q1, qP, qK, qD, qF⟩ := q; exact ⟨q0, q1, qP, va_K.moved (u := U) (U := U.calling g mk a) (Vm.Alike.refl U.vm) qK, qD, SF.same (u := U) (U := U.calling g mk a) rfl qF⟩, va_recv hKc hPc (ci := 5) (q0 := 0) rfl rfl, fun U hU hW => ⟨rfl, by rw [hU], by rw [hU]; exact hPc, va_K.moved hW.alike hKc, hDc.weaken (fun _ _ _ _ => trivial), by rw [hU]; exact SF.narrow (SF.moved hW (SF.kept hF (fun a h1 h2 => hS.2.1 a h1 h2))) hFc⟩⟩ rfl rfl hl.1 rfl (lv_room (Nat.le_of_ble_eq_true rfl)) d_LineReader_addModes_36 ⟨Nat.le_of_ble_eq_true rfl, Nat.le_of_ble_eq_true rfl⟩) hS (fun q _ h => hFc q h) hFc ?_
  clear hPc hDc hKc hS
  intro u_22 t H1 locs ht hvm hw hB hz1 hk1 hS
  obtain ⟨g_23, nd2_24⟩ := u_22
  obtain ⟨hP1, hK1, hD1⟩ := hB
  rw [ht] at hP1
  have hK1 := va_K.moved hvm.symm hK1
  try dsimp only at hw
  have hJ := va_join (wr := []) (w1 := [(h0, .inr (5, [.ref l_tree, .int (nI nd2_24), .ref l_bytes, .int l_at, .int l_end, .int l_turned, .ref l_above, .int l_aboveCount, .ref l_line, .int l_lineCount, .int l_width, .int l_a, .int l_colour, .int l_over, .int l_run])), (l_tree, .inl (ct, 1024, .inl g_23))]) hP hD [0, 1] [] rfl rfl (by decide) (by decide) hk1 hFc hP1 hD1
  clear hP hD hk1 hFc hP1 hD1 hz1
  obtain ⟨hP, hD⟩ := hJ
  clear hK1 ht hvm
  generalize H1 = H at hP hS ⊢
  replace hP : va_P (dC, dI) vcl [(h0, .inr (5, [.ref l_tree, .int (nI nd2_24), .ref l_bytes, .int l_at, .int l_end, .int l_turned, .ref l_above, .int l_aboveCount, .ref l_line, .int l_lineCount, .int l_width, .int l_a, .int l_colour, .int l_over, .int l_run])), (l_tree, .inl (ct, 1024, .inl g_23))] H := hP
  replace hD : va_D A [(h0, .inr (5, [.ref l_tree, .int (nI nd2_24), .ref l_bytes, .int l_at, .int l_end, .int l_turned, .ref l_above, .int l_aboveCount, .ref l_line, .int l_lineCount, .int l_width, .int l_a, .int l_colour, .int l_over, .int l_run])), (l_tree, .inl (ct, 1024, .inl g_23))] := hD
  obtain ⟨hTI, hNd⟩ := hw
  refine lv_iinc (v := 4) (lv' := [(2, .int 4), (0, .ref h0), (1, .int (nI rt))]) hx hb d_LineReader_addModes_39 hl (k := 0) rfl (by decide) (by decide) rfl ?_
  clear hl
  intro ls hl
  refine lv_goto (tgt := 20) hx hb d_LineReader_addModes_42 (by decide) ?_
  refine lv_iload_n hx hb d_LineReader_addModes_20 rfl (lv_at hl 0 rfl) ?_
  refine va_gets hx hb (SF_p7 hF).1 hS hown (hwd _ wd_4_54) (fun _ h9 => h9) d_LineReader_addModes_21 ?_
  refine va_tlen (v := 7) hx hb (SF_p7 hF).2 hS rfl d_LineReader_addModes_24 ?_
  refine lv_icmp_ge (tgt := 45) hx hb d_LineReader_addModes_25 (by decide) (fun c25 => absurd c25 (by decide)) (fun _ => ?_)
  refine lv_aload_n hx hb d_LineReader_addModes_28 rfl (lv_at hl 1 rfl) ?_
  refine lv_iload_n hx hb d_LineReader_addModes_29 rfl (lv_at hl 2 rfl) ?_
  refine va_gets hx hb (SF_p7 hF).1 hS hown (hwd _ wd_4_54) (fun _ h9 => h9) d_LineReader_addModes_30 ?_
  refine lv_iload_n hx hb d_LineReader_addModes_33 rfl (lv_at hl 0 rfl) ?_
  refine va_ti (v := .int 11) hx hb (SF_p7 hF).2 hS (show ¬ ((4 : Int32) < 0 ∨ 7 ≤ (4 : Int32).toNatClampNeg) by decide) rfl d_LineReader_addModes_34 ?_
  refine lv_iload_n hx hb d_LineReader_addModes_35 rfl (lv_at hl 0 rfl) ?_
  have hPc := hP.sub (ws' := [(h0, .inr (5, [.ref l_tree, .int (nI nd2_24), .ref l_bytes, .int l_at, .int l_end, .int l_turned, .ref l_above, .int l_aboveCount, .ref l_line, .int l_lineCount, .int l_width, .int l_a, .int l_colour, .int l_over, .int l_run])), (l_tree, .inl (ct, 1024, .inl g_23))]) [0, 1] rfl
  have hDc := hD.sub (ws' := [(h0, .inr (5, [.ref l_tree, .int (nI nd2_24), .ref l_bytes, .int l_at, .int l_end, .int l_turned, .ref l_above, .int l_aboveCount, .ref l_line, .int l_lineCount, .int l_width, .int l_a, .int l_colour, .int l_over, .int l_run])), (l_tree, .inl (ct, 1024, .inl g_23))]) [0, 1] (by decide) rfl
  have hKc := hK.sub (tys' := [(ct, .int)]) [0] rfl
  have hFc := va_free (wc := [(h0, .inr (5, [.ref l_tree, .int (nI nd2_24), .ref l_bytes, .int l_at, .int l_end, .int l_turned, .ref l_above, .int l_aboveCount, .ref l_line, .int l_lineCount, .int l_width, .int l_a, .int l_colour, .int l_over, .int l_run])), (l_tree, .inl (ct, 1024, .inl g_23))]) hD hS hA [0, 1] rfl
  refine va_callv (va_runV (As := [.int (nI rt), .int 11, .int 4]) (rest := []) ⟨hx, hb, hml, hown, hwd⟩ (c_addWord l dC dI tt h0 l_tree l_bytes l_at l_end l_turned l_above l_aboveCount l_line l_lineCount l_width l_a l_colour l_over l_run nd2_24 ct g_23 rt 11 4 11 H.size (hTI) (hNd) (hrt) (rfl) (by decide) (by decide)) (cwV 3 hwd (gV gd_LineReader_addWord wd_4_46 wd_4_48 ws_19 wd_1_15) rfl rfl rfl (by decide +kernel) ⟨Nat.le_of_ble_eq_true rfl, Nat.le_of_ble_eq_true rfl⟩) ⟨fun a U g mk q => by obtain ⟨q0, q1, qP, qK, qD, qF⟩ := q; exact ⟨q0, q1, qP, va_K.moved (u := U) (U := U.calling g mk a) (Vm.Alike.refl U.vm) qK, qD, SF.same (u := U) (U := U.calling g mk a) rfl qF⟩, va_recv hKc hPc (ci := 5) (q0 := 0) rfl rfl, fun U hU hW => ⟨rfl, by rw [hU], by rw [hU]; exact hPc, va_K.moved hW.alike hKc, hDc.weaken (fun _ _ _ _ => trivial), by rw [hU]; exact SF.narrow (SF.moved hW (SF.kept hF (fun a h1 h2 => hS.2.1 a h1 h2))) hFc⟩⟩ rfl rfl hl.1 rfl (lv_room (Nat.le_of_ble_eq_true rfl)) d_LineReader_addModes_36 ⟨Nat.le_of_ble_eq_true rfl, Nat.le_of_ble_eq_true rfl⟩) hS (fun q _ h => hFc q h) hFc ?_
  clear hPc hDc hKc hS
  intro u_26 t H1 locs ht hvm hw hB hz1 hk1 hS
  obtain ⟨g_27, nd2_28⟩ := u_26
  obtain ⟨hP1, hK1, hD1⟩ := hB
  rw [ht] at hP1
  have hK1 := va_K.moved hvm.symm hK1
  try dsimp only at hw
  have hJ := va_join (wr := []) (w1 := [(h0, .inr (5, [.ref l_tree, .int (nI nd2_28), .ref l_bytes, .int l_at, .int l_end, .int l_turned, .ref l_above, .int l_aboveCount, .ref l_line, .int l_lineCount, .int l_width, .int l_a, .int l_colour, .int l_over, .int l_run])), (l_tree, .inl (ct, 1024, .inl g_27))]) hP hD [0, 1] [] rfl rfl (by decide) (by decide) hk1 hFc hP1 hD1
  clear hP hD hk1 hFc hP1 hD1 hz1
  obtain ⟨hP, hD⟩ := hJ
  clear hK1 ht hvm
  generalize H1 = H at hP hS ⊢
  replace hP : va_P (dC, dI) vcl [(h0, .inr (5, [.ref l_tree, .int (nI nd2_28), .ref l_bytes, .int l_at, .int l_end, .int l_turned, .ref l_above, .int l_aboveCount, .ref l_line, .int l_lineCount, .int l_width, .int l_a, .int l_colour, .int l_over, .int l_run])), (l_tree, .inl (ct, 1024, .inl g_27))] H := hP
  replace hD : va_D A [(h0, .inr (5, [.ref l_tree, .int (nI nd2_28), .ref l_bytes, .int l_at, .int l_end, .int l_turned, .ref l_above, .int l_aboveCount, .ref l_line, .int l_lineCount, .int l_width, .int l_a, .int l_colour, .int l_over, .int l_run])), (l_tree, .inl (ct, 1024, .inl g_27))] := hD
  obtain ⟨hTI, hNd⟩ := hw
  refine lv_iinc (v := 5) (lv' := [(2, .int 5), (0, .ref h0), (1, .int (nI rt))]) hx hb d_LineReader_addModes_39 hl (k := 0) rfl (by decide) (by decide) rfl ?_
  clear hl
  intro ls hl
  refine lv_goto (tgt := 20) hx hb d_LineReader_addModes_42 (by decide) ?_
  refine lv_iload_n hx hb d_LineReader_addModes_20 rfl (lv_at hl 0 rfl) ?_
  refine va_gets hx hb (SF_p7 hF).1 hS hown (hwd _ wd_4_54) (fun _ h9 => h9) d_LineReader_addModes_21 ?_
  refine va_tlen (v := 7) hx hb (SF_p7 hF).2 hS rfl d_LineReader_addModes_24 ?_
  refine lv_icmp_ge (tgt := 45) hx hb d_LineReader_addModes_25 (by decide) (fun c25 => absurd c25 (by decide)) (fun _ => ?_)
  refine lv_aload_n hx hb d_LineReader_addModes_28 rfl (lv_at hl 1 rfl) ?_
  refine lv_iload_n hx hb d_LineReader_addModes_29 rfl (lv_at hl 2 rfl) ?_
  refine va_gets hx hb (SF_p7 hF).1 hS hown (hwd _ wd_4_54) (fun _ h9 => h9) d_LineReader_addModes_30 ?_
  refine lv_iload_n hx hb d_LineReader_addModes_33 rfl (lv_at hl 0 rfl) ?_
  refine va_ti (v := .int 67) hx hb (SF_p7 hF).2 hS (show ¬ ((5 : Int32) < 0 ∨ 7 ≤ (5 : Int32).toNatClampNeg) by decide) rfl d_LineReader_addModes_34 ?_
  refine lv_iload_n hx hb d_LineReader_addModes_35 rfl (lv_at hl 0 rfl) ?_
  have hPc := hP.sub (ws' := [(h0, .inr (5, [.ref l_tree, .int (nI nd2_28), .ref l_bytes, .int l_at, .int l_end, .int l_turned, .ref l_above, .int l_aboveCount, .ref l_line, .int l_lineCount, .int l_width, .int l_a, .int l_colour, .int l_over, .int l_run])), (l_tree, .inl (ct, 1024, .inl g_27))]) [0, 1] rfl
  have hDc := hD.sub (ws' := [(h0, .inr (5, [.ref l_tree, .int (nI nd2_28), .ref l_bytes, .int l_at, .int l_end, .int l_turned, .ref l_above, .int l_aboveCount, .ref l_line, .int l_lineCount, .int l_width, .int l_a, .int l_colour, .int l_over, .int l_run])), (l_tree, .inl (ct, 1024, .inl g_27))]) [0, 1] (by decide) rfl
  have hKc := hK.sub (tys' := [(ct, .int)]) [0] rfl
  have hFc := va_free (wc := [(h0, .inr (5, [.ref l_tree, .int (nI nd2_28), .ref l_bytes, .int l_at, .int l_end, .int l_turned, .ref l_above, .int l_aboveCount, .ref l_line, .int l_lineCount, .int l_width, .int l_a, .int l_colour, .int l_over, .int l_run])), (l_tree, .inl (ct, 1024, .inl g_27))]) hD hS hA [0, 1] rfl
  refine va_callv (va_runV (As := [.int (nI rt), .int 67, .int 5]) (rest := []) ⟨hx, hb, hml, hown, hwd⟩ (c_addWord l dC dI tt h0 l_tree l_bytes l_at l_end l_turned l_above l_aboveCount l_line l_lineCount l_width l_a l_colour l_over l_run nd2_28 ct g_27 rt 67 5 67 H.size (hTI) (hNd) (hrt) (rfl) (by decide) (by decide)) (cwV 3 hwd (gV gd_LineReader_addWord wd_4_46 wd_4_48 ws_19 wd_1_15) rfl rfl rfl (by decide +kernel) ⟨Nat.le_of_ble_eq_true rfl, Nat.le_of_ble_eq_true rfl⟩) ⟨fun a U g mk q => by obtain ⟨q0, q1, qP, qK, qD, qF⟩ := q; exact ⟨q0, q1, qP, va_K.moved (u := U) (U := U.calling g mk a) (Vm.Alike.refl U.vm) qK, qD, SF.same (u := U) (U := U.calling g mk a) rfl qF⟩, va_recv hKc hPc (ci := 5) (q0 := 0) rfl rfl, fun U hU hW => ⟨rfl, by rw [hU], by rw [hU]; exact hPc, va_K.moved hW.alike hKc, hDc.weaken (fun _ _ _ _ => trivial), by rw [hU]; exact SF.narrow (SF.moved hW (SF.kept hF (fun a h1 h2 => hS.2.1 a h1 h2))) hFc⟩⟩ rfl rfl hl.1 rfl (lv_room (Nat.le_of_ble_eq_true rfl)) d_LineReader_addModes_36 ⟨Nat.le_of_ble_eq_true rfl, Nat.le_of_ble_eq_true rfl⟩) hS (fun q _ h => hFc q h) hFc ?_
  clear hPc hDc hKc hS
  intro u_30 t H1 locs ht hvm hw hB hz1 hk1 hS
  obtain ⟨g_31, nd2_32⟩ := u_30
  obtain ⟨hP1, hK1, hD1⟩ := hB
  rw [ht] at hP1
  have hK1 := va_K.moved hvm.symm hK1
  try dsimp only at hw
  have hJ := va_join (wr := []) (w1 := [(h0, .inr (5, [.ref l_tree, .int (nI nd2_32), .ref l_bytes, .int l_at, .int l_end, .int l_turned, .ref l_above, .int l_aboveCount, .ref l_line, .int l_lineCount, .int l_width, .int l_a, .int l_colour, .int l_over, .int l_run])), (l_tree, .inl (ct, 1024, .inl g_31))]) hP hD [0, 1] [] rfl rfl (by decide) (by decide) hk1 hFc hP1 hD1
  clear hP hD hk1 hFc hP1 hD1 hz1
  obtain ⟨hP, hD⟩ := hJ
  clear hK1 ht hvm
  generalize H1 = H at hP hS ⊢
  replace hP : va_P (dC, dI) vcl [(h0, .inr (5, [.ref l_tree, .int (nI nd2_32), .ref l_bytes, .int l_at, .int l_end, .int l_turned, .ref l_above, .int l_aboveCount, .ref l_line, .int l_lineCount, .int l_width, .int l_a, .int l_colour, .int l_over, .int l_run])), (l_tree, .inl (ct, 1024, .inl g_31))] H := hP
  replace hD : va_D A [(h0, .inr (5, [.ref l_tree, .int (nI nd2_32), .ref l_bytes, .int l_at, .int l_end, .int l_turned, .ref l_above, .int l_aboveCount, .ref l_line, .int l_lineCount, .int l_width, .int l_a, .int l_colour, .int l_over, .int l_run])), (l_tree, .inl (ct, 1024, .inl g_31))] := hD
  obtain ⟨hTI, hNd⟩ := hw
  refine lv_iinc (v := 6) (lv' := [(2, .int 6), (0, .ref h0), (1, .int (nI rt))]) hx hb d_LineReader_addModes_39 hl (k := 0) rfl (by decide) (by decide) rfl ?_
  clear hl
  intro ls hl
  refine lv_goto (tgt := 20) hx hb d_LineReader_addModes_42 (by decide) ?_
  refine lv_iload_n hx hb d_LineReader_addModes_20 rfl (lv_at hl 0 rfl) ?_
  refine va_gets hx hb (SF_p7 hF).1 hS hown (hwd _ wd_4_54) (fun _ h9 => h9) d_LineReader_addModes_21 ?_
  refine va_tlen (v := 7) hx hb (SF_p7 hF).2 hS rfl d_LineReader_addModes_24 ?_
  refine lv_icmp_ge (tgt := 45) hx hb d_LineReader_addModes_25 (by decide) (fun c25 => absurd c25 (by decide)) (fun _ => ?_)
  refine lv_aload_n hx hb d_LineReader_addModes_28 rfl (lv_at hl 1 rfl) ?_
  refine lv_iload_n hx hb d_LineReader_addModes_29 rfl (lv_at hl 2 rfl) ?_
  refine va_gets hx hb (SF_p7 hF).1 hS hown (hwd _ wd_4_54) (fun _ h9 => h9) d_LineReader_addModes_30 ?_
  refine lv_iload_n hx hb d_LineReader_addModes_33 rfl (lv_at hl 0 rfl) ?_
  refine va_ti (v := .int 131) hx hb (SF_p7 hF).2 hS (show ¬ ((6 : Int32) < 0 ∨ 7 ≤ (6 : Int32).toNatClampNeg) by decide) rfl d_LineReader_addModes_34 ?_
  refine lv_iload_n hx hb d_LineReader_addModes_35 rfl (lv_at hl 0 rfl) ?_
  have hPc := hP.sub (ws' := [(h0, .inr (5, [.ref l_tree, .int (nI nd2_32), .ref l_bytes, .int l_at, .int l_end, .int l_turned, .ref l_above, .int l_aboveCount, .ref l_line, .int l_lineCount, .int l_width, .int l_a, .int l_colour, .int l_over, .int l_run])), (l_tree, .inl (ct, 1024, .inl g_31))]) [0, 1] rfl
  have hDc := hD.sub (ws' := [(h0, .inr (5, [.ref l_tree, .int (nI nd2_32), .ref l_bytes, .int l_at, .int l_end, .int l_turned, .ref l_above, .int l_aboveCount, .ref l_line, .int l_lineCount, .int l_width, .int l_a, .int l_colour, .int l_over, .int l_run])), (l_tree, .inl (ct, 1024, .inl g_31))]) [0, 1] (by decide) rfl
  have hKc := hK.sub (tys' := [(ct, .int)]) [0] rfl
  have hFc := va_free (wc := [(h0, .inr (5, [.ref l_tree, .int (nI nd2_32), .ref l_bytes, .int l_at, .int l_end, .int l_turned, .ref l_above, .int l_aboveCount, .ref l_line, .int l_lineCount, .int l_width, .int l_a, .int l_colour, .int l_over, .int l_run])), (l_tree, .inl (ct, 1024, .inl g_31))]) hD hS hA [0, 1] rfl
  refine va_callv (va_runV (As := [.int (nI rt), .int 131, .int 6]) (rest := []) ⟨hx, hb, hml, hown, hwd⟩ (c_addWord l dC dI tt h0 l_tree l_bytes l_at l_end l_turned l_above l_aboveCount l_line l_lineCount l_width l_a l_colour l_over l_run nd2_32 ct g_31 rt 131 6 131 H.size (hTI) (hNd) (hrt) (rfl) (by decide) (by decide)) (cwV 3 hwd (gV gd_LineReader_addWord wd_4_46 wd_4_48 ws_19 wd_1_15) rfl rfl rfl (by decide +kernel) ⟨Nat.le_of_ble_eq_true rfl, Nat.le_of_ble_eq_true rfl⟩) ⟨fun a U g mk q => by obtain ⟨q0, q1, qP, qK, qD, qF⟩ := q; exact ⟨q0, q1, qP, va_K.moved (u := U) (U := U.calling g mk a) (Vm.Alike.refl U.vm) qK, qD, SF.same (u := U) (U := U.calling g mk a) rfl qF⟩, va_recv hKc hPc (ci := 5) (q0 := 0) rfl rfl, fun U hU hW => ⟨rfl, by rw [hU], by rw [hU]; exact hPc, va_K.moved hW.alike hKc, hDc.weaken (fun _ _ _ _ => trivial), by rw [hU]; exact SF.narrow (SF.moved hW (SF.kept hF (fun a h1 h2 => hS.2.1 a h1 h2))) hFc⟩⟩ rfl rfl hl.1 rfl (lv_room (Nat.le_of_ble_eq_true rfl)) d_LineReader_addModes_36 ⟨Nat.le_of_ble_eq_true rfl, Nat.le_of_ble_eq_true rfl⟩) hS (fun q _ h => hFc q h) hFc ?_
  clear hPc hDc hKc hS
  intro u_34 t H1 locs ht hvm hw hB hz1 hk1 hS
  obtain ⟨g_35, nd2_36⟩ := u_34
  obtain ⟨hP1, hK1, hD1⟩ := hB
  rw [ht] at hP1
  have hK1 := va_K.moved hvm.symm hK1
  try dsimp only at hw
  have hJ := va_join (wr := []) (w1 := [(h0, .inr (5, [.ref l_tree, .int (nI nd2_36), .ref l_bytes, .int l_at, .int l_end, .int l_turned, .ref l_above, .int l_aboveCount, .ref l_line, .int l_lineCount, .int l_width, .int l_a, .int l_colour, .int l_over, .int l_run])), (l_tree, .inl (ct, 1024, .inl g_35))]) hP hD [0, 1] [] rfl rfl (by decide) (by decide) hk1 hFc hP1 hD1
  clear hP hD hk1 hFc hP1 hD1 hz1
  obtain ⟨hP, hD⟩ := hJ
  clear hK1 ht hvm
  generalize H1 = H at hP hS ⊢
  replace hP : va_P (dC, dI) vcl [(h0, .inr (5, [.ref l_tree, .int (nI nd2_36), .ref l_bytes, .int l_at, .int l_end, .int l_turned, .ref l_above, .int l_aboveCount, .ref l_line, .int l_lineCount, .int l_width, .int l_a, .int l_colour, .int l_over, .int l_run])), (l_tree, .inl (ct, 1024, .inl g_35))] H := hP
  replace hD : va_D A [(h0, .inr (5, [.ref l_tree, .int (nI nd2_36), .ref l_bytes, .int l_at, .int l_end, .int l_turned, .ref l_above, .int l_aboveCount, .ref l_line, .int l_lineCount, .int l_width, .int l_a, .int l_colour, .int l_over, .int l_run])), (l_tree, .inl (ct, 1024, .inl g_35))] := hD
  obtain ⟨hTI, hNd⟩ := hw
  refine lv_iinc (v := 7) (lv' := [(2, .int 7), (0, .ref h0), (1, .int (nI rt))]) hx hb d_LineReader_addModes_39 hl (k := 0) rfl (by decide) (by decide) rfl ?_
  clear hl
  intro ls hl
  refine lv_goto (tgt := 20) hx hb d_LineReader_addModes_42 (by decide) ?_
  refine lv_iload_n hx hb d_LineReader_addModes_20 rfl (lv_at hl 0 rfl) ?_
  refine va_gets hx hb (SF_p7 hF).1 hS hown (hwd _ wd_4_54) (fun _ h9 => h9) d_LineReader_addModes_21 ?_
  refine va_tlen (v := 7) hx hb (SF_p7 hF).2 hS rfl d_LineReader_addModes_24 ?_
  refine lv_icmp_ge (tgt := 45) hx hb d_LineReader_addModes_25 (by decide) (fun _ => ?_) (fun c25 => absurd (by decide) c25)
  have hP9 := hP.sub (ws' := [(h0, .inr (5, [.ref l_tree, .int (nI nd2_36), .ref l_bytes, .int l_at, .int l_end, .int l_turned, .ref l_above, .int l_aboveCount, .ref l_line, .int l_lineCount, .int l_width, .int l_a, .int l_colour, .int l_over, .int l_run])), (l_tree, .inl (ct, 1024, .inl g_35))]) [0, 1] rfl
  have hD9 := hD.sub (ws' := [(h0, .inr (5, [.ref l_tree, .int (nI nd2_36), .ref l_bytes, .int l_at, .int l_end, .int l_turned, .ref l_above, .int l_aboveCount, .ref l_line, .int l_lineCount, .int l_width, .int l_a, .int l_colour, .int l_over, .int l_run])), (l_tree, .inl (ct, 1024, .inl g_35))]) [0, 1] (by decide) rfl
  have hK9 := hK.sub (tys' := [(ct, .int)]) [0] rfl
  exact W.vret hx hb hr (fun t ht hW => ⟨⟨(g_35, nd2_36), rfl, (show (∀ i, i < 1024 → ((g_35 : Nat → Int32) i).toInt < 512) ∧ (nd2_36 : Nat) ≤ 512 from (⟨hTI, hNd⟩)), by rw [ht]; exact hP9, va_K.moved hW.alike hK9, hD9⟩, hS.F ht⟩) hS.2.2 d_LineReader_addModes_45

abbrev at_c_addRuns_WHITE (dC : Nat → ClassId) (dI : Nat → Nat → Nat) (h0 : Nat) (l_tree : Nat) (l_bytes : Nat) (l_at : Int32) (l_end : Int32) (l_turned : Int32) (l_above : Nat) (l_aboveCount : Int32) (l_line : Nat) (l_lineCount : Int32) (l_width : Int32) (l_a : Int32) (l_colour : Int32) (l_over : Int32) (l_run : Int32) (nd : Nat) (ct : ClassId) (f : Nat → Int32) (rt : Nat) (A : Nat → Prop) (u : (Nat → Int32) × Nat) (t : State) : Prop := match u with
  | (g, nd2) => va_P (dC, dI) vcl [(h0, .inr (5, [.ref l_tree, .int (nI nd2), .ref l_bytes, .int l_at, .int l_end, .int l_turned, .ref l_above, .int l_aboveCount, .ref l_line, .int l_lineCount, .int l_width, .int l_a, .int l_colour, .int l_over, .int l_run])), (l_tree, .inl (ct, 1024, .inl g))] t.heap ∧ va_K (dC, dI) vcl [(ct, .int)] t ∧ va_D A [(h0, .inr (5, [.ref l_tree, .int (nI nd2), .ref l_bytes, .int l_at, .int l_end, .int l_turned, .ref l_above, .int l_aboveCount, .ref l_line, .int l_lineCount, .int l_width, .int l_a, .int l_colour, .int l_over, .int l_run])), (l_tree, .inl (ct, 1024, .inl g))]
abbrev po_c_addRuns_WHITE (h0 : Nat) (l_tree : Nat) (l_bytes : Nat) (l_at : Int32) (l_end : Int32) (l_turned : Int32) (l_above : Nat) (l_aboveCount : Int32) (l_line : Nat) (l_lineCount : Int32) (l_width : Int32) (l_a : Int32) (l_colour : Int32) (l_over : Int32) (l_run : Int32) (nd : Nat) (ct : ClassId) (f : Nat → Int32) (rt : Nat) (u : (Nat → Int32) × Nat) : Prop := match u with
  | (g, nd2) => (∀ i, i < 1024 → (g i).toInt < 512) ∧ nd2 ≤ 512
abbrev q_c_addRuns_WHITE (dC : Nat → ClassId) (dI : Nat → Nat → Nat) (h0 : Nat) (l_tree : Nat) (l_bytes : Nat) (l_at : Int32) (l_end : Int32) (l_turned : Int32) (l_above : Nat) (l_aboveCount : Int32) (l_line : Nat) (l_lineCount : Int32) (l_width : Int32) (l_a : Int32) (l_colour : Int32) (l_over : Int32) (l_run : Int32) (nd : Nat) (ct : ClassId) (f : Nat → Int32) (rt : Nat) (A : Nat → Prop) : Array Value → State → Outcome → State → Prop := va_Qv (po_c_addRuns_WHITE h0 l_tree l_bytes l_at l_end l_turned l_above l_aboveCount l_line l_lineCount l_width l_a l_colour l_over l_run nd ct f rt) (at_c_addRuns_WHITE dC dI h0 l_tree l_bytes l_at l_end l_turned l_above l_aboveCount l_line l_lineCount l_width l_a l_colour l_over l_run nd ct f rt A) A
abbrev rm_c_addRuns_WHITE : Room := { frames := 2, cells := 0, slots := 0, locals := 48 }
set_option maxHeartbeats 4000000 in
set_option maxRecDepth 100000 in
theorem c_addRuns_WHITE (l : Launch) (dC : Nat → ClassId) (dI : Nat → Nat → Nat) (tt : Nat → Nat) (h0 : Nat) (l_tree : Nat) (l_bytes : Nat) (l_at : Int32) (l_end : Int32) (l_turned : Int32) (l_above : Nat) (l_aboveCount : Int32) (l_line : Nat) (l_lineCount : Int32) (l_width : Int32) (l_a : Int32) (l_colour : Int32) (l_over : Int32) (l_run : Int32) (nd : Nat) (ct : ClassId) (f : Nat → Int32) (rt : Nat) (sz : Nat) (hTI : ∀ i, i < 1024 → (f i).toInt < 512) (hNd : nd ≤ 512) (hrt : rt < 512) : Met l y_LineReader_addRuns w_LineReader_addRuns rm_c_addRuns_WHITE (va_Pc [.ref h0, .int (nI rt), .ref (tt 8), .ref (tt 9)] (fun U => U.heap.size = sz ∧ va_P (dC, dI) vcl [(h0, .inr (5, [.ref l_tree, .int (nI nd), .ref l_bytes, .int l_at, .int l_end, .int l_turned, .ref l_above, .int l_aboveCount, .ref l_line, .int l_lineCount, .int l_width, .int l_a, .int l_colour, .int l_over, .int l_run])), (l_tree, .inl (ct, 1024, .inl f))] U.heap ∧ va_K (dC, dI) vcl [(ct, .int)] U ∧ va_D (fun _ => True) [(h0, .inr (5, [.ref l_tree, .int (nI nd), .ref l_bytes, .int l_at, .int l_end, .int l_turned, .ref l_above, .int l_aboveCount, .ref l_line, .int l_lineCount, .int l_width, .int l_a, .int l_colour, .int l_over, .int l_run])), (l_tree, .inl (ct, 1024, .inl f))] ∧ SF tt (va_A [(h0, .inr (5, [.ref l_tree, .int (nI nd), .ref l_bytes, .int l_at, .int l_end, .int l_turned, .ref l_above, .int l_aboveCount, .ref l_line, .int l_lineCount, .int l_width, .int l_a, .int l_colour, .int l_over, .int l_run])), (l_tree, .inl (ct, 1024, .inl f))] sz) U U.heap)) (q_c_addRuns_WHITE dC dI h0 l_tree l_bytes l_at l_end l_turned l_above l_aboveCount l_line l_lineCount l_width l_a l_colour l_over l_run nd ct f rt (va_A [(h0, .inr (5, [.ref l_tree, .int (nI nd), .ref l_bytes, .int l_at, .int l_end, .int l_turned, .ref l_above, .int l_aboveCount, .ref l_line, .int l_lineCount, .int l_width, .int l_a, .int l_colour, .int l_over, .int l_run])), (l_tree, .inl (ct, 1024, .inl f))] sz)) 0 0 (va_A [(h0, .inr (5, [.ref l_tree, .int (nI nd), .ref l_bytes, .int l_at, .int l_end, .int l_turned, .ref l_above, .int l_aboveCount, .ref l_line, .int l_lineCount, .int l_width, .int l_a, .int l_colour, .int l_over, .int l_run])), (l_tree, .inl (ct, 1024, .inl f))] sz) := by
  refine Met.ofW (cc := b_LineReader_addRuns) (maxL := 5) (ret := none) (by decide) rfl ?_
  intro p e s m args below meth c s₁ B hml hv
  obtain ⟨rfl, hsz, hP, hK, hD0, hF⟩ := hv
  have hx := B.exec
  have hb := B.bytes
  have hr := B.returns
  have hwd : ∀ w ∈ gT, w.before _ s = true := fun w h => atoms_spec (ws := w_LineReader_addRuns) B.pre w (List.mem_cons_of_mem _ h)
  have hown : s.vm.findClass R_LineReader = some m.cls := findClass_of_methodNamed B.named
  have hlocks := B.notSynchronized
  subst hsz
  have hD := hD0.self (sz := s.heap.size)
  generalize hAe : va_A [(h0, .inr (5, [.ref l_tree, .int (nI nd), .ref l_bytes, .int l_at, .int l_end, .int l_turned, .ref l_above, .int l_aboveCount, .ref l_line, .int l_lineCount, .int l_width, .int l_a, .int l_colour, .int l_over, .int l_run])), (l_tree, .inl (ct, 1024, .inl f))] s.heap.size = A at hD hF ⊢
  have hA : ∀ q : Nat, s.heap.size ≤ q → A q := fun q h => by rw [← hAe]; exact Or.inr h
  have hS : va_S A s.heap s.heap [] := va_S.rf
  have hP : va_P (dC, dI) vcl [(h0, .inr (5, [.ref l_tree, .int (nI nd), .ref l_bytes, .int l_at, .int l_end, .int l_turned, .ref l_above, .int l_aboveCount, .ref l_line, .int l_lineCount, .int l_width, .int l_a, .int l_colour, .int l_over, .int l_run])), (l_tree, .inl (ct, 1024, .inl f))] s.heap := hP
  have hl := lv_entry ([.ref h0, .int (nI rt), .ref (tt 8), .ref (tt 9)]) (n := 5) (Nat.le_of_ble_eq_true rfl)
  rw [lg_entry_eq]
  generalize (lg_sl ([.ref h0, .int (nI rt), .ref (tt 8), .ref (tt 9)]) ++ List.replicate (5 - (lg_sl ([.ref h0, .int (nI rt), .ref (tt 8), .ref (tt 9)])).length) Slot.unset).toArray = ls at hl ⊢
  have hl : lv_has ls 5 [(0, .ref h0), (1, .int (nI rt)), (2, .ref (tt 8)), (3, .ref (tt 9))] := hl
  refine lv_iconst (v := 0) hx hb d_LineReader_addRuns_0 (by decide) ?_
  refine lv_istore (lv' := [(4, .int 0), (0, .ref h0), (1, .int (nI rt)), (2, .ref (tt 8)), (3, .ref (tt 9))]) hx hb d_LineReader_addRuns_1 hl (by decide) rfl ?_
  clear hl
  intro ls hl
  have cut3 : ∀ (n : Nat) (ia : Nat) (xa : Int32) (na : Nat) (fa : Nat → Int32), (xa = nI ia) → (∀ i, i < 1024 → (fa i).toInt < 512) → (na ≤ 512) → (64 < ia + n) → (ia ≤ 64) → ∀ (H : Heap) (locs : List Loc) (ls : Array Slot), va_K (dC, dI) vcl [(ct, .int)] s → va_P (dC, dI) vcl [(h0, .inr (5, [.ref l_tree, .int (nI na), .ref l_bytes, .int l_at, .int l_end, .int l_turned, .ref l_above, .int l_aboveCount, .ref l_line, .int l_lineCount, .int l_width, .int l_a, .int l_colour, .int l_over, .int l_run])), (l_tree, .inl (ct, 1024, .inl fa))] H → va_D A [(h0, .inr (5, [.ref l_tree, .int (nI na), .ref l_bytes, .int l_at, .int l_end, .int l_turned, .ref l_above, .int l_aboveCount, .ref l_line, .int l_lineCount, .int l_width, .int l_a, .int l_colour, .int l_over, .int l_run])), (l_tree, .inl (ct, 1024, .inl fa))] → va_S A s.heap H locs → lv_has ls 5 [(0, .ref h0), (1, .int (nI rt)), (2, .ref (tt 8)), (3, .ref (tt 9)), (4, .int xa)] → W p l e (headSpec w_LineReader_addRuns rm_c_addRuns_WHITE).room s m (List.toArray [.ref h0, .int (nI rt), .ref (tt 8), .ref (tt 9)]) below meth c H locs 0 0 (MQ below (q_c_addRuns_WHITE dC dI h0 l_tree l_bytes l_at l_end l_turned l_above l_aboveCount l_line l_lineCount l_width l_a l_colour l_over l_run nd ct f rt A) (List.toArray [.ref h0, .int (nI rt), .ref (tt 8), .ref (tt 9)]) s 0 0 A) (F0 m 3 ls []) := by
    intro n
    induction n with
    | zero =>
      intro ia xa na fa ea hTI hNd hm hia
      exact absurd hm (by omega)
    | succ n ih =>
      intro ia xa na fa ea hTI hNd hm hia H locs ls hK hP hD hS hl
      refine lv_iload hx hb d_LineReader_addRuns_3 (lv_at hl 4 rfl) ?_
      refine lv_aload_n hx hb d_LineReader_addRuns_5 rfl (lv_at hl 2 rfl) ?_
      refine va_tlen (v := 64) hx hb (SF_p8 hF).2 hS rfl d_LineReader_addRuns_6 ?_
      refine lv_icmp_ge (tgt := 27) hx hb d_LineReader_addRuns_7 (by decide) (fun c7 => ?_) (fun c7 => ?_)
      · refine lv_iconst (v := 0) hx hb d_LineReader_addRuns_27 (by decide) ?_
        refine lv_istore (lv' := [(4, .int 0), (0, .ref h0), (1, .int (nI rt)), (2, .ref (tt 8)), (3, .ref (tt 9))]) hx hb d_LineReader_addRuns_28 hl (by decide) rfl ?_
        clear hl
        intro ls hl
        have cut30 : ∀ (n : Nat) (ib : Nat) (xb : Int32) (nb : Nat) (fb : Nat → Int32), (xb = nI ib) → (∀ i, i < 1024 → (fb i).toInt < 512) → (nb ≤ 512) → (27 < ib + n) → (ib ≤ 27) → ∀ (H : Heap) (locs : List Loc) (ls : Array Slot), va_K (dC, dI) vcl [(ct, .int)] s → va_P (dC, dI) vcl [(h0, .inr (5, [.ref l_tree, .int (nI nb), .ref l_bytes, .int l_at, .int l_end, .int l_turned, .ref l_above, .int l_aboveCount, .ref l_line, .int l_lineCount, .int l_width, .int l_a, .int l_colour, .int l_over, .int l_run])), (l_tree, .inl (ct, 1024, .inl fb))] H → va_D A [(h0, .inr (5, [.ref l_tree, .int (nI nb), .ref l_bytes, .int l_at, .int l_end, .int l_turned, .ref l_above, .int l_aboveCount, .ref l_line, .int l_lineCount, .int l_width, .int l_a, .int l_colour, .int l_over, .int l_run])), (l_tree, .inl (ct, 1024, .inl fb))] → va_S A s.heap H locs → lv_has ls 5 [(0, .ref h0), (1, .int (nI rt)), (2, .ref (tt 8)), (3, .ref (tt 9)), (4, .int xb)] → W p l e (headSpec w_LineReader_addRuns rm_c_addRuns_WHITE).room s m (List.toArray [.ref h0, .int (nI rt), .ref (tt 8), .ref (tt 9)]) below meth c H locs 0 0 (MQ below (q_c_addRuns_WHITE dC dI h0 l_tree l_bytes l_at l_end l_turned l_above l_aboveCount l_line l_lineCount l_width l_a l_colour l_over l_run nd ct f rt A) (List.toArray [.ref h0, .int (nI rt), .ref (tt 8), .ref (tt 9)]) s 0 0 A) (F0 m 30 ls []) := by
          intro n
          induction n with
          | zero =>
            intro ib xb nb fb eb hTI hNd hm hib
            exact absurd hm (by omega)
          | succ n ih =>
            intro ib xb nb fb eb hTI hNd hm hib H locs ls hK hP hD hS hl
            refine lv_iload hx hb d_LineReader_addRuns_30 (lv_at hl 4 rfl) ?_
            refine lv_aload_n hx hb d_LineReader_addRuns_32 rfl (lv_at hl 3 rfl) ?_
            refine va_tlen (v := 27) hx hb (SF_p9 hF).2 hS rfl d_LineReader_addRuns_33 ?_
            refine lv_icmp_ge (tgt := 60) hx hb d_LineReader_addRuns_34 (by decide) (fun c34 => ?_) (fun c34 => ?_)
            · refine lv_iconst (v := 0) hx hb d_LineReader_addRuns_60 (by decide) ?_
              refine lv_istore (lv' := [(4, .int 0), (0, .ref h0), (1, .int (nI rt)), (2, .ref (tt 8)), (3, .ref (tt 9))]) hx hb d_LineReader_addRuns_61 hl (by decide) rfl ?_
              clear hl
              intro ls hl
              have cut63 : ∀ (n : Nat) (ic : Nat) (xc : Int32) (nc : Nat) (fd : Nat → Int32), (xc = nI ic) → (∀ i, i < 1024 → (fd i).toInt < 512) → (nc ≤ 512) → (13 < ic + n) → (ic ≤ 13) → ∀ (H : Heap) (locs : List Loc) (ls : Array Slot), va_K (dC, dI) vcl [(ct, .int)] s → va_P (dC, dI) vcl [(h0, .inr (5, [.ref l_tree, .int (nI nc), .ref l_bytes, .int l_at, .int l_end, .int l_turned, .ref l_above, .int l_aboveCount, .ref l_line, .int l_lineCount, .int l_width, .int l_a, .int l_colour, .int l_over, .int l_run])), (l_tree, .inl (ct, 1024, .inl fd))] H → va_D A [(h0, .inr (5, [.ref l_tree, .int (nI nc), .ref l_bytes, .int l_at, .int l_end, .int l_turned, .ref l_above, .int l_aboveCount, .ref l_line, .int l_lineCount, .int l_width, .int l_a, .int l_colour, .int l_over, .int l_run])), (l_tree, .inl (ct, 1024, .inl fd))] → va_S A s.heap H locs → lv_has ls 5 [(0, .ref h0), (1, .int (nI rt)), (2, .ref (tt 8)), (3, .ref (tt 9)), (4, .int xc)] → W p l e (headSpec w_LineReader_addRuns rm_c_addRuns_WHITE).room s m (List.toArray [.ref h0, .int (nI rt), .ref (tt 8), .ref (tt 9)]) below meth c H locs 0 0 (MQ below (q_c_addRuns_WHITE dC dI h0 l_tree l_bytes l_at l_end l_turned l_above l_aboveCount l_line l_lineCount l_width l_a l_colour l_over l_run nd ct f rt A) (List.toArray [.ref h0, .int (nI rt), .ref (tt 8), .ref (tt 9)]) s 0 0 A) (F0 m 63 ls []) := by
                intro n
                induction n with
                | zero =>
                  intro ic xc nc fd ec hTI hNd hm hic
                  exact absurd hm (by omega)
                | succ n ih =>
                  intro ic xc nc fd ec hTI hNd hm hic H locs ls hK hP hD hS hl
                  refine lv_iload hx hb d_LineReader_addRuns_63 (lv_at hl 4 rfl) ?_
                  refine va_gets hx hb (SF_p10 hF).1 hS hown (hwd _ wd_4_64) (fun _ h9 => h9) d_LineReader_addRuns_65 ?_
                  refine va_tlen (v := 13) hx hb (SF_p10 hF).2 hS rfl d_LineReader_addRuns_68 ?_
                  refine lv_icmp_ge (tgt := 98) hx hb d_LineReader_addRuns_69 (by decide) (fun c69 => ?_) (fun c69 => ?_)
                  · have hP9 := hP.sub (ws' := [(h0, .inr (5, [.ref l_tree, .int (nI nc), .ref l_bytes, .int l_at, .int l_end, .int l_turned, .ref l_above, .int l_aboveCount, .ref l_line, .int l_lineCount, .int l_width, .int l_a, .int l_colour, .int l_over, .int l_run])), (l_tree, .inl (ct, 1024, .inl fd))]) [0, 1] rfl
                    have hD9 := hD.sub (ws' := [(h0, .inr (5, [.ref l_tree, .int (nI nc), .ref l_bytes, .int l_at, .int l_end, .int l_turned, .ref l_above, .int l_aboveCount, .ref l_line, .int l_lineCount, .int l_width, .int l_a, .int l_colour, .int l_over, .int l_run])), (l_tree, .inl (ct, 1024, .inl fd))]) [0, 1] (by decide) rfl
                    have hK9 := hK.sub (tys' := [(ct, .int)]) [0] rfl
                    exact W.vret hx hb hr (fun t ht hW => ⟨⟨(fd, nc), rfl, (show (∀ i, i < 1024 → ((fd : Nat → Int32) i).toInt < 512) ∧ (nc : Nat) ≤ 512 from (⟨hTI, hNd⟩)), by rw [ht]; exact hP9, va_K.moved hW.alike hK9, hD9⟩, hS.F ht⟩) hS.2.2 d_LineReader_addRuns_98
                  · have hcc : ic < 13 := by
                      rcases Nat.lt_or_ge ic 13 with q9 | q9
                      · exact q9
                      · exact absurd (by rw [ec]; exact nI_le (a := 13) q9 (by omega)) c69
                    refine lv_aload_n hx hb d_LineReader_addRuns_72 rfl (lv_at hl 0 rfl) ?_
                    refine lv_iload_n hx hb d_LineReader_addRuns_73 rfl (lv_at hl 1 rfl) ?_
                    refine va_gets hx hb (SF_p10 hF).1 hS hown (hwd _ wd_4_64) (fun _ h9 => h9) d_LineReader_addRuns_74 ?_
                    refine lv_iload hx hb d_LineReader_addRuns_77 (lv_at hl 4 rfl) ?_
                    refine va_ti (v := .int (tb_Coder_LONG_BLOCKS xc.toNatClampNeg)) hx hb (SF_p10 hF).2 hS (by rw [ec]; exact vp_in_nI hcc (by omega)) rfl d_LineReader_addRuns_79 ?_
                    refine lv_topi (fun y_1 ey_1 => ?_)
                    obtain rfl : y_1 = tb_Coder_LONG_BLOCKS ic := ey_1.trans (by rw [ec, nI_clamp (by omega)])
                    refine lv_sipush (v := 1792) hx hb d_LineReader_addRuns_80 (by decide) ?_
                    refine lv_bipush (v := 64) hx hb d_LineReader_addRuns_83 (by decide) ?_
                    refine lv_iload hx hb d_LineReader_addRuns_85 (lv_at hl 4 rfl) ?_
                    refine lv_imul hx hb d_LineReader_addRuns_87 ?_
                    refine lv_iadd hx hb d_LineReader_addRuns_88 ?_
                    have hPc := hP.sub (ws' := [(h0, .inr (5, [.ref l_tree, .int (nI nc), .ref l_bytes, .int l_at, .int l_end, .int l_turned, .ref l_above, .int l_aboveCount, .ref l_line, .int l_lineCount, .int l_width, .int l_a, .int l_colour, .int l_over, .int l_run])), (l_tree, .inl (ct, 1024, .inl fd))]) [0, 1] rfl
                    have hDc := hD.sub (ws' := [(h0, .inr (5, [.ref l_tree, .int (nI nc), .ref l_bytes, .int l_at, .int l_end, .int l_turned, .ref l_above, .int l_aboveCount, .ref l_line, .int l_lineCount, .int l_width, .int l_a, .int l_colour, .int l_over, .int l_run])), (l_tree, .inl (ct, 1024, .inl fd))]) [0, 1] (by decide) rfl
                    have hKc := hK.sub (tys' := [(ct, .int)]) [0] rfl
                    have hFc := va_free (wc := [(h0, .inr (5, [.ref l_tree, .int (nI nc), .ref l_bytes, .int l_at, .int l_end, .int l_turned, .ref l_above, .int l_aboveCount, .ref l_line, .int l_lineCount, .int l_width, .int l_a, .int l_colour, .int l_over, .int l_run])), (l_tree, .inl (ct, 1024, .inl fd))]) hD hS hA [0, 1] rfl
                    refine va_callv (va_runV (As := [.int (nI rt), .int (tb_Coder_LONG_BLOCKS ic), .int (1792 + (64 * xc))]) (rest := []) ⟨hx, hb, hml, hown, hwd⟩ (c_addWord l dC dI tt h0 l_tree l_bytes l_at l_end l_turned l_above l_aboveCount l_line l_lineCount l_width l_a l_colour l_over l_run nc ct fd rt (tb_Coder_LONG_BLOCKS ic) (1792 + (64 * xc)) ((tb_Coder_LONG_BLOCKS ic).toNatClampNeg) H.size (hTI) (hNd) (hrt) ((tbw_LONG_BLOCKS ic hcc).1) ((tbw_LONG_BLOCKS ic hcc).2) (by rw [ec]; exact mg_c ic hcc)) (cwV 3 hwd (gV gd_LineReader_addWord wd_4_46 wd_4_48 ws_19 wd_1_15) rfl rfl rfl (by decide +kernel) ⟨Nat.le_of_ble_eq_true rfl, Nat.le_of_ble_eq_true rfl⟩) ⟨fun a U g mk q => by obtain ⟨q0, q1, qP, qK, qD, qF⟩ := q; exact ⟨q0, q1, qP, va_K.moved (u := U) (U := U.calling g mk a) (Vm.Alike.refl U.vm) qK, qD, SF.same (u := U) (U := U.calling g mk a) rfl qF⟩, va_recv hKc hPc (ci := 5) (q0 := 0) rfl rfl, fun U hU hW => ⟨rfl, by rw [hU], by rw [hU]; exact hPc, va_K.moved hW.alike hKc, hDc.weaken (fun _ _ _ _ => trivial), by rw [hU]; exact SF.narrow (SF.moved hW (SF.kept hF (fun a h1 h2 => hS.2.1 a h1 h2))) hFc⟩⟩ rfl rfl hl.1 rfl (lv_room (Nat.le_of_ble_eq_true rfl)) d_LineReader_addRuns_89 ⟨Nat.le_of_ble_eq_true rfl, Nat.le_of_ble_eq_true rfl⟩) hS (fun q _ h => hFc q h) hFc ?_
                    clear hPc hDc hKc hS
                    intro u_3 t H1 locs ht hvm hw hB hz1 hk1 hS
                    obtain ⟨g_4, nd2_5⟩ := u_3
                    obtain ⟨hP1, hK1, hD1⟩ := hB
                    rw [ht] at hP1
                    have hK1 := va_K.moved hvm.symm hK1
                    try dsimp only at hw
                    have hJ := va_join (wr := []) (w1 := [(h0, .inr (5, [.ref l_tree, .int (nI nd2_5), .ref l_bytes, .int l_at, .int l_end, .int l_turned, .ref l_above, .int l_aboveCount, .ref l_line, .int l_lineCount, .int l_width, .int l_a, .int l_colour, .int l_over, .int l_run])), (l_tree, .inl (ct, 1024, .inl g_4))]) hP hD [0, 1] [] rfl rfl (by decide) (by decide) hk1 hFc hP1 hD1
                    clear hP hD hk1 hFc hP1 hD1 hz1
                    obtain ⟨hP, hD⟩ := hJ
                    clear hK1 ht hvm
                    generalize H1 = H at hP hS ⊢
                    replace hP : va_P (dC, dI) vcl [(h0, .inr (5, [.ref l_tree, .int (nI nd2_5), .ref l_bytes, .int l_at, .int l_end, .int l_turned, .ref l_above, .int l_aboveCount, .ref l_line, .int l_lineCount, .int l_width, .int l_a, .int l_colour, .int l_over, .int l_run])), (l_tree, .inl (ct, 1024, .inl g_4))] H := hP
                    replace hD : va_D A [(h0, .inr (5, [.ref l_tree, .int (nI nd2_5), .ref l_bytes, .int l_at, .int l_end, .int l_turned, .ref l_above, .int l_aboveCount, .ref l_line, .int l_lineCount, .int l_width, .int l_a, .int l_colour, .int l_over, .int l_run])), (l_tree, .inl (ct, 1024, .inl g_4))] := hD
                    obtain ⟨hTI, hNd⟩ := hw
                    refine lv_iinc (v := xc + 1) (lv' := [(4, .int (xc + 1)), (0, .ref h0), (1, .int (nI rt)), (2, .ref (tt 8)), (3, .ref (tt 9))]) hx hb d_LineReader_addRuns_92 hl (k := 4) rfl rfl (by decide) rfl ?_
                    clear hl
                    intro ls hl
                    refine lv_goto (tgt := 63) hx hb d_LineReader_addRuns_95 (by decide) ?_
                    exact ih (ic + 1) (xc + 1) nd2_5 g_4 (by rw [ec]; exact nI_1 ic) (hTI) (hNd) (by omega) (by omega) _ _ _ hK hP hD hS (lv_sub hl [1, 2, 3, 4, 0] rfl)
              exact cut63 (14) 0 0 nb fb (rfl) (hTI) (hNd) (by omega) (Nat.zero_le _) _ _ _ hK hP hD hS (lv_sub hl [1, 2, 3, 4, 0] rfl)
            · have hbb : ib < 27 := by
                rcases Nat.lt_or_ge ib 27 with q9 | q9
                · exact q9
                · exact absurd (by rw [eb]; exact nI_le (a := 27) q9 (by omega)) c34
              refine lv_aload_n hx hb d_LineReader_addRuns_37 rfl (lv_at hl 0 rfl) ?_
              refine lv_iload_n hx hb d_LineReader_addRuns_38 rfl (lv_at hl 1 rfl) ?_
              refine lv_aload_n hx hb d_LineReader_addRuns_39 rfl (lv_at hl 3 rfl) ?_
              refine lv_iload hx hb d_LineReader_addRuns_40 (lv_at hl 4 rfl) ?_
              refine va_ti (v := .int (tb_Coder_WHITE_BLOCKS xb.toNatClampNeg)) hx hb (SF_p9 hF).2 hS (by rw [eb]; exact vp_in_nI hbb (by omega)) rfl d_LineReader_addRuns_42 ?_
              refine lv_topi (fun y_6 ey_6 => ?_)
              obtain rfl : y_6 = tb_Coder_WHITE_BLOCKS ib := ey_6.trans (by rw [eb, nI_clamp (by omega)])
              refine lv_bipush (v := 64) hx hb d_LineReader_addRuns_43 (by decide) ?_
              refine lv_bipush (v := 64) hx hb d_LineReader_addRuns_45 (by decide) ?_
              refine lv_iload hx hb d_LineReader_addRuns_47 (lv_at hl 4 rfl) ?_
              refine lv_imul hx hb d_LineReader_addRuns_49 ?_
              refine lv_iadd hx hb d_LineReader_addRuns_50 ?_
              have hPc := hP.sub (ws' := [(h0, .inr (5, [.ref l_tree, .int (nI nb), .ref l_bytes, .int l_at, .int l_end, .int l_turned, .ref l_above, .int l_aboveCount, .ref l_line, .int l_lineCount, .int l_width, .int l_a, .int l_colour, .int l_over, .int l_run])), (l_tree, .inl (ct, 1024, .inl fb))]) [0, 1] rfl
              have hDc := hD.sub (ws' := [(h0, .inr (5, [.ref l_tree, .int (nI nb), .ref l_bytes, .int l_at, .int l_end, .int l_turned, .ref l_above, .int l_aboveCount, .ref l_line, .int l_lineCount, .int l_width, .int l_a, .int l_colour, .int l_over, .int l_run])), (l_tree, .inl (ct, 1024, .inl fb))]) [0, 1] (by decide) rfl
              have hKc := hK.sub (tys' := [(ct, .int)]) [0] rfl
              have hFc := va_free (wc := [(h0, .inr (5, [.ref l_tree, .int (nI nb), .ref l_bytes, .int l_at, .int l_end, .int l_turned, .ref l_above, .int l_aboveCount, .ref l_line, .int l_lineCount, .int l_width, .int l_a, .int l_colour, .int l_over, .int l_run])), (l_tree, .inl (ct, 1024, .inl fb))]) hD hS hA [0, 1] rfl
              refine va_callv (va_runV (As := [.int (nI rt), .int (tb_Coder_WHITE_BLOCKS ib), .int (64 + (64 * xb))]) (rest := []) ⟨hx, hb, hml, hown, hwd⟩ (c_addWord l dC dI tt h0 l_tree l_bytes l_at l_end l_turned l_above l_aboveCount l_line l_lineCount l_width l_a l_colour l_over l_run nb ct fb rt (tb_Coder_WHITE_BLOCKS ib) (64 + (64 * xb)) ((tb_Coder_WHITE_BLOCKS ib).toNatClampNeg) H.size (hTI) (hNd) (hrt) ((tbw_WHITE_BLOCKS ib hbb).1) ((tbw_WHITE_BLOCKS ib hbb).2) (by rw [eb]; exact mg_b ib hbb)) (cwV 3 hwd (gV gd_LineReader_addWord wd_4_46 wd_4_48 ws_19 wd_1_15) rfl rfl rfl (by decide +kernel) ⟨Nat.le_of_ble_eq_true rfl, Nat.le_of_ble_eq_true rfl⟩) ⟨fun a U g mk q => by obtain ⟨q0, q1, qP, qK, qD, qF⟩ := q; exact ⟨q0, q1, qP, va_K.moved (u := U) (U := U.calling g mk a) (Vm.Alike.refl U.vm) qK, qD, SF.same (u := U) (U := U.calling g mk a) rfl qF⟩, va_recv hKc hPc (ci := 5) (q0 := 0) rfl rfl, fun U hU hW => ⟨rfl, by rw [hU], by rw [hU]; exact hPc, va_K.moved hW.alike hKc, hDc.weaken (fun _ _ _ _ => trivial), by rw [hU]; exact SF.narrow (SF.moved hW (SF.kept hF (fun a h1 h2 => hS.2.1 a h1 h2))) hFc⟩⟩ rfl rfl hl.1 rfl (lv_room (Nat.le_of_ble_eq_true rfl)) d_LineReader_addRuns_51 ⟨Nat.le_of_ble_eq_true rfl, Nat.le_of_ble_eq_true rfl⟩) hS (fun q _ h => hFc q h) hFc ?_
              clear hPc hDc hKc hS
              intro u_8 t H1 locs ht hvm hw hB hz1 hk1 hS
              obtain ⟨g_9, nd2_10⟩ := u_8
              obtain ⟨hP1, hK1, hD1⟩ := hB
              rw [ht] at hP1
              have hK1 := va_K.moved hvm.symm hK1
              try dsimp only at hw
              have hJ := va_join (wr := []) (w1 := [(h0, .inr (5, [.ref l_tree, .int (nI nd2_10), .ref l_bytes, .int l_at, .int l_end, .int l_turned, .ref l_above, .int l_aboveCount, .ref l_line, .int l_lineCount, .int l_width, .int l_a, .int l_colour, .int l_over, .int l_run])), (l_tree, .inl (ct, 1024, .inl g_9))]) hP hD [0, 1] [] rfl rfl (by decide) (by decide) hk1 hFc hP1 hD1
              clear hP hD hk1 hFc hP1 hD1 hz1
              obtain ⟨hP, hD⟩ := hJ
              clear hK1 ht hvm
              generalize H1 = H at hP hS ⊢
              replace hP : va_P (dC, dI) vcl [(h0, .inr (5, [.ref l_tree, .int (nI nd2_10), .ref l_bytes, .int l_at, .int l_end, .int l_turned, .ref l_above, .int l_aboveCount, .ref l_line, .int l_lineCount, .int l_width, .int l_a, .int l_colour, .int l_over, .int l_run])), (l_tree, .inl (ct, 1024, .inl g_9))] H := hP
              replace hD : va_D A [(h0, .inr (5, [.ref l_tree, .int (nI nd2_10), .ref l_bytes, .int l_at, .int l_end, .int l_turned, .ref l_above, .int l_aboveCount, .ref l_line, .int l_lineCount, .int l_width, .int l_a, .int l_colour, .int l_over, .int l_run])), (l_tree, .inl (ct, 1024, .inl g_9))] := hD
              obtain ⟨hTI, hNd⟩ := hw
              refine lv_iinc (v := xb + 1) (lv' := [(4, .int (xb + 1)), (0, .ref h0), (1, .int (nI rt)), (2, .ref (tt 8)), (3, .ref (tt 9))]) hx hb d_LineReader_addRuns_54 hl (k := 4) rfl rfl (by decide) rfl ?_
              clear hl
              intro ls hl
              refine lv_goto (tgt := 30) hx hb d_LineReader_addRuns_57 (by decide) ?_
              exact ih (ib + 1) (xb + 1) nd2_10 g_9 (by rw [eb]; exact nI_1 ib) (hTI) (hNd) (by omega) (by omega) _ _ _ hK hP hD hS (lv_sub hl [1, 2, 3, 4, 0] rfl)
        exact cut30 (28) 0 0 na fa (rfl) (hTI) (hNd) (by omega) (Nat.zero_le _) _ _ _ hK hP hD hS (lv_sub hl [1, 2, 3, 4, 0] rfl)
      · have haa : ia < 64 := by
          rcases Nat.lt_or_ge ia 64 with q9 | q9
          · exact q9
          · exact absurd (by rw [ea]; exact nI_le (a := 64) q9 (by omega)) c7
        refine lv_aload_n hx hb d_LineReader_addRuns_10 rfl (lv_at hl 0 rfl) ?_
        refine lv_iload_n hx hb d_LineReader_addRuns_11 rfl (lv_at hl 1 rfl) ?_
        refine lv_aload_n hx hb d_LineReader_addRuns_12 rfl (lv_at hl 2 rfl) ?_
        refine lv_iload hx hb d_LineReader_addRuns_13 (lv_at hl 4 rfl) ?_
        refine va_ti (v := .int (tb_Coder_WHITE_RESTS xa.toNatClampNeg)) hx hb (SF_p8 hF).2 hS (by rw [ea]; exact vp_in_nI haa (by omega)) rfl d_LineReader_addRuns_15 ?_
        refine lv_topi (fun y_11 ey_11 => ?_)
        obtain rfl : y_11 = tb_Coder_WHITE_RESTS ia := ey_11.trans (by rw [ea, nI_clamp (by omega)])
        refine lv_iload hx hb d_LineReader_addRuns_16 (lv_at hl 4 rfl) ?_
        have hPc := hP.sub (ws' := [(h0, .inr (5, [.ref l_tree, .int (nI na), .ref l_bytes, .int l_at, .int l_end, .int l_turned, .ref l_above, .int l_aboveCount, .ref l_line, .int l_lineCount, .int l_width, .int l_a, .int l_colour, .int l_over, .int l_run])), (l_tree, .inl (ct, 1024, .inl fa))]) [0, 1] rfl
        have hDc := hD.sub (ws' := [(h0, .inr (5, [.ref l_tree, .int (nI na), .ref l_bytes, .int l_at, .int l_end, .int l_turned, .ref l_above, .int l_aboveCount, .ref l_line, .int l_lineCount, .int l_width, .int l_a, .int l_colour, .int l_over, .int l_run])), (l_tree, .inl (ct, 1024, .inl fa))]) [0, 1] (by decide) rfl
        have hKc := hK.sub (tys' := [(ct, .int)]) [0] rfl
        have hFc := va_free (wc := [(h0, .inr (5, [.ref l_tree, .int (nI na), .ref l_bytes, .int l_at, .int l_end, .int l_turned, .ref l_above, .int l_aboveCount, .ref l_line, .int l_lineCount, .int l_width, .int l_a, .int l_colour, .int l_over, .int l_run])), (l_tree, .inl (ct, 1024, .inl fa))]) hD hS hA [0, 1] rfl
        refine va_callv (va_runV (As := [.int (nI rt), .int (tb_Coder_WHITE_RESTS ia), .int xa]) (rest := []) ⟨hx, hb, hml, hown, hwd⟩ (c_addWord l dC dI tt h0 l_tree l_bytes l_at l_end l_turned l_above l_aboveCount l_line l_lineCount l_width l_a l_colour l_over l_run na ct fa rt (tb_Coder_WHITE_RESTS ia) xa ((tb_Coder_WHITE_RESTS ia).toNatClampNeg) H.size (hTI) (hNd) (hrt) ((tbw_WHITE_RESTS ia haa).1) ((tbw_WHITE_RESTS ia haa).2) (by rw [ea]; exact mg_a ia haa)) (cwV 3 hwd (gV gd_LineReader_addWord wd_4_46 wd_4_48 ws_19 wd_1_15) rfl rfl rfl (by decide +kernel) ⟨Nat.le_of_ble_eq_true rfl, Nat.le_of_ble_eq_true rfl⟩) ⟨fun a U g mk q => by obtain ⟨q0, q1, qP, qK, qD, qF⟩ := q; exact ⟨q0, q1, qP, va_K.moved (u := U) (U := U.calling g mk a) (Vm.Alike.refl U.vm) qK, qD, SF.same (u := U) (U := U.calling g mk a) rfl qF⟩, va_recv hKc hPc (ci := 5) (q0 := 0) rfl rfl, fun U hU hW => ⟨rfl, by rw [hU], by rw [hU]; exact hPc, va_K.moved hW.alike hKc, hDc.weaken (fun _ _ _ _ => trivial), by rw [hU]; exact SF.narrow (SF.moved hW (SF.kept hF (fun a h1 h2 => hS.2.1 a h1 h2))) hFc⟩⟩ rfl rfl hl.1 rfl (lv_room (Nat.le_of_ble_eq_true rfl)) d_LineReader_addRuns_18 ⟨Nat.le_of_ble_eq_true rfl, Nat.le_of_ble_eq_true rfl⟩) hS (fun q _ h => hFc q h) hFc ?_
        clear hPc hDc hKc hS
        intro u_13 t H1 locs ht hvm hw hB hz1 hk1 hS
        obtain ⟨g_14, nd2_15⟩ := u_13
        obtain ⟨hP1, hK1, hD1⟩ := hB
        rw [ht] at hP1
        have hK1 := va_K.moved hvm.symm hK1
        try dsimp only at hw
        have hJ := va_join (wr := []) (w1 := [(h0, .inr (5, [.ref l_tree, .int (nI nd2_15), .ref l_bytes, .int l_at, .int l_end, .int l_turned, .ref l_above, .int l_aboveCount, .ref l_line, .int l_lineCount, .int l_width, .int l_a, .int l_colour, .int l_over, .int l_run])), (l_tree, .inl (ct, 1024, .inl g_14))]) hP hD [0, 1] [] rfl rfl (by decide) (by decide) hk1 hFc hP1 hD1
        clear hP hD hk1 hFc hP1 hD1 hz1
        obtain ⟨hP, hD⟩ := hJ
        clear hK1 ht hvm
        generalize H1 = H at hP hS ⊢
        replace hP : va_P (dC, dI) vcl [(h0, .inr (5, [.ref l_tree, .int (nI nd2_15), .ref l_bytes, .int l_at, .int l_end, .int l_turned, .ref l_above, .int l_aboveCount, .ref l_line, .int l_lineCount, .int l_width, .int l_a, .int l_colour, .int l_over, .int l_run])), (l_tree, .inl (ct, 1024, .inl g_14))] H := hP
        replace hD : va_D A [(h0, .inr (5, [.ref l_tree, .int (nI nd2_15), .ref l_bytes, .int l_at, .int l_end, .int l_turned, .ref l_above, .int l_aboveCount, .ref l_line, .int l_lineCount, .int l_width, .int l_a, .int l_colour, .int l_over, .int l_run])), (l_tree, .inl (ct, 1024, .inl g_14))] := hD
        obtain ⟨hTI, hNd⟩ := hw
        refine lv_iinc (v := xa + 1) (lv' := [(4, .int (xa + 1)), (0, .ref h0), (1, .int (nI rt)), (2, .ref (tt 8)), (3, .ref (tt 9))]) hx hb d_LineReader_addRuns_21 hl (k := 4) rfl rfl (by decide) rfl ?_
        clear hl
        intro ls hl
        refine lv_goto (tgt := 3) hx hb d_LineReader_addRuns_24 (by decide) ?_
        exact ih (ia + 1) (xa + 1) nd2_15 g_14 (by rw [ea]; exact nI_1 ia) (hTI) (hNd) (by omega) (by omega) _ _ _ hK hP hD hS (lv_sub hl [1, 2, 3, 4, 0] rfl)
  exact cut3 (65) 0 0 nd f (rfl) (hTI) (hNd) (by omega) (Nat.zero_le _) _ _ _ hK hP hD hS (lv_sub hl [1, 2, 3, 4, 0] rfl)

abbrev at_c_addRuns_BLACK (dC : Nat → ClassId) (dI : Nat → Nat → Nat) (h0 : Nat) (l_tree : Nat) (l_bytes : Nat) (l_at : Int32) (l_end : Int32) (l_turned : Int32) (l_above : Nat) (l_aboveCount : Int32) (l_line : Nat) (l_lineCount : Int32) (l_width : Int32) (l_a : Int32) (l_colour : Int32) (l_over : Int32) (l_run : Int32) (nd : Nat) (ct : ClassId) (f : Nat → Int32) (rt : Nat) (A : Nat → Prop) (u : (Nat → Int32) × Nat) (t : State) : Prop := match u with
  | (g, nd2) => va_P (dC, dI) vcl [(h0, .inr (5, [.ref l_tree, .int (nI nd2), .ref l_bytes, .int l_at, .int l_end, .int l_turned, .ref l_above, .int l_aboveCount, .ref l_line, .int l_lineCount, .int l_width, .int l_a, .int l_colour, .int l_over, .int l_run])), (l_tree, .inl (ct, 1024, .inl g))] t.heap ∧ va_K (dC, dI) vcl [(ct, .int)] t ∧ va_D A [(h0, .inr (5, [.ref l_tree, .int (nI nd2), .ref l_bytes, .int l_at, .int l_end, .int l_turned, .ref l_above, .int l_aboveCount, .ref l_line, .int l_lineCount, .int l_width, .int l_a, .int l_colour, .int l_over, .int l_run])), (l_tree, .inl (ct, 1024, .inl g))]
abbrev po_c_addRuns_BLACK (h0 : Nat) (l_tree : Nat) (l_bytes : Nat) (l_at : Int32) (l_end : Int32) (l_turned : Int32) (l_above : Nat) (l_aboveCount : Int32) (l_line : Nat) (l_lineCount : Int32) (l_width : Int32) (l_a : Int32) (l_colour : Int32) (l_over : Int32) (l_run : Int32) (nd : Nat) (ct : ClassId) (f : Nat → Int32) (rt : Nat) (u : (Nat → Int32) × Nat) : Prop := match u with
  | (g, nd2) => (∀ i, i < 1024 → (g i).toInt < 512) ∧ nd2 ≤ 512
abbrev q_c_addRuns_BLACK (dC : Nat → ClassId) (dI : Nat → Nat → Nat) (h0 : Nat) (l_tree : Nat) (l_bytes : Nat) (l_at : Int32) (l_end : Int32) (l_turned : Int32) (l_above : Nat) (l_aboveCount : Int32) (l_line : Nat) (l_lineCount : Int32) (l_width : Int32) (l_a : Int32) (l_colour : Int32) (l_over : Int32) (l_run : Int32) (nd : Nat) (ct : ClassId) (f : Nat → Int32) (rt : Nat) (A : Nat → Prop) : Array Value → State → Outcome → State → Prop := va_Qv (po_c_addRuns_BLACK h0 l_tree l_bytes l_at l_end l_turned l_above l_aboveCount l_line l_lineCount l_width l_a l_colour l_over l_run nd ct f rt) (at_c_addRuns_BLACK dC dI h0 l_tree l_bytes l_at l_end l_turned l_above l_aboveCount l_line l_lineCount l_width l_a l_colour l_over l_run nd ct f rt A) A
abbrev rm_c_addRuns_BLACK : Room := { frames := 2, cells := 0, slots := 0, locals := 48 }
set_option maxHeartbeats 4000000 in
set_option maxRecDepth 100000 in
theorem c_addRuns_BLACK (l : Launch) (dC : Nat → ClassId) (dI : Nat → Nat → Nat) (tt : Nat → Nat) (h0 : Nat) (l_tree : Nat) (l_bytes : Nat) (l_at : Int32) (l_end : Int32) (l_turned : Int32) (l_above : Nat) (l_aboveCount : Int32) (l_line : Nat) (l_lineCount : Int32) (l_width : Int32) (l_a : Int32) (l_colour : Int32) (l_over : Int32) (l_run : Int32) (nd : Nat) (ct : ClassId) (f : Nat → Int32) (rt : Nat) (sz : Nat) (hTI : ∀ i, i < 1024 → (f i).toInt < 512) (hNd : nd ≤ 512) (hrt : rt < 512) : Met l y_LineReader_addRuns w_LineReader_addRuns rm_c_addRuns_BLACK (va_Pc [.ref h0, .int (nI rt), .ref (tt 11), .ref (tt 12)] (fun U => U.heap.size = sz ∧ va_P (dC, dI) vcl [(h0, .inr (5, [.ref l_tree, .int (nI nd), .ref l_bytes, .int l_at, .int l_end, .int l_turned, .ref l_above, .int l_aboveCount, .ref l_line, .int l_lineCount, .int l_width, .int l_a, .int l_colour, .int l_over, .int l_run])), (l_tree, .inl (ct, 1024, .inl f))] U.heap ∧ va_K (dC, dI) vcl [(ct, .int)] U ∧ va_D (fun _ => True) [(h0, .inr (5, [.ref l_tree, .int (nI nd), .ref l_bytes, .int l_at, .int l_end, .int l_turned, .ref l_above, .int l_aboveCount, .ref l_line, .int l_lineCount, .int l_width, .int l_a, .int l_colour, .int l_over, .int l_run])), (l_tree, .inl (ct, 1024, .inl f))] ∧ SF tt (va_A [(h0, .inr (5, [.ref l_tree, .int (nI nd), .ref l_bytes, .int l_at, .int l_end, .int l_turned, .ref l_above, .int l_aboveCount, .ref l_line, .int l_lineCount, .int l_width, .int l_a, .int l_colour, .int l_over, .int l_run])), (l_tree, .inl (ct, 1024, .inl f))] sz) U U.heap)) (q_c_addRuns_BLACK dC dI h0 l_tree l_bytes l_at l_end l_turned l_above l_aboveCount l_line l_lineCount l_width l_a l_colour l_over l_run nd ct f rt (va_A [(h0, .inr (5, [.ref l_tree, .int (nI nd), .ref l_bytes, .int l_at, .int l_end, .int l_turned, .ref l_above, .int l_aboveCount, .ref l_line, .int l_lineCount, .int l_width, .int l_a, .int l_colour, .int l_over, .int l_run])), (l_tree, .inl (ct, 1024, .inl f))] sz)) 0 0 (va_A [(h0, .inr (5, [.ref l_tree, .int (nI nd), .ref l_bytes, .int l_at, .int l_end, .int l_turned, .ref l_above, .int l_aboveCount, .ref l_line, .int l_lineCount, .int l_width, .int l_a, .int l_colour, .int l_over, .int l_run])), (l_tree, .inl (ct, 1024, .inl f))] sz) := by
  refine Met.ofW (cc := b_LineReader_addRuns) (maxL := 5) (ret := none) (by decide) rfl ?_
  intro p e s m args below meth c s₁ B hml hv
  obtain ⟨rfl, hsz, hP, hK, hD0, hF⟩ := hv
  have hx := B.exec
  have hb := B.bytes
  have hr := B.returns
  have hwd : ∀ w ∈ gT, w.before _ s = true := fun w h => atoms_spec (ws := w_LineReader_addRuns) B.pre w (List.mem_cons_of_mem _ h)
  have hown : s.vm.findClass R_LineReader = some m.cls := findClass_of_methodNamed B.named
  have hlocks := B.notSynchronized
  subst hsz
  have hD := hD0.self (sz := s.heap.size)
  generalize hAe : va_A [(h0, .inr (5, [.ref l_tree, .int (nI nd), .ref l_bytes, .int l_at, .int l_end, .int l_turned, .ref l_above, .int l_aboveCount, .ref l_line, .int l_lineCount, .int l_width, .int l_a, .int l_colour, .int l_over, .int l_run])), (l_tree, .inl (ct, 1024, .inl f))] s.heap.size = A at hD hF ⊢
  have hA : ∀ q : Nat, s.heap.size ≤ q → A q := fun q h => by rw [← hAe]; exact Or.inr h
  have hS : va_S A s.heap s.heap [] := va_S.rf
  have hP : va_P (dC, dI) vcl [(h0, .inr (5, [.ref l_tree, .int (nI nd), .ref l_bytes, .int l_at, .int l_end, .int l_turned, .ref l_above, .int l_aboveCount, .ref l_line, .int l_lineCount, .int l_width, .int l_a, .int l_colour, .int l_over, .int l_run])), (l_tree, .inl (ct, 1024, .inl f))] s.heap := hP
  have hl := lv_entry ([.ref h0, .int (nI rt), .ref (tt 11), .ref (tt 12)]) (n := 5) (Nat.le_of_ble_eq_true rfl)
  rw [lg_entry_eq]
  generalize (lg_sl ([.ref h0, .int (nI rt), .ref (tt 11), .ref (tt 12)]) ++ List.replicate (5 - (lg_sl ([.ref h0, .int (nI rt), .ref (tt 11), .ref (tt 12)])).length) Slot.unset).toArray = ls at hl ⊢
  have hl : lv_has ls 5 [(0, .ref h0), (1, .int (nI rt)), (2, .ref (tt 11)), (3, .ref (tt 12))] := hl
  refine lv_iconst (v := 0) hx hb d_LineReader_addRuns_0 (by decide) ?_
  refine lv_istore (lv' := [(4, .int 0), (0, .ref h0), (1, .int (nI rt)), (2, .ref (tt 11)), (3, .ref (tt 12))]) hx hb d_LineReader_addRuns_1 hl (by decide) rfl ?_
  clear hl
  intro ls hl
  have cut3 : ∀ (n : Nat) (ia : Nat) (xa : Int32) (na : Nat) (fa : Nat → Int32), (xa = nI ia) → (∀ i, i < 1024 → (fa i).toInt < 512) → (na ≤ 512) → (64 < ia + n) → (ia ≤ 64) → ∀ (H : Heap) (locs : List Loc) (ls : Array Slot), va_K (dC, dI) vcl [(ct, .int)] s → va_P (dC, dI) vcl [(h0, .inr (5, [.ref l_tree, .int (nI na), .ref l_bytes, .int l_at, .int l_end, .int l_turned, .ref l_above, .int l_aboveCount, .ref l_line, .int l_lineCount, .int l_width, .int l_a, .int l_colour, .int l_over, .int l_run])), (l_tree, .inl (ct, 1024, .inl fa))] H → va_D A [(h0, .inr (5, [.ref l_tree, .int (nI na), .ref l_bytes, .int l_at, .int l_end, .int l_turned, .ref l_above, .int l_aboveCount, .ref l_line, .int l_lineCount, .int l_width, .int l_a, .int l_colour, .int l_over, .int l_run])), (l_tree, .inl (ct, 1024, .inl fa))] → va_S A s.heap H locs → lv_has ls 5 [(0, .ref h0), (1, .int (nI rt)), (2, .ref (tt 11)), (3, .ref (tt 12)), (4, .int xa)] → W p l e (headSpec w_LineReader_addRuns rm_c_addRuns_BLACK).room s m (List.toArray [.ref h0, .int (nI rt), .ref (tt 11), .ref (tt 12)]) below meth c H locs 0 0 (MQ below (q_c_addRuns_BLACK dC dI h0 l_tree l_bytes l_at l_end l_turned l_above l_aboveCount l_line l_lineCount l_width l_a l_colour l_over l_run nd ct f rt A) (List.toArray [.ref h0, .int (nI rt), .ref (tt 11), .ref (tt 12)]) s 0 0 A) (F0 m 3 ls []) := by
    intro n
    induction n with
    | zero =>
      intro ia xa na fa ea hTI hNd hm hia
      exact absurd hm (by omega)
    | succ n ih =>
      intro ia xa na fa ea hTI hNd hm hia H locs ls hK hP hD hS hl
      refine lv_iload hx hb d_LineReader_addRuns_3 (lv_at hl 4 rfl) ?_
      refine lv_aload_n hx hb d_LineReader_addRuns_5 rfl (lv_at hl 2 rfl) ?_
      refine va_tlen (v := 64) hx hb (SF_p11 hF).2 hS rfl d_LineReader_addRuns_6 ?_
      refine lv_icmp_ge (tgt := 27) hx hb d_LineReader_addRuns_7 (by decide) (fun c7 => ?_) (fun c7 => ?_)
      · refine lv_iconst (v := 0) hx hb d_LineReader_addRuns_27 (by decide) ?_
        refine lv_istore (lv' := [(4, .int 0), (0, .ref h0), (1, .int (nI rt)), (2, .ref (tt 11)), (3, .ref (tt 12))]) hx hb d_LineReader_addRuns_28 hl (by decide) rfl ?_
        clear hl
        intro ls hl
        have cut30 : ∀ (n : Nat) (ib : Nat) (xb : Int32) (nb : Nat) (fb : Nat → Int32), (xb = nI ib) → (∀ i, i < 1024 → (fb i).toInt < 512) → (nb ≤ 512) → (27 < ib + n) → (ib ≤ 27) → ∀ (H : Heap) (locs : List Loc) (ls : Array Slot), va_K (dC, dI) vcl [(ct, .int)] s → va_P (dC, dI) vcl [(h0, .inr (5, [.ref l_tree, .int (nI nb), .ref l_bytes, .int l_at, .int l_end, .int l_turned, .ref l_above, .int l_aboveCount, .ref l_line, .int l_lineCount, .int l_width, .int l_a, .int l_colour, .int l_over, .int l_run])), (l_tree, .inl (ct, 1024, .inl fb))] H → va_D A [(h0, .inr (5, [.ref l_tree, .int (nI nb), .ref l_bytes, .int l_at, .int l_end, .int l_turned, .ref l_above, .int l_aboveCount, .ref l_line, .int l_lineCount, .int l_width, .int l_a, .int l_colour, .int l_over, .int l_run])), (l_tree, .inl (ct, 1024, .inl fb))] → va_S A s.heap H locs → lv_has ls 5 [(0, .ref h0), (1, .int (nI rt)), (2, .ref (tt 11)), (3, .ref (tt 12)), (4, .int xb)] → W p l e (headSpec w_LineReader_addRuns rm_c_addRuns_BLACK).room s m (List.toArray [.ref h0, .int (nI rt), .ref (tt 11), .ref (tt 12)]) below meth c H locs 0 0 (MQ below (q_c_addRuns_BLACK dC dI h0 l_tree l_bytes l_at l_end l_turned l_above l_aboveCount l_line l_lineCount l_width l_a l_colour l_over l_run nd ct f rt A) (List.toArray [.ref h0, .int (nI rt), .ref (tt 11), .ref (tt 12)]) s 0 0 A) (F0 m 30 ls []) := by
          intro n
          induction n with
          | zero =>
            intro ib xb nb fb eb hTI hNd hm hib
            exact absurd hm (by omega)
          | succ n ih =>
            intro ib xb nb fb eb hTI hNd hm hib H locs ls hK hP hD hS hl
            refine lv_iload hx hb d_LineReader_addRuns_30 (lv_at hl 4 rfl) ?_
            refine lv_aload_n hx hb d_LineReader_addRuns_32 rfl (lv_at hl 3 rfl) ?_
            refine va_tlen (v := 27) hx hb (SF_p12 hF).2 hS rfl d_LineReader_addRuns_33 ?_
            refine lv_icmp_ge (tgt := 60) hx hb d_LineReader_addRuns_34 (by decide) (fun c34 => ?_) (fun c34 => ?_)
            · refine lv_iconst (v := 0) hx hb d_LineReader_addRuns_60 (by decide) ?_
              refine lv_istore (lv' := [(4, .int 0), (0, .ref h0), (1, .int (nI rt)), (2, .ref (tt 11)), (3, .ref (tt 12))]) hx hb d_LineReader_addRuns_61 hl (by decide) rfl ?_
              clear hl
              intro ls hl
              have cut63 : ∀ (n : Nat) (ic : Nat) (xc : Int32) (nc : Nat) (fd : Nat → Int32), (xc = nI ic) → (∀ i, i < 1024 → (fd i).toInt < 512) → (nc ≤ 512) → (13 < ic + n) → (ic ≤ 13) → ∀ (H : Heap) (locs : List Loc) (ls : Array Slot), va_K (dC, dI) vcl [(ct, .int)] s → va_P (dC, dI) vcl [(h0, .inr (5, [.ref l_tree, .int (nI nc), .ref l_bytes, .int l_at, .int l_end, .int l_turned, .ref l_above, .int l_aboveCount, .ref l_line, .int l_lineCount, .int l_width, .int l_a, .int l_colour, .int l_over, .int l_run])), (l_tree, .inl (ct, 1024, .inl fd))] H → va_D A [(h0, .inr (5, [.ref l_tree, .int (nI nc), .ref l_bytes, .int l_at, .int l_end, .int l_turned, .ref l_above, .int l_aboveCount, .ref l_line, .int l_lineCount, .int l_width, .int l_a, .int l_colour, .int l_over, .int l_run])), (l_tree, .inl (ct, 1024, .inl fd))] → va_S A s.heap H locs → lv_has ls 5 [(0, .ref h0), (1, .int (nI rt)), (2, .ref (tt 11)), (3, .ref (tt 12)), (4, .int xc)] → W p l e (headSpec w_LineReader_addRuns rm_c_addRuns_BLACK).room s m (List.toArray [.ref h0, .int (nI rt), .ref (tt 11), .ref (tt 12)]) below meth c H locs 0 0 (MQ below (q_c_addRuns_BLACK dC dI h0 l_tree l_bytes l_at l_end l_turned l_above l_aboveCount l_line l_lineCount l_width l_a l_colour l_over l_run nd ct f rt A) (List.toArray [.ref h0, .int (nI rt), .ref (tt 11), .ref (tt 12)]) s 0 0 A) (F0 m 63 ls []) := by
                intro n
                induction n with
                | zero =>
                  intro ic xc nc fd ec hTI hNd hm hic
                  exact absurd hm (by omega)
                | succ n ih =>
                  intro ic xc nc fd ec hTI hNd hm hic H locs ls hK hP hD hS hl
                  refine lv_iload hx hb d_LineReader_addRuns_63 (lv_at hl 4 rfl) ?_
                  refine va_gets hx hb (SF_p10 hF).1 hS hown (hwd _ wd_4_64) (fun _ h9 => h9) d_LineReader_addRuns_65 ?_
                  refine va_tlen (v := 13) hx hb (SF_p10 hF).2 hS rfl d_LineReader_addRuns_68 ?_
                  refine lv_icmp_ge (tgt := 98) hx hb d_LineReader_addRuns_69 (by decide) (fun c69 => ?_) (fun c69 => ?_)
                  · have hP9 := hP.sub (ws' := [(h0, .inr (5, [.ref l_tree, .int (nI nc), .ref l_bytes, .int l_at, .int l_end, .int l_turned, .ref l_above, .int l_aboveCount, .ref l_line, .int l_lineCount, .int l_width, .int l_a, .int l_colour, .int l_over, .int l_run])), (l_tree, .inl (ct, 1024, .inl fd))]) [0, 1] rfl
                    have hD9 := hD.sub (ws' := [(h0, .inr (5, [.ref l_tree, .int (nI nc), .ref l_bytes, .int l_at, .int l_end, .int l_turned, .ref l_above, .int l_aboveCount, .ref l_line, .int l_lineCount, .int l_width, .int l_a, .int l_colour, .int l_over, .int l_run])), (l_tree, .inl (ct, 1024, .inl fd))]) [0, 1] (by decide) rfl
                    have hK9 := hK.sub (tys' := [(ct, .int)]) [0] rfl
                    exact W.vret hx hb hr (fun t ht hW => ⟨⟨(fd, nc), rfl, (show (∀ i, i < 1024 → ((fd : Nat → Int32) i).toInt < 512) ∧ (nc : Nat) ≤ 512 from (⟨hTI, hNd⟩)), by rw [ht]; exact hP9, va_K.moved hW.alike hK9, hD9⟩, hS.F ht⟩) hS.2.2 d_LineReader_addRuns_98
                  · have hcc : ic < 13 := by
                      rcases Nat.lt_or_ge ic 13 with q9 | q9
                      · exact q9
                      · exact absurd (by rw [ec]; exact nI_le (a := 13) q9 (by omega)) c69
                    refine lv_aload_n hx hb d_LineReader_addRuns_72 rfl (lv_at hl 0 rfl) ?_
                    refine lv_iload_n hx hb d_LineReader_addRuns_73 rfl (lv_at hl 1 rfl) ?_
                    refine va_gets hx hb (SF_p10 hF).1 hS hown (hwd _ wd_4_64) (fun _ h9 => h9) d_LineReader_addRuns_74 ?_
                    refine lv_iload hx hb d_LineReader_addRuns_77 (lv_at hl 4 rfl) ?_
                    refine va_ti (v := .int (tb_Coder_LONG_BLOCKS xc.toNatClampNeg)) hx hb (SF_p10 hF).2 hS (by rw [ec]; exact vp_in_nI hcc (by omega)) rfl d_LineReader_addRuns_79 ?_
                    refine lv_topi (fun y_1 ey_1 => ?_)
                    obtain rfl : y_1 = tb_Coder_LONG_BLOCKS ic := ey_1.trans (by rw [ec, nI_clamp (by omega)])
                    refine lv_sipush (v := 1792) hx hb d_LineReader_addRuns_80 (by decide) ?_
                    refine lv_bipush (v := 64) hx hb d_LineReader_addRuns_83 (by decide) ?_
                    refine lv_iload hx hb d_LineReader_addRuns_85 (lv_at hl 4 rfl) ?_
                    refine lv_imul hx hb d_LineReader_addRuns_87 ?_
                    refine lv_iadd hx hb d_LineReader_addRuns_88 ?_
                    have hPc := hP.sub (ws' := [(h0, .inr (5, [.ref l_tree, .int (nI nc), .ref l_bytes, .int l_at, .int l_end, .int l_turned, .ref l_above, .int l_aboveCount, .ref l_line, .int l_lineCount, .int l_width, .int l_a, .int l_colour, .int l_over, .int l_run])), (l_tree, .inl (ct, 1024, .inl fd))]) [0, 1] rfl
                    have hDc := hD.sub (ws' := [(h0, .inr (5, [.ref l_tree, .int (nI nc), .ref l_bytes, .int l_at, .int l_end, .int l_turned, .ref l_above, .int l_aboveCount, .ref l_line, .int l_lineCount, .int l_width, .int l_a, .int l_colour, .int l_over, .int l_run])), (l_tree, .inl (ct, 1024, .inl fd))]) [0, 1] (by decide) rfl
                    have hKc := hK.sub (tys' := [(ct, .int)]) [0] rfl
                    have hFc := va_free (wc := [(h0, .inr (5, [.ref l_tree, .int (nI nc), .ref l_bytes, .int l_at, .int l_end, .int l_turned, .ref l_above, .int l_aboveCount, .ref l_line, .int l_lineCount, .int l_width, .int l_a, .int l_colour, .int l_over, .int l_run])), (l_tree, .inl (ct, 1024, .inl fd))]) hD hS hA [0, 1] rfl
                    refine va_callv (va_runV (As := [.int (nI rt), .int (tb_Coder_LONG_BLOCKS ic), .int (1792 + (64 * xc))]) (rest := []) ⟨hx, hb, hml, hown, hwd⟩ (c_addWord l dC dI tt h0 l_tree l_bytes l_at l_end l_turned l_above l_aboveCount l_line l_lineCount l_width l_a l_colour l_over l_run nc ct fd rt (tb_Coder_LONG_BLOCKS ic) (1792 + (64 * xc)) ((tb_Coder_LONG_BLOCKS ic).toNatClampNeg) H.size (hTI) (hNd) (hrt) ((tbw_LONG_BLOCKS ic hcc).1) ((tbw_LONG_BLOCKS ic hcc).2) (by rw [ec]; exact mg_c ic hcc)) (cwV 3 hwd (gV gd_LineReader_addWord wd_4_46 wd_4_48 ws_19 wd_1_15) rfl rfl rfl (by decide +kernel) ⟨Nat.le_of_ble_eq_true rfl, Nat.le_of_ble_eq_true rfl⟩) ⟨fun a U g mk q => by obtain ⟨q0, q1, qP, qK, qD, qF⟩ := q; exact ⟨q0, q1, qP, va_K.moved (u := U) (U := U.calling g mk a) (Vm.Alike.refl U.vm) qK, qD, SF.same (u := U) (U := U.calling g mk a) rfl qF⟩, va_recv hKc hPc (ci := 5) (q0 := 0) rfl rfl, fun U hU hW => ⟨rfl, by rw [hU], by rw [hU]; exact hPc, va_K.moved hW.alike hKc, hDc.weaken (fun _ _ _ _ => trivial), by rw [hU]; exact SF.narrow (SF.moved hW (SF.kept hF (fun a h1 h2 => hS.2.1 a h1 h2))) hFc⟩⟩ rfl rfl hl.1 rfl (lv_room (Nat.le_of_ble_eq_true rfl)) d_LineReader_addRuns_89 ⟨Nat.le_of_ble_eq_true rfl, Nat.le_of_ble_eq_true rfl⟩) hS (fun q _ h => hFc q h) hFc ?_
                    clear hPc hDc hKc hS
                    intro u_3 t H1 locs ht hvm hw hB hz1 hk1 hS
                    obtain ⟨g_4, nd2_5⟩ := u_3
                    obtain ⟨hP1, hK1, hD1⟩ := hB
                    rw [ht] at hP1
                    have hK1 := va_K.moved hvm.symm hK1
                    try dsimp only at hw
                    have hJ := va_join (wr := []) (w1 := [(h0, .inr (5, [.ref l_tree, .int (nI nd2_5), .ref l_bytes, .int l_at, .int l_end, .int l_turned, .ref l_above, .int l_aboveCount, .ref l_line, .int l_lineCount, .int l_width, .int l_a, .int l_colour, .int l_over, .int l_run])), (l_tree, .inl (ct, 1024, .inl g_4))]) hP hD [0, 1] [] rfl rfl (by decide) (by decide) hk1 hFc hP1 hD1
                    clear hP hD hk1 hFc hP1 hD1 hz1
                    obtain ⟨hP, hD⟩ := hJ
                    clear hK1 ht hvm
                    generalize H1 = H at hP hS ⊢
                    replace hP : va_P (dC, dI) vcl [(h0, .inr (5, [.ref l_tree, .int (nI nd2_5), .ref l_bytes, .int l_at, .int l_end, .int l_turned, .ref l_above, .int l_aboveCount, .ref l_line, .int l_lineCount, .int l_width, .int l_a, .int l_colour, .int l_over, .int l_run])), (l_tree, .inl (ct, 1024, .inl g_4))] H := hP
                    replace hD : va_D A [(h0, .inr (5, [.ref l_tree, .int (nI nd2_5), .ref l_bytes, .int l_at, .int l_end, .int l_turned, .ref l_above, .int l_aboveCount, .ref l_line, .int l_lineCount, .int l_width, .int l_a, .int l_colour, .int l_over, .int l_run])), (l_tree, .inl (ct, 1024, .inl g_4))] := hD
                    obtain ⟨hTI, hNd⟩ := hw
                    refine lv_iinc (v := xc + 1) (lv' := [(4, .int (xc + 1)), (0, .ref h0), (1, .int (nI rt)), (2, .ref (tt 11)), (3, .ref (tt 12))]) hx hb d_LineReader_addRuns_92 hl (k := 4) rfl rfl (by decide) rfl ?_
                    clear hl
                    intro ls hl
                    refine lv_goto (tgt := 63) hx hb d_LineReader_addRuns_95 (by decide) ?_
                    exact ih (ic + 1) (xc + 1) nd2_5 g_4 (by rw [ec]; exact nI_1 ic) (hTI) (hNd) (by omega) (by omega) _ _ _ hK hP hD hS (lv_sub hl [1, 2, 3, 4, 0] rfl)
              exact cut63 (14) 0 0 nb fb (rfl) (hTI) (hNd) (by omega) (Nat.zero_le _) _ _ _ hK hP hD hS (lv_sub hl [1, 2, 3, 4, 0] rfl)
            · have hbb : ib < 27 := by
                rcases Nat.lt_or_ge ib 27 with q9 | q9
                · exact q9
                · exact absurd (by rw [eb]; exact nI_le (a := 27) q9 (by omega)) c34
              refine lv_aload_n hx hb d_LineReader_addRuns_37 rfl (lv_at hl 0 rfl) ?_
              refine lv_iload_n hx hb d_LineReader_addRuns_38 rfl (lv_at hl 1 rfl) ?_
              refine lv_aload_n hx hb d_LineReader_addRuns_39 rfl (lv_at hl 3 rfl) ?_
              refine lv_iload hx hb d_LineReader_addRuns_40 (lv_at hl 4 rfl) ?_
              refine va_ti (v := .int (tb_Coder_BLACK_BLOCKS xb.toNatClampNeg)) hx hb (SF_p12 hF).2 hS (by rw [eb]; exact vp_in_nI hbb (by omega)) rfl d_LineReader_addRuns_42 ?_
              refine lv_topi (fun y_6 ey_6 => ?_)
              obtain rfl : y_6 = tb_Coder_BLACK_BLOCKS ib := ey_6.trans (by rw [eb, nI_clamp (by omega)])
              refine lv_bipush (v := 64) hx hb d_LineReader_addRuns_43 (by decide) ?_
              refine lv_bipush (v := 64) hx hb d_LineReader_addRuns_45 (by decide) ?_
              refine lv_iload hx hb d_LineReader_addRuns_47 (lv_at hl 4 rfl) ?_
              refine lv_imul hx hb d_LineReader_addRuns_49 ?_
              refine lv_iadd hx hb d_LineReader_addRuns_50 ?_
              have hPc := hP.sub (ws' := [(h0, .inr (5, [.ref l_tree, .int (nI nb), .ref l_bytes, .int l_at, .int l_end, .int l_turned, .ref l_above, .int l_aboveCount, .ref l_line, .int l_lineCount, .int l_width, .int l_a, .int l_colour, .int l_over, .int l_run])), (l_tree, .inl (ct, 1024, .inl fb))]) [0, 1] rfl
              have hDc := hD.sub (ws' := [(h0, .inr (5, [.ref l_tree, .int (nI nb), .ref l_bytes, .int l_at, .int l_end, .int l_turned, .ref l_above, .int l_aboveCount, .ref l_line, .int l_lineCount, .int l_width, .int l_a, .int l_colour, .int l_over, .int l_run])), (l_tree, .inl (ct, 1024, .inl fb))]) [0, 1] (by decide) rfl
              have hKc := hK.sub (tys' := [(ct, .int)]) [0] rfl
              have hFc := va_free (wc := [(h0, .inr (5, [.ref l_tree, .int (nI nb), .ref l_bytes, .int l_at, .int l_end, .int l_turned, .ref l_above, .int l_aboveCount, .ref l_line, .int l_lineCount, .int l_width, .int l_a, .int l_colour, .int l_over, .int l_run])), (l_tree, .inl (ct, 1024, .inl fb))]) hD hS hA [0, 1] rfl
              refine va_callv (va_runV (As := [.int (nI rt), .int (tb_Coder_BLACK_BLOCKS ib), .int (64 + (64 * xb))]) (rest := []) ⟨hx, hb, hml, hown, hwd⟩ (c_addWord l dC dI tt h0 l_tree l_bytes l_at l_end l_turned l_above l_aboveCount l_line l_lineCount l_width l_a l_colour l_over l_run nb ct fb rt (tb_Coder_BLACK_BLOCKS ib) (64 + (64 * xb)) ((tb_Coder_BLACK_BLOCKS ib).toNatClampNeg) H.size (hTI) (hNd) (hrt) ((tbw_BLACK_BLOCKS ib hbb).1) ((tbw_BLACK_BLOCKS ib hbb).2) (by rw [eb]; exact mg_b ib hbb)) (cwV 3 hwd (gV gd_LineReader_addWord wd_4_46 wd_4_48 ws_19 wd_1_15) rfl rfl rfl (by decide +kernel) ⟨Nat.le_of_ble_eq_true rfl, Nat.le_of_ble_eq_true rfl⟩) ⟨fun a U g mk q => by obtain ⟨q0, q1, qP, qK, qD, qF⟩ := q; exact ⟨q0, q1, qP, va_K.moved (u := U) (U := U.calling g mk a) (Vm.Alike.refl U.vm) qK, qD, SF.same (u := U) (U := U.calling g mk a) rfl qF⟩, va_recv hKc hPc (ci := 5) (q0 := 0) rfl rfl, fun U hU hW => ⟨rfl, by rw [hU], by rw [hU]; exact hPc, va_K.moved hW.alike hKc, hDc.weaken (fun _ _ _ _ => trivial), by rw [hU]; exact SF.narrow (SF.moved hW (SF.kept hF (fun a h1 h2 => hS.2.1 a h1 h2))) hFc⟩⟩ rfl rfl hl.1 rfl (lv_room (Nat.le_of_ble_eq_true rfl)) d_LineReader_addRuns_51 ⟨Nat.le_of_ble_eq_true rfl, Nat.le_of_ble_eq_true rfl⟩) hS (fun q _ h => hFc q h) hFc ?_
              clear hPc hDc hKc hS
              intro u_8 t H1 locs ht hvm hw hB hz1 hk1 hS
              obtain ⟨g_9, nd2_10⟩ := u_8
              obtain ⟨hP1, hK1, hD1⟩ := hB
              rw [ht] at hP1
              have hK1 := va_K.moved hvm.symm hK1
              try dsimp only at hw
              have hJ := va_join (wr := []) (w1 := [(h0, .inr (5, [.ref l_tree, .int (nI nd2_10), .ref l_bytes, .int l_at, .int l_end, .int l_turned, .ref l_above, .int l_aboveCount, .ref l_line, .int l_lineCount, .int l_width, .int l_a, .int l_colour, .int l_over, .int l_run])), (l_tree, .inl (ct, 1024, .inl g_9))]) hP hD [0, 1] [] rfl rfl (by decide) (by decide) hk1 hFc hP1 hD1
              clear hP hD hk1 hFc hP1 hD1 hz1
              obtain ⟨hP, hD⟩ := hJ
              clear hK1 ht hvm
              generalize H1 = H at hP hS ⊢
              replace hP : va_P (dC, dI) vcl [(h0, .inr (5, [.ref l_tree, .int (nI nd2_10), .ref l_bytes, .int l_at, .int l_end, .int l_turned, .ref l_above, .int l_aboveCount, .ref l_line, .int l_lineCount, .int l_width, .int l_a, .int l_colour, .int l_over, .int l_run])), (l_tree, .inl (ct, 1024, .inl g_9))] H := hP
              replace hD : va_D A [(h0, .inr (5, [.ref l_tree, .int (nI nd2_10), .ref l_bytes, .int l_at, .int l_end, .int l_turned, .ref l_above, .int l_aboveCount, .ref l_line, .int l_lineCount, .int l_width, .int l_a, .int l_colour, .int l_over, .int l_run])), (l_tree, .inl (ct, 1024, .inl g_9))] := hD
              obtain ⟨hTI, hNd⟩ := hw
              refine lv_iinc (v := xb + 1) (lv' := [(4, .int (xb + 1)), (0, .ref h0), (1, .int (nI rt)), (2, .ref (tt 11)), (3, .ref (tt 12))]) hx hb d_LineReader_addRuns_54 hl (k := 4) rfl rfl (by decide) rfl ?_
              clear hl
              intro ls hl
              refine lv_goto (tgt := 30) hx hb d_LineReader_addRuns_57 (by decide) ?_
              exact ih (ib + 1) (xb + 1) nd2_10 g_9 (by rw [eb]; exact nI_1 ib) (hTI) (hNd) (by omega) (by omega) _ _ _ hK hP hD hS (lv_sub hl [1, 2, 3, 4, 0] rfl)
        exact cut30 (28) 0 0 na fa (rfl) (hTI) (hNd) (by omega) (Nat.zero_le _) _ _ _ hK hP hD hS (lv_sub hl [1, 2, 3, 4, 0] rfl)
      · have haa : ia < 64 := by
          rcases Nat.lt_or_ge ia 64 with q9 | q9
          · exact q9
          · exact absurd (by rw [ea]; exact nI_le (a := 64) q9 (by omega)) c7
        refine lv_aload_n hx hb d_LineReader_addRuns_10 rfl (lv_at hl 0 rfl) ?_
        refine lv_iload_n hx hb d_LineReader_addRuns_11 rfl (lv_at hl 1 rfl) ?_
        refine lv_aload_n hx hb d_LineReader_addRuns_12 rfl (lv_at hl 2 rfl) ?_
        refine lv_iload hx hb d_LineReader_addRuns_13 (lv_at hl 4 rfl) ?_
        refine va_ti (v := .int (tb_Coder_BLACK_RESTS xa.toNatClampNeg)) hx hb (SF_p11 hF).2 hS (by rw [ea]; exact vp_in_nI haa (by omega)) rfl d_LineReader_addRuns_15 ?_
        refine lv_topi (fun y_11 ey_11 => ?_)
        obtain rfl : y_11 = tb_Coder_BLACK_RESTS ia := ey_11.trans (by rw [ea, nI_clamp (by omega)])
        refine lv_iload hx hb d_LineReader_addRuns_16 (lv_at hl 4 rfl) ?_
        have hPc := hP.sub (ws' := [(h0, .inr (5, [.ref l_tree, .int (nI na), .ref l_bytes, .int l_at, .int l_end, .int l_turned, .ref l_above, .int l_aboveCount, .ref l_line, .int l_lineCount, .int l_width, .int l_a, .int l_colour, .int l_over, .int l_run])), (l_tree, .inl (ct, 1024, .inl fa))]) [0, 1] rfl
        have hDc := hD.sub (ws' := [(h0, .inr (5, [.ref l_tree, .int (nI na), .ref l_bytes, .int l_at, .int l_end, .int l_turned, .ref l_above, .int l_aboveCount, .ref l_line, .int l_lineCount, .int l_width, .int l_a, .int l_colour, .int l_over, .int l_run])), (l_tree, .inl (ct, 1024, .inl fa))]) [0, 1] (by decide) rfl
        have hKc := hK.sub (tys' := [(ct, .int)]) [0] rfl
        have hFc := va_free (wc := [(h0, .inr (5, [.ref l_tree, .int (nI na), .ref l_bytes, .int l_at, .int l_end, .int l_turned, .ref l_above, .int l_aboveCount, .ref l_line, .int l_lineCount, .int l_width, .int l_a, .int l_colour, .int l_over, .int l_run])), (l_tree, .inl (ct, 1024, .inl fa))]) hD hS hA [0, 1] rfl
        refine va_callv (va_runV (As := [.int (nI rt), .int (tb_Coder_BLACK_RESTS ia), .int xa]) (rest := []) ⟨hx, hb, hml, hown, hwd⟩ (c_addWord l dC dI tt h0 l_tree l_bytes l_at l_end l_turned l_above l_aboveCount l_line l_lineCount l_width l_a l_colour l_over l_run na ct fa rt (tb_Coder_BLACK_RESTS ia) xa ((tb_Coder_BLACK_RESTS ia).toNatClampNeg) H.size (hTI) (hNd) (hrt) ((tbw_BLACK_RESTS ia haa).1) ((tbw_BLACK_RESTS ia haa).2) (by rw [ea]; exact mg_a ia haa)) (cwV 3 hwd (gV gd_LineReader_addWord wd_4_46 wd_4_48 ws_19 wd_1_15) rfl rfl rfl (by decide +kernel) ⟨Nat.le_of_ble_eq_true rfl, Nat.le_of_ble_eq_true rfl⟩) ⟨fun a U g mk q => by obtain ⟨q0, q1, qP, qK, qD, qF⟩ := q; exact ⟨q0, q1, qP, va_K.moved (u := U) (U := U.calling g mk a) (Vm.Alike.refl U.vm) qK, qD, SF.same (u := U) (U := U.calling g mk a) rfl qF⟩, va_recv hKc hPc (ci := 5) (q0 := 0) rfl rfl, fun U hU hW => ⟨rfl, by rw [hU], by rw [hU]; exact hPc, va_K.moved hW.alike hKc, hDc.weaken (fun _ _ _ _ => trivial), by rw [hU]; exact SF.narrow (SF.moved hW (SF.kept hF (fun a h1 h2 => hS.2.1 a h1 h2))) hFc⟩⟩ rfl rfl hl.1 rfl (lv_room (Nat.le_of_ble_eq_true rfl)) d_LineReader_addRuns_18 ⟨Nat.le_of_ble_eq_true rfl, Nat.le_of_ble_eq_true rfl⟩) hS (fun q _ h => hFc q h) hFc ?_
        clear hPc hDc hKc hS
        intro u_13 t H1 locs ht hvm hw hB hz1 hk1 hS
        obtain ⟨g_14, nd2_15⟩ := u_13
        obtain ⟨hP1, hK1, hD1⟩ := hB
        rw [ht] at hP1
        have hK1 := va_K.moved hvm.symm hK1
        try dsimp only at hw
        have hJ := va_join (wr := []) (w1 := [(h0, .inr (5, [.ref l_tree, .int (nI nd2_15), .ref l_bytes, .int l_at, .int l_end, .int l_turned, .ref l_above, .int l_aboveCount, .ref l_line, .int l_lineCount, .int l_width, .int l_a, .int l_colour, .int l_over, .int l_run])), (l_tree, .inl (ct, 1024, .inl g_14))]) hP hD [0, 1] [] rfl rfl (by decide) (by decide) hk1 hFc hP1 hD1
        clear hP hD hk1 hFc hP1 hD1 hz1
        obtain ⟨hP, hD⟩ := hJ
        clear hK1 ht hvm
        generalize H1 = H at hP hS ⊢
        replace hP : va_P (dC, dI) vcl [(h0, .inr (5, [.ref l_tree, .int (nI nd2_15), .ref l_bytes, .int l_at, .int l_end, .int l_turned, .ref l_above, .int l_aboveCount, .ref l_line, .int l_lineCount, .int l_width, .int l_a, .int l_colour, .int l_over, .int l_run])), (l_tree, .inl (ct, 1024, .inl g_14))] H := hP
        replace hD : va_D A [(h0, .inr (5, [.ref l_tree, .int (nI nd2_15), .ref l_bytes, .int l_at, .int l_end, .int l_turned, .ref l_above, .int l_aboveCount, .ref l_line, .int l_lineCount, .int l_width, .int l_a, .int l_colour, .int l_over, .int l_run])), (l_tree, .inl (ct, 1024, .inl g_14))] := hD
        obtain ⟨hTI, hNd⟩ := hw
        refine lv_iinc (v := xa + 1) (lv' := [(4, .int (xa + 1)), (0, .ref h0), (1, .int (nI rt)), (2, .ref (tt 11)), (3, .ref (tt 12))]) hx hb d_LineReader_addRuns_21 hl (k := 4) rfl rfl (by decide) rfl ?_
        clear hl
        intro ls hl
        refine lv_goto (tgt := 3) hx hb d_LineReader_addRuns_24 (by decide) ?_
        exact ih (ia + 1) (xa + 1) nd2_15 g_14 (by rw [ea]; exact nI_1 ia) (hTI) (hNd) (by omega) (by omega) _ _ _ hK hP hD hS (lv_sub hl [1, 2, 3, 4, 0] rfl)
  exact cut3 (65) 0 0 nd f (rfl) (hTI) (hNd) (by omega) (Nat.zero_le _) _ _ _ hK hP hD hS (lv_sub hl [1, 2, 3, 4, 0] rfl)

abbrev at_c_LineReader_init (dC : Nat → ClassId) (dI : Nat → Nat → Nat) (h0 : Nat) (tp : Nat) (A : Nat → Prop) (u : (Nat → Int32) × Nat) (t : State) : Prop := match u with
  | (g, nd2) => ∃ (q_3 : Nat) (q_5 : Nat) (q_1 : Nat) (cA_4 : ClassId) (cA_6 : ClassId) (cA_2 : ClassId), va_P (dC, dI) vcl [(h0, .inr (5, [.ref q_1, .int (nI nd2), .ref tp, .int 0, .int 0, .int 0, .ref q_3, .int 0, .ref q_5, .int 0, .int 0, .int 0, .int 0, .int 0, .int 0])), (q_3, .inl (cA_4, 10000, .inl (fun _ => 0))), (q_5, .inl (cA_6, 10000, .inl (fun _ => 0))), (q_1, .inl (cA_2, 1024, .inl g))] t.heap ∧ va_K (dC, dI) vcl [(cA_4, .int), (cA_6, .int), (cA_2, .int)] t ∧ va_D A [(h0, .inr (5, [.ref q_1, .int (nI nd2), .ref tp, .int 0, .int 0, .int 0, .ref q_3, .int 0, .ref q_5, .int 0, .int 0, .int 0, .int 0, .int 0, .int 0])), (q_3, .inl (cA_4, 10000, .inl (fun _ => 0))), (q_5, .inl (cA_6, 10000, .inl (fun _ => 0))), (q_1, .inl (cA_2, 1024, .inl g))]
abbrev po_c_LineReader_init (h0 : Nat) (tp : Nat) (u : (Nat → Int32) × Nat) : Prop := match u with
  | (g, nd2) => (∀ i, i < 1024 → (g i).toInt < 512) ∧ nd2 ≤ 512
abbrev q_c_LineReader_init (dC : Nat → ClassId) (dI : Nat → Nat → Nat) (h0 : Nat) (tp : Nat) (A : Nat → Prop) : Array Value → State → Outcome → State → Prop := va_Qv (po_c_LineReader_init h0 tp) (at_c_LineReader_init dC dI h0 tp A) A
abbrev rm_c_LineReader_init : Room := { frames := 3, cells := 3, slots := 21024, locals := 72 }
set_option maxHeartbeats 4000000 in
set_option maxRecDepth 100000 in
theorem c_LineReader_init (l : Launch) (dC : Nat → ClassId) (dI : Nat → Nat → Nat) (tt : Nat → Nat) (h0 : Nat) (tp : Nat) (sz : Nat)  : Met l y_LineReader_init w_LineReader_init rm_c_LineReader_init (va_Pc [.ref h0, .ref tp] (fun U => U.heap.size = sz ∧ va_P (dC, dI) vcl [(h0, .inr (5, [.null, .int 0, .null, .int 0, .int 0, .int 0, .null, .int 0, .null, .int 0, .int 0, .int 0, .int 0, .int 0, .int 0]))] U.heap ∧ va_K (dC, dI) vcl [] U ∧ va_D (fun _ => True) [(h0, .inr (5, [.null, .int 0, .null, .int 0, .int 0, .int 0, .null, .int 0, .null, .int 0, .int 0, .int 0, .int 0, .int 0, .int 0]))] ∧ SF tt (va_A [(h0, .inr (5, [.null, .int 0, .null, .int 0, .int 0, .int 0, .null, .int 0, .null, .int 0, .int 0, .int 0, .int 0, .int 0, .int 0]))] sz) U U.heap)) (q_c_LineReader_init dC dI h0 tp (va_A [(h0, .inr (5, [.null, .int 0, .null, .int 0, .int 0, .int 0, .null, .int 0, .null, .int 0, .int 0, .int 0, .int 0, .int 0, .int 0]))] sz)) 3 21024 (va_A [(h0, .inr (5, [.null, .int 0, .null, .int 0, .int 0, .int 0, .null, .int 0, .null, .int 0, .int 0, .int 0, .int 0, .int 0, .int 0]))] sz) := by
  refine Met.ofW (cc := b_LineReader_init) (maxL := 2) (ret := none) (by decide) rfl ?_
  intro p e s m args below meth c s₁ B hml hv
  obtain ⟨rfl, hsz, hP, hK, hD0, hF⟩ := hv
  have hx := B.exec
  have hb := B.bytes
  have hr := B.returns
  have hwd : ∀ w ∈ gT, w.before _ s = true := fun w h => atoms_spec (ws := w_LineReader_init) B.pre w (List.mem_cons_of_mem _ h)
  have hown : s.vm.findClass R_LineReader = some m.cls := findClass_of_methodNamed B.named
  have hlocks := B.notSynchronized
  have hin : meth.name = "<init>" := (name_of_methodNamed B.named B.method).1
  subst hsz
  have hD := hD0.self (sz := s.heap.size)
  generalize hAe : va_A [(h0, .inr (5, [.null, .int 0, .null, .int 0, .int 0, .int 0, .null, .int 0, .null, .int 0, .int 0, .int 0, .int 0, .int 0, .int 0]))] s.heap.size = A at hD hF ⊢
  have hA : ∀ q : Nat, s.heap.size ≤ q → A q := fun q h => by rw [← hAe]; exact Or.inr h
  have hS : va_S A s.heap s.heap [] := va_S.rf
  have hP : va_P (dC, dI) vcl [(h0, .inr (5, [.null, .int 0, .null, .int 0, .int 0, .int 0, .null, .int 0, .null, .int 0, .int 0, .int 0, .int 0, .int 0, .int 0]))] s.heap := hP
  have hl := lv_entry ([.ref h0, .ref tp]) (n := 2) (Nat.le_of_ble_eq_true rfl)
  rw [lg_entry_eq]
  generalize (lg_sl ([.ref h0, .ref tp]) ++ List.replicate (2 - (lg_sl ([.ref h0, .ref tp])).length) Slot.unset).toArray = ls at hl ⊢
  have hl : lv_has ls 2 [(0, .ref h0), (1, .ref tp)] := hl
  refine lv_aload_n hx hb d_LineReader_init_0 rfl (lv_at hl 0 rfl) ?_
  refine W.objInit hx hb hown (hwd _ wd_4_41) (hwd _ wd_1_35) (hwd _ wd_1_36) rfl (by rw [hml]; exact hl.1) rfl d_LineReader_init_1 (Nat.le_of_ble_eq_true rfl) (Nat.le_of_ble_eq_true rfl) ?_
  refine W.eq (g2 := F0 m 4 ls []) rfl ?_
  refine lv_aload_n hx hb d_LineReader_init_4 rfl (lv_at hl 0 rfl) ?_
  refine lv_sipush (v := 1024) hx hb d_LineReader_init_5 (by decide) ?_
  refine va_newa (atype := .int) (N' := 1024) (a0 := (1024, .inl (fun _ => 0))) (ty := .int) (n := 1024) hx hb (hwd _ wd_1_167) rfl hK hP hD hS hA (fun _ => rfl) (by decide) (by decide) (by decide) (Nat.le_of_ble_eq_true rfl) (Nat.le_of_ble_eq_true rfl) d_LineReader_init_8 ?_
  clear hP hD hS hK
  intro q_1 cA_2 H hK hP hD hS
  replace hP : va_P (dC, dI) vcl [(h0, .inr (5, [.null, .int 0, .null, .int 0, .int 0, .int 0, .null, .int 0, .null, .int 0, .int 0, .int 0, .int 0, .int 0, .int 0])), (q_1, .inl (cA_2, 1024, .inl (fun _ => 0)))] H := hP
  replace hD : va_D A [(h0, .inr (5, [.null, .int 0, .null, .int 0, .int 0, .int 0, .null, .int 0, .null, .int 0, .int 0, .int 0, .int 0, .int 0, .int 0])), (q_1, .inl (cA_2, 1024, .inl (fun _ => 0)))] := hD
  replace hK : va_K (dC, dI) vcl [(cA_2, .int)] s := hK
  refine W.widen (k := 1) (n := 1024) (by decide) (by decide) ?_
  refine va_putF (D := (dC, dI)) (ci := 5) (v := .ref q_1) (ty := (.array .int)) (C := R_LineReader) (T := F_LineReader) (N := 15) hx hb hwd i_LineReader t_LineReader to_LineReader no_LineReader hown hK hP hD hS 0 rfl rfl 0 (by decide) (hwd _ wd_4_70) (fun _ h9 => h9) rfl hin rfl (by decide +kernel) rfl rfl (Nat.le_of_ble_eq_true rfl) d_LineReader_init_10 ?_
  clear hP hD hS
  intro H locs hP hD hS
  replace hP : va_P (dC, dI) vcl [(h0, .inr (5, [.ref q_1, .int 0, .null, .int 0, .int 0, .int 0, .null, .int 0, .null, .int 0, .int 0, .int 0, .int 0, .int 0, .int 0])), (q_1, .inl (cA_2, 1024, .inl (fun _ => 0)))] H := hP
  replace hD : va_D A [(h0, .inr (5, [.ref q_1, .int 0, .null, .int 0, .int 0, .int 0, .null, .int 0, .null, .int 0, .int 0, .int 0, .int 0, .int 0, .int 0])), (q_1, .inl (cA_2, 1024, .inl (fun _ => 0)))] := hD
  refine lv_aload_n hx hb d_LineReader_init_13 rfl (lv_at hl 0 rfl) ?_
  refine lv_iconst (v := 5) hx hb d_LineReader_init_14 (by decide) ?_
  refine va_put (D := (dC, dI)) (ci := 5) (v := .int 5) (ty := .int) (C := R_LineReader) (T := F_LineReader) (N := 15) hx hb hwd i_LineReader t_LineReader to_LineReader no_LineReader hown hK hP hD hS 0 rfl rfl 1 (by decide) (hwd _ wd_4_71) (fun _ h9 => h9) rfl (by decide +kernel) rfl rfl (Nat.le_of_ble_eq_true rfl) d_LineReader_init_15 ?_
  clear hP hD hS
  intro H locs hP hD hS
  replace hP : va_P (dC, dI) vcl [(h0, .inr (5, [.ref q_1, .int 5, .null, .int 0, .int 0, .int 0, .null, .int 0, .null, .int 0, .int 0, .int 0, .int 0, .int 0, .int 0])), (q_1, .inl (cA_2, 1024, .inl (fun _ => 0)))] H := hP
  replace hD : va_D A [(h0, .inr (5, [.ref q_1, .int 5, .null, .int 0, .int 0, .int 0, .null, .int 0, .null, .int 0, .int 0, .int 0, .int 0, .int 0, .int 0])), (q_1, .inl (cA_2, 1024, .inl (fun _ => 0)))] := hD
  refine lv_aload_n hx hb d_LineReader_init_18 rfl (lv_at hl 0 rfl) ?_
  refine lv_sipush (v := 10000) hx hb d_LineReader_init_19 (by decide) ?_
  refine va_newa (atype := .int) (N' := 10000) (a0 := (10000, .inl (fun _ => 0))) (ty := .int) (n := 10000) hx hb (hwd _ wd_1_167) rfl hK hP hD hS hA (fun _ => rfl) (by decide) (by decide) (by decide) (Nat.le_of_ble_eq_true rfl) (Nat.le_of_ble_eq_true rfl) d_LineReader_init_22 ?_
  clear hP hD hS hK
  intro q_3 cA_4 H hK hP hD hS
  replace hP : va_P (dC, dI) vcl [(h0, .inr (5, [.ref q_1, .int 5, .null, .int 0, .int 0, .int 0, .null, .int 0, .null, .int 0, .int 0, .int 0, .int 0, .int 0, .int 0])), (q_1, .inl (cA_2, 1024, .inl (fun _ => 0))), (q_3, .inl (cA_4, 10000, .inl (fun _ => 0)))] H := hP
  replace hD : va_D A [(h0, .inr (5, [.ref q_1, .int 5, .null, .int 0, .int 0, .int 0, .null, .int 0, .null, .int 0, .int 0, .int 0, .int 0, .int 0, .int 0])), (q_1, .inl (cA_2, 1024, .inl (fun _ => 0))), (q_3, .inl (cA_4, 10000, .inl (fun _ => 0)))] := hD
  replace hK : va_K (dC, dI) vcl [(cA_2, .int), (cA_4, .int)] s := hK
  refine W.widen (k := 2) (n := 11024) (by decide) (by decide) ?_
  refine va_put (D := (dC, dI)) (ci := 5) (v := .ref q_3) (ty := (.array .int)) (C := R_LineReader) (T := F_LineReader) (N := 15) hx hb hwd i_LineReader t_LineReader to_LineReader no_LineReader hown hK hP hD hS 0 rfl rfl 6 (by decide) (hwd _ wd_4_76) (fun _ h9 => h9) rfl (by decide +kernel) rfl rfl (Nat.le_of_ble_eq_true rfl) d_LineReader_init_24 ?_
  clear hP hD hS
  intro H locs hP hD hS
  replace hP : va_P (dC, dI) vcl [(h0, .inr (5, [.ref q_1, .int 5, .null, .int 0, .int 0, .int 0, .ref q_3, .int 0, .null, .int 0, .int 0, .int 0, .int 0, .int 0, .int 0])), (q_1, .inl (cA_2, 1024, .inl (fun _ => 0))), (q_3, .inl (cA_4, 10000, .inl (fun _ => 0)))] H := hP
  replace hD : va_D A [(h0, .inr (5, [.ref q_1, .int 5, .null, .int 0, .int 0, .int 0, .ref q_3, .int 0, .null, .int 0, .int 0, .int 0, .int 0, .int 0, .int 0])), (q_1, .inl (cA_2, 1024, .inl (fun _ => 0))), (q_3, .inl (cA_4, 10000, .inl (fun _ => 0)))] := hD
  refine lv_aload_n hx hb d_LineReader_init_27 rfl (lv_at hl 0 rfl) ?_
  refine lv_sipush (v := 10000) hx hb d_LineReader_init_28 (by decide) ?_
  refine va_newa (atype := .int) (N' := 10000) (a0 := (10000, .inl (fun _ => 0))) (ty := .int) (n := 10000) hx hb (hwd _ wd_1_167) rfl hK hP hD hS hA (fun _ => rfl) (by decide) (by decide) (by decide) (Nat.le_of_ble_eq_true rfl) (Nat.le_of_ble_eq_true rfl) d_LineReader_init_31 ?_
  clear hP hD hS hK
  intro q_5 cA_6 H hK hP hD hS
  replace hP : va_P (dC, dI) vcl [(h0, .inr (5, [.ref q_1, .int 5, .null, .int 0, .int 0, .int 0, .ref q_3, .int 0, .null, .int 0, .int 0, .int 0, .int 0, .int 0, .int 0])), (q_1, .inl (cA_2, 1024, .inl (fun _ => 0))), (q_3, .inl (cA_4, 10000, .inl (fun _ => 0))), (q_5, .inl (cA_6, 10000, .inl (fun _ => 0)))] H := hP
  replace hD : va_D A [(h0, .inr (5, [.ref q_1, .int 5, .null, .int 0, .int 0, .int 0, .ref q_3, .int 0, .null, .int 0, .int 0, .int 0, .int 0, .int 0, .int 0])), (q_1, .inl (cA_2, 1024, .inl (fun _ => 0))), (q_3, .inl (cA_4, 10000, .inl (fun _ => 0))), (q_5, .inl (cA_6, 10000, .inl (fun _ => 0)))] := hD
  replace hK : va_K (dC, dI) vcl [(cA_2, .int), (cA_4, .int), (cA_6, .int)] s := hK
  refine W.widen (k := 3) (n := 21024) (by decide) (by decide) ?_
  refine va_put (D := (dC, dI)) (ci := 5) (v := .ref q_5) (ty := (.array .int)) (C := R_LineReader) (T := F_LineReader) (N := 15) hx hb hwd i_LineReader t_LineReader to_LineReader no_LineReader hown hK hP hD hS 0 rfl rfl 8 (by decide) (hwd _ wd_4_78) (fun _ h9 => h9) rfl (by decide +kernel) rfl rfl (Nat.le_of_ble_eq_true rfl) d_LineReader_init_33 ?_
  clear hP hD hS
  intro H locs hP hD hS
  replace hP : va_P (dC, dI) vcl [(h0, .inr (5, [.ref q_1, .int 5, .null, .int 0, .int 0, .int 0, .ref q_3, .int 0, .ref q_5, .int 0, .int 0, .int 0, .int 0, .int 0, .int 0])), (q_1, .inl (cA_2, 1024, .inl (fun _ => 0))), (q_3, .inl (cA_4, 10000, .inl (fun _ => 0))), (q_5, .inl (cA_6, 10000, .inl (fun _ => 0)))] H := hP
  replace hD : va_D A [(h0, .inr (5, [.ref q_1, .int 5, .null, .int 0, .int 0, .int 0, .ref q_3, .int 0, .ref q_5, .int 0, .int 0, .int 0, .int 0, .int 0, .int 0])), (q_1, .inl (cA_2, 1024, .inl (fun _ => 0))), (q_3, .inl (cA_4, 10000, .inl (fun _ => 0))), (q_5, .inl (cA_6, 10000, .inl (fun _ => 0)))] := hD
  refine lv_aload_n hx hb d_LineReader_init_36 rfl (lv_at hl 0 rfl) ?_
  refine lv_aload_n hx hb d_LineReader_init_37 rfl (lv_at hl 1 rfl) ?_
  refine va_put (D := (dC, dI)) (ci := 5) (v := .ref tp) (ty := (.array .byte)) (C := R_LineReader) (T := F_LineReader) (N := 15) hx hb hwd i_LineReader t_LineReader to_LineReader no_LineReader hown hK hP hD hS 0 rfl rfl 2 (by decide) (hwd _ wd_4_72) (fun _ h9 => h9) rfl (by decide +kernel) rfl rfl (Nat.le_of_ble_eq_true rfl) d_LineReader_init_38 ?_
  clear hP hD hS
  intro H locs hP hD hS
  replace hP : va_P (dC, dI) vcl [(h0, .inr (5, [.ref q_1, .int 5, .ref tp, .int 0, .int 0, .int 0, .ref q_3, .int 0, .ref q_5, .int 0, .int 0, .int 0, .int 0, .int 0, .int 0])), (q_1, .inl (cA_2, 1024, .inl (fun _ => 0))), (q_3, .inl (cA_4, 10000, .inl (fun _ => 0))), (q_5, .inl (cA_6, 10000, .inl (fun _ => 0)))] H := hP
  replace hD : va_D A [(h0, .inr (5, [.ref q_1, .int 5, .ref tp, .int 0, .int 0, .int 0, .ref q_3, .int 0, .ref q_5, .int 0, .int 0, .int 0, .int 0, .int 0, .int 0])), (q_1, .inl (cA_2, 1024, .inl (fun _ => 0))), (q_3, .inl (cA_4, 10000, .inl (fun _ => 0))), (q_5, .inl (cA_6, 10000, .inl (fun _ => 0)))] := hD
  refine lv_aload_n hx hb d_LineReader_init_41 rfl (lv_at hl 0 rfl) ?_
  refine lv_iconst (v := 0) hx hb d_LineReader_init_42 (by decide) ?_
  have hPc := hP.sub (ws' := [(h0, .inr (5, [.ref q_1, .int 5, .ref tp, .int 0, .int 0, .int 0, .ref q_3, .int 0, .ref q_5, .int 0, .int 0, .int 0, .int 0, .int 0, .int 0])), (q_1, .inl (cA_2, 1024, .inl (fun _ => 0)))]) [0, 1] rfl
  have hDc := hD.sub (ws' := [(h0, .inr (5, [.ref q_1, .int 5, .ref tp, .int 0, .int 0, .int 0, .ref q_3, .int 0, .ref q_5, .int 0, .int 0, .int 0, .int 0, .int 0, .int 0])), (q_1, .inl (cA_2, 1024, .inl (fun _ => 0)))]) [0, 1] (by decide) rfl
  have hKc := hK.sub (tys' := [(cA_2, .int)]) [0] rfl
  have hFc := va_free (wc := [(h0, .inr (5, [.ref q_1, .int 5, .ref tp, .int 0, .int 0, .int 0, .ref q_3, .int 0, .ref q_5, .int 0, .int 0, .int 0, .int 0, .int 0, .int 0])), (q_1, .inl (cA_2, 1024, .inl (fun _ => 0)))]) hD hS hA [0, 1] rfl
  refine va_callv (va_runV (As := [.int 0]) (rest := []) ⟨hx, hb, hml, hown, hwd⟩ (c_addModes l dC dI tt h0 q_1 tp 0 0 0 q_3 0 q_5 0 0 0 0 0 0 5 cA_2 (fun _ => 0) 0 H.size (fun _ _ => by decide) (by decide) (by decide)) (cwV 1 hwd (gV gd_LineReader_addModes wd_4_42 wd_4_44 ws_18 wd_1_15) rfl rfl rfl (by decide +kernel) ⟨Nat.le_of_ble_eq_true rfl, Nat.le_of_ble_eq_true rfl⟩) ⟨fun a U g mk q => by obtain ⟨q0, q1, qP, qK, qD, qF⟩ := q; exact ⟨q0, q1, qP, va_K.moved (u := U) (U := U.calling g mk a) (Vm.Alike.refl U.vm) qK, qD, SF.same (u := U) (U := U.calling g mk a) rfl qF⟩, va_recv hKc hPc (ci := 5) (q0 := 0) rfl rfl, fun U hU hW => ⟨rfl, by rw [hU], by rw [hU]; exact hPc, va_K.moved hW.alike hKc, hDc.weaken (fun _ _ _ _ => trivial), by rw [hU]; exact SF.narrow (SF.moved hW (SF.kept hF (fun a h1 h2 => hS.2.1 a h1 h2))) hFc⟩⟩ rfl rfl hl.1 rfl (lv_room (Nat.le_of_ble_eq_true rfl)) d_LineReader_init_43 ⟨Nat.le_of_ble_eq_true rfl, Nat.le_of_ble_eq_true rfl⟩) hS (fun q _ h => hFc q h) hFc ?_
  clear hPc hDc hKc hS
  intro u_8 t H1 locs ht hvm hw hB hz1 hk1 hS
  obtain ⟨g_9, nd2_10⟩ := u_8
  obtain ⟨hP1, hK1, hD1⟩ := hB
  rw [ht] at hP1
  have hK1 := va_K.moved hvm.symm hK1
  try dsimp only at hw
  have hJ := va_join (wr := [(q_3, .inl (cA_4, 10000, .inl (fun _ => 0))), (q_5, .inl (cA_6, 10000, .inl (fun _ => 0)))]) (w1 := [(h0, .inr (5, [.ref q_1, .int (nI nd2_10), .ref tp, .int 0, .int 0, .int 0, .ref q_3, .int 0, .ref q_5, .int 0, .int 0, .int 0, .int 0, .int 0, .int 0])), (q_1, .inl (cA_2, 1024, .inl g_9))]) hP hD [0, 1] [2, 3] rfl rfl (by decide) (by decide) hk1 hFc hP1 hD1
  clear hP hD hk1 hFc hP1 hD1 hz1
  obtain ⟨hP, hD⟩ := hJ
  clear hK1 ht hvm
  generalize H1 = H at hP hS ⊢
  replace hP : va_P (dC, dI) vcl [(q_3, .inl (cA_4, 10000, .inl (fun _ => 0))), (q_5, .inl (cA_6, 10000, .inl (fun _ => 0))), (h0, .inr (5, [.ref q_1, .int (nI nd2_10), .ref tp, .int 0, .int 0, .int 0, .ref q_3, .int 0, .ref q_5, .int 0, .int 0, .int 0, .int 0, .int 0, .int 0])), (q_1, .inl (cA_2, 1024, .inl g_9))] H := hP
  replace hD : va_D A [(q_3, .inl (cA_4, 10000, .inl (fun _ => 0))), (q_5, .inl (cA_6, 10000, .inl (fun _ => 0))), (h0, .inr (5, [.ref q_1, .int (nI nd2_10), .ref tp, .int 0, .int 0, .int 0, .ref q_3, .int 0, .ref q_5, .int 0, .int 0, .int 0, .int 0, .int 0, .int 0])), (q_1, .inl (cA_2, 1024, .inl g_9))] := hD
  obtain ⟨hTI, hNd⟩ := hw
  refine lv_aload_n hx hb d_LineReader_init_46 rfl (lv_at hl 0 rfl) ?_
  refine lv_iconst (v := 1) hx hb d_LineReader_init_47 (by decide) ?_
  have hPc := hP.sub (ws' := [(h0, .inr (5, [.ref q_1, .int (nI nd2_10), .ref tp, .int 0, .int 0, .int 0, .ref q_3, .int 0, .ref q_5, .int 0, .int 0, .int 0, .int 0, .int 0, .int 0])), (q_1, .inl (cA_2, 1024, .inl g_9))]) [2, 3] rfl
  have hDc := hD.sub (ws' := [(h0, .inr (5, [.ref q_1, .int (nI nd2_10), .ref tp, .int 0, .int 0, .int 0, .ref q_3, .int 0, .ref q_5, .int 0, .int 0, .int 0, .int 0, .int 0, .int 0])), (q_1, .inl (cA_2, 1024, .inl g_9))]) [2, 3] (by decide) rfl
  have hKc := hK.sub (tys' := [(cA_2, .int)]) [0] rfl
  have hFc := va_free (wc := [(h0, .inr (5, [.ref q_1, .int (nI nd2_10), .ref tp, .int 0, .int 0, .int 0, .ref q_3, .int 0, .ref q_5, .int 0, .int 0, .int 0, .int 0, .int 0, .int 0])), (q_1, .inl (cA_2, 1024, .inl g_9))]) hD hS hA [2, 3] rfl
  refine va_callv (va_runV (As := [.int 1]) (rest := []) ⟨hx, hb, hml, hown, hwd⟩ (c_addModes l dC dI tt h0 q_1 tp 0 0 0 q_3 0 q_5 0 0 0 0 0 0 nd2_10 cA_2 g_9 1 H.size (hTI) (hNd) (by decide)) (cwV 1 hwd (gV gd_LineReader_addModes wd_4_42 wd_4_44 ws_18 wd_1_15) rfl rfl rfl (by decide +kernel) ⟨Nat.le_of_ble_eq_true rfl, Nat.le_of_ble_eq_true rfl⟩) ⟨fun a U g mk q => by obtain ⟨q0, q1, qP, qK, qD, qF⟩ := q; exact ⟨q0, q1, qP, va_K.moved (u := U) (U := U.calling g mk a) (Vm.Alike.refl U.vm) qK, qD, SF.same (u := U) (U := U.calling g mk a) rfl qF⟩, va_recv hKc hPc (ci := 5) (q0 := 0) rfl rfl, fun U hU hW => ⟨rfl, by rw [hU], by rw [hU]; exact hPc, va_K.moved hW.alike hKc, hDc.weaken (fun _ _ _ _ => trivial), by rw [hU]; exact SF.narrow (SF.moved hW (SF.kept hF (fun a h1 h2 => hS.2.1 a h1 h2))) hFc⟩⟩ rfl rfl hl.1 rfl (lv_room (Nat.le_of_ble_eq_true rfl)) d_LineReader_init_48 ⟨Nat.le_of_ble_eq_true rfl, Nat.le_of_ble_eq_true rfl⟩) hS (fun q _ h => hFc q h) hFc ?_
  clear hPc hDc hKc hS
  intro u_12 t H1 locs ht hvm hw hB hz1 hk1 hS
  obtain ⟨g_13, nd2_14⟩ := u_12
  obtain ⟨hP1, hK1, hD1⟩ := hB
  rw [ht] at hP1
  have hK1 := va_K.moved hvm.symm hK1
  try dsimp only at hw
  have hJ := va_join (wr := [(q_3, .inl (cA_4, 10000, .inl (fun _ => 0))), (q_5, .inl (cA_6, 10000, .inl (fun _ => 0)))]) (w1 := [(h0, .inr (5, [.ref q_1, .int (nI nd2_14), .ref tp, .int 0, .int 0, .int 0, .ref q_3, .int 0, .ref q_5, .int 0, .int 0, .int 0, .int 0, .int 0, .int 0])), (q_1, .inl (cA_2, 1024, .inl g_13))]) hP hD [2, 3] [0, 1] rfl rfl (by decide) (by decide) hk1 hFc hP1 hD1
  clear hP hD hk1 hFc hP1 hD1 hz1
  obtain ⟨hP, hD⟩ := hJ
  clear hK1 ht hvm
  generalize H1 = H at hP hS ⊢
  replace hP : va_P (dC, dI) vcl [(q_3, .inl (cA_4, 10000, .inl (fun _ => 0))), (q_5, .inl (cA_6, 10000, .inl (fun _ => 0))), (h0, .inr (5, [.ref q_1, .int (nI nd2_14), .ref tp, .int 0, .int 0, .int 0, .ref q_3, .int 0, .ref q_5, .int 0, .int 0, .int 0, .int 0, .int 0, .int 0])), (q_1, .inl (cA_2, 1024, .inl g_13))] H := hP
  replace hD : va_D A [(q_3, .inl (cA_4, 10000, .inl (fun _ => 0))), (q_5, .inl (cA_6, 10000, .inl (fun _ => 0))), (h0, .inr (5, [.ref q_1, .int (nI nd2_14), .ref tp, .int 0, .int 0, .int 0, .ref q_3, .int 0, .ref q_5, .int 0, .int 0, .int 0, .int 0, .int 0, .int 0])), (q_1, .inl (cA_2, 1024, .inl g_13))] := hD
  obtain ⟨hTI, hNd⟩ := hw
  refine lv_aload_n hx hb d_LineReader_init_51 rfl (lv_at hl 0 rfl) ?_
  refine lv_iconst (v := 0) hx hb d_LineReader_init_52 (by decide) ?_
  refine lv_sipush (v := 4097) hx hb d_LineReader_init_53 (by decide) ?_
  refine lv_bipush (v := 22) hx hb d_LineReader_init_56 (by decide) ?_
  have hPc := hP.sub (ws' := [(h0, .inr (5, [.ref q_1, .int (nI nd2_14), .ref tp, .int 0, .int 0, .int 0, .ref q_3, .int 0, .ref q_5, .int 0, .int 0, .int 0, .int 0, .int 0, .int 0])), (q_1, .inl (cA_2, 1024, .inl g_13))]) [2, 3] rfl
  have hDc := hD.sub (ws' := [(h0, .inr (5, [.ref q_1, .int (nI nd2_14), .ref tp, .int 0, .int 0, .int 0, .ref q_3, .int 0, .ref q_5, .int 0, .int 0, .int 0, .int 0, .int 0, .int 0])), (q_1, .inl (cA_2, 1024, .inl g_13))]) [2, 3] (by decide) rfl
  have hKc := hK.sub (tys' := [(cA_2, .int)]) [0] rfl
  have hFc := va_free (wc := [(h0, .inr (5, [.ref q_1, .int (nI nd2_14), .ref tp, .int 0, .int 0, .int 0, .ref q_3, .int 0, .ref q_5, .int 0, .int 0, .int 0, .int 0, .int 0, .int 0])), (q_1, .inl (cA_2, 1024, .inl g_13))]) hD hS hA [2, 3] rfl
  refine va_callv (va_runV (As := [.int 0, .int 4097, .int 22]) (rest := []) ⟨hx, hb, hml, hown, hwd⟩ (c_addWord l dC dI tt h0 q_1 tp 0 0 0 q_3 0 q_5 0 0 0 0 0 0 nd2_14 cA_2 g_13 0 4097 22 4097 H.size (hTI) (hNd) (by decide) (rfl) (by decide) (by decide)) (cwV 3 hwd (gV gd_LineReader_addWord wd_4_46 wd_4_48 ws_19 wd_1_15) rfl rfl rfl (by decide +kernel) ⟨Nat.le_of_ble_eq_true rfl, Nat.le_of_ble_eq_true rfl⟩) ⟨fun a U g mk q => by obtain ⟨q0, q1, qP, qK, qD, qF⟩ := q; exact ⟨q0, q1, qP, va_K.moved (u := U) (U := U.calling g mk a) (Vm.Alike.refl U.vm) qK, qD, SF.same (u := U) (U := U.calling g mk a) rfl qF⟩, va_recv hKc hPc (ci := 5) (q0 := 0) rfl rfl, fun U hU hW => ⟨rfl, by rw [hU], by rw [hU]; exact hPc, va_K.moved hW.alike hKc, hDc.weaken (fun _ _ _ _ => trivial), by rw [hU]; exact SF.narrow (SF.moved hW (SF.kept hF (fun a h1 h2 => hS.2.1 a h1 h2))) hFc⟩⟩ rfl rfl hl.1 rfl (lv_room (Nat.le_of_ble_eq_true rfl)) d_LineReader_init_58 ⟨Nat.le_of_ble_eq_true rfl, Nat.le_of_ble_eq_true rfl⟩) hS (fun q _ h => hFc q h) hFc ?_
  clear hPc hDc hKc hS
  intro u_16 t H1 locs ht hvm hw hB hz1 hk1 hS
  obtain ⟨g_17, nd2_18⟩ := u_16
  obtain ⟨hP1, hK1, hD1⟩ := hB
  rw [ht] at hP1
  have hK1 := va_K.moved hvm.symm hK1
  try dsimp only at hw
  have hJ := va_join (wr := [(q_3, .inl (cA_4, 10000, .inl (fun _ => 0))), (q_5, .inl (cA_6, 10000, .inl (fun _ => 0)))]) (w1 := [(h0, .inr (5, [.ref q_1, .int (nI nd2_18), .ref tp, .int 0, .int 0, .int 0, .ref q_3, .int 0, .ref q_5, .int 0, .int 0, .int 0, .int 0, .int 0, .int 0])), (q_1, .inl (cA_2, 1024, .inl g_17))]) hP hD [2, 3] [0, 1] rfl rfl (by decide) (by decide) hk1 hFc hP1 hD1
  clear hP hD hk1 hFc hP1 hD1 hz1
  obtain ⟨hP, hD⟩ := hJ
  clear hK1 ht hvm
  generalize H1 = H at hP hS ⊢
  replace hP : va_P (dC, dI) vcl [(q_3, .inl (cA_4, 10000, .inl (fun _ => 0))), (q_5, .inl (cA_6, 10000, .inl (fun _ => 0))), (h0, .inr (5, [.ref q_1, .int (nI nd2_18), .ref tp, .int 0, .int 0, .int 0, .ref q_3, .int 0, .ref q_5, .int 0, .int 0, .int 0, .int 0, .int 0, .int 0])), (q_1, .inl (cA_2, 1024, .inl g_17))] H := hP
  replace hD : va_D A [(q_3, .inl (cA_4, 10000, .inl (fun _ => 0))), (q_5, .inl (cA_6, 10000, .inl (fun _ => 0))), (h0, .inr (5, [.ref q_1, .int (nI nd2_18), .ref tp, .int 0, .int 0, .int 0, .ref q_3, .int 0, .ref q_5, .int 0, .int 0, .int 0, .int 0, .int 0, .int 0])), (q_1, .inl (cA_2, 1024, .inl g_17))] := hD
  obtain ⟨hTI, hNd⟩ := hw
  refine lv_aload_n hx hb d_LineReader_init_61 rfl (lv_at hl 0 rfl) ?_
  refine lv_iconst (v := 2) hx hb d_LineReader_init_62 (by decide) ?_
  refine lv_sipush (v := 4097) hx hb d_LineReader_init_63 (by decide) ?_
  refine lv_bipush (v := 22) hx hb d_LineReader_init_66 (by decide) ?_
  have hPc := hP.sub (ws' := [(h0, .inr (5, [.ref q_1, .int (nI nd2_18), .ref tp, .int 0, .int 0, .int 0, .ref q_3, .int 0, .ref q_5, .int 0, .int 0, .int 0, .int 0, .int 0, .int 0])), (q_1, .inl (cA_2, 1024, .inl g_17))]) [2, 3] rfl
  have hDc := hD.sub (ws' := [(h0, .inr (5, [.ref q_1, .int (nI nd2_18), .ref tp, .int 0, .int 0, .int 0, .ref q_3, .int 0, .ref q_5, .int 0, .int 0, .int 0, .int 0, .int 0, .int 0])), (q_1, .inl (cA_2, 1024, .inl g_17))]) [2, 3] (by decide) rfl
  have hKc := hK.sub (tys' := [(cA_2, .int)]) [0] rfl
  have hFc := va_free (wc := [(h0, .inr (5, [.ref q_1, .int (nI nd2_18), .ref tp, .int 0, .int 0, .int 0, .ref q_3, .int 0, .ref q_5, .int 0, .int 0, .int 0, .int 0, .int 0, .int 0])), (q_1, .inl (cA_2, 1024, .inl g_17))]) hD hS hA [2, 3] rfl
  refine va_callv (va_runV (As := [.int 2, .int 4097, .int 22]) (rest := []) ⟨hx, hb, hml, hown, hwd⟩ (c_addWord l dC dI tt h0 q_1 tp 0 0 0 q_3 0 q_5 0 0 0 0 0 0 nd2_18 cA_2 g_17 2 4097 22 4097 H.size (hTI) (hNd) (by decide) (rfl) (by decide) (by decide)) (cwV 3 hwd (gV gd_LineReader_addWord wd_4_46 wd_4_48 ws_19 wd_1_15) rfl rfl rfl (by decide +kernel) ⟨Nat.le_of_ble_eq_true rfl, Nat.le_of_ble_eq_true rfl⟩) ⟨fun a U g mk q => by obtain ⟨q0, q1, qP, qK, qD, qF⟩ := q; exact ⟨q0, q1, qP, va_K.moved (u := U) (U := U.calling g mk a) (Vm.Alike.refl U.vm) qK, qD, SF.same (u := U) (U := U.calling g mk a) rfl qF⟩, va_recv hKc hPc (ci := 5) (q0 := 0) rfl rfl, fun U hU hW => ⟨rfl, by rw [hU], by rw [hU]; exact hPc, va_K.moved hW.alike hKc, hDc.weaken (fun _ _ _ _ => trivial), by rw [hU]; exact SF.narrow (SF.moved hW (SF.kept hF (fun a h1 h2 => hS.2.1 a h1 h2))) hFc⟩⟩ rfl rfl hl.1 rfl (lv_room (Nat.le_of_ble_eq_true rfl)) d_LineReader_init_68 ⟨Nat.le_of_ble_eq_true rfl, Nat.le_of_ble_eq_true rfl⟩) hS (fun q _ h => hFc q h) hFc ?_
  clear hPc hDc hKc hS
  intro u_20 t H1 locs ht hvm hw hB hz1 hk1 hS
  obtain ⟨g_21, nd2_22⟩ := u_20
  obtain ⟨hP1, hK1, hD1⟩ := hB
  rw [ht] at hP1
  have hK1 := va_K.moved hvm.symm hK1
  try dsimp only at hw
  have hJ := va_join (wr := [(q_3, .inl (cA_4, 10000, .inl (fun _ => 0))), (q_5, .inl (cA_6, 10000, .inl (fun _ => 0)))]) (w1 := [(h0, .inr (5, [.ref q_1, .int (nI nd2_22), .ref tp, .int 0, .int 0, .int 0, .ref q_3, .int 0, .ref q_5, .int 0, .int 0, .int 0, .int 0, .int 0, .int 0])), (q_1, .inl (cA_2, 1024, .inl g_21))]) hP hD [2, 3] [0, 1] rfl rfl (by decide) (by decide) hk1 hFc hP1 hD1
  clear hP hD hk1 hFc hP1 hD1 hz1
  obtain ⟨hP, hD⟩ := hJ
  clear hK1 ht hvm
  generalize H1 = H at hP hS ⊢
  replace hP : va_P (dC, dI) vcl [(q_3, .inl (cA_4, 10000, .inl (fun _ => 0))), (q_5, .inl (cA_6, 10000, .inl (fun _ => 0))), (h0, .inr (5, [.ref q_1, .int (nI nd2_22), .ref tp, .int 0, .int 0, .int 0, .ref q_3, .int 0, .ref q_5, .int 0, .int 0, .int 0, .int 0, .int 0, .int 0])), (q_1, .inl (cA_2, 1024, .inl g_21))] H := hP
  replace hD : va_D A [(q_3, .inl (cA_4, 10000, .inl (fun _ => 0))), (q_5, .inl (cA_6, 10000, .inl (fun _ => 0))), (h0, .inr (5, [.ref q_1, .int (nI nd2_22), .ref tp, .int 0, .int 0, .int 0, .ref q_3, .int 0, .ref q_5, .int 0, .int 0, .int 0, .int 0, .int 0, .int 0])), (q_1, .inl (cA_2, 1024, .inl g_21))] := hD
  obtain ⟨hTI, hNd⟩ := hw
  refine lv_aload_n hx hb d_LineReader_init_71 rfl (lv_at hl 0 rfl) ?_
  refine lv_iconst (v := 3) hx hb d_LineReader_init_72 (by decide) ?_
  refine va_gets hx hb (SF_p8 hF).1 hS hown (hwd _ wd_4_56) (fun _ h9 => h9) d_LineReader_init_73 ?_
  refine va_gets hx hb (SF_p9 hF).1 hS hown (hwd _ wd_4_58) (fun _ h9 => h9) d_LineReader_init_76 ?_
  have hPc := hP.sub (ws' := [(h0, .inr (5, [.ref q_1, .int (nI nd2_22), .ref tp, .int 0, .int 0, .int 0, .ref q_3, .int 0, .ref q_5, .int 0, .int 0, .int 0, .int 0, .int 0, .int 0])), (q_1, .inl (cA_2, 1024, .inl g_21))]) [2, 3] rfl
  have hDc := hD.sub (ws' := [(h0, .inr (5, [.ref q_1, .int (nI nd2_22), .ref tp, .int 0, .int 0, .int 0, .ref q_3, .int 0, .ref q_5, .int 0, .int 0, .int 0, .int 0, .int 0, .int 0])), (q_1, .inl (cA_2, 1024, .inl g_21))]) [2, 3] (by decide) rfl
  have hKc := hK.sub (tys' := [(cA_2, .int)]) [0] rfl
  have hFc := va_free (wc := [(h0, .inr (5, [.ref q_1, .int (nI nd2_22), .ref tp, .int 0, .int 0, .int 0, .ref q_3, .int 0, .ref q_5, .int 0, .int 0, .int 0, .int 0, .int 0, .int 0])), (q_1, .inl (cA_2, 1024, .inl g_21))]) hD hS hA [2, 3] rfl
  refine va_callv (va_runV (As := [.int 3, .ref (tt 8), .ref (tt 9)]) (rest := []) ⟨hx, hb, hml, hown, hwd⟩ (c_addRuns_WHITE l dC dI tt h0 q_1 tp 0 0 0 q_3 0 q_5 0 0 0 0 0 0 nd2_22 cA_2 g_21 3 H.size (hTI) (hNd) (by decide)) (cwV 3 hwd (gV gd_LineReader_addRuns wd_4_60 wd_4_62 ws_20 wd_1_15) rfl rfl rfl (by decide +kernel) ⟨Nat.le_of_ble_eq_true rfl, Nat.le_of_ble_eq_true rfl⟩) ⟨fun a U g mk q => by obtain ⟨q0, q1, qP, qK, qD, qF⟩ := q; exact ⟨q0, q1, qP, va_K.moved (u := U) (U := U.calling g mk a) (Vm.Alike.refl U.vm) qK, qD, SF.same (u := U) (U := U.calling g mk a) rfl qF⟩, va_recv hKc hPc (ci := 5) (q0 := 0) rfl rfl, fun U hU hW => ⟨rfl, by rw [hU], by rw [hU]; exact hPc, va_K.moved hW.alike hKc, hDc.weaken (fun _ _ _ _ => trivial), by rw [hU]; exact SF.narrow (SF.moved hW (SF.kept hF (fun a h1 h2 => hS.2.1 a h1 h2))) hFc⟩⟩ rfl rfl hl.1 rfl (lv_room (Nat.le_of_ble_eq_true rfl)) d_LineReader_init_79 ⟨Nat.le_of_ble_eq_true rfl, Nat.le_of_ble_eq_true rfl⟩) hS (fun q _ h => hFc q h) hFc ?_
  clear hPc hDc hKc hS
  intro u_24 t H1 locs ht hvm hw hB hz1 hk1 hS
  obtain ⟨g_25, nd2_26⟩ := u_24
  obtain ⟨hP1, hK1, hD1⟩ := hB
  rw [ht] at hP1
  have hK1 := va_K.moved hvm.symm hK1
  try dsimp only at hw
  have hJ := va_join (wr := [(q_3, .inl (cA_4, 10000, .inl (fun _ => 0))), (q_5, .inl (cA_6, 10000, .inl (fun _ => 0)))]) (w1 := [(h0, .inr (5, [.ref q_1, .int (nI nd2_26), .ref tp, .int 0, .int 0, .int 0, .ref q_3, .int 0, .ref q_5, .int 0, .int 0, .int 0, .int 0, .int 0, .int 0])), (q_1, .inl (cA_2, 1024, .inl g_25))]) hP hD [2, 3] [0, 1] rfl rfl (by decide) (by decide) hk1 hFc hP1 hD1
  clear hP hD hk1 hFc hP1 hD1 hz1
  obtain ⟨hP, hD⟩ := hJ
  clear hK1 ht hvm
  generalize H1 = H at hP hS ⊢
  replace hP : va_P (dC, dI) vcl [(q_3, .inl (cA_4, 10000, .inl (fun _ => 0))), (q_5, .inl (cA_6, 10000, .inl (fun _ => 0))), (h0, .inr (5, [.ref q_1, .int (nI nd2_26), .ref tp, .int 0, .int 0, .int 0, .ref q_3, .int 0, .ref q_5, .int 0, .int 0, .int 0, .int 0, .int 0, .int 0])), (q_1, .inl (cA_2, 1024, .inl g_25))] H := hP
  replace hD : va_D A [(q_3, .inl (cA_4, 10000, .inl (fun _ => 0))), (q_5, .inl (cA_6, 10000, .inl (fun _ => 0))), (h0, .inr (5, [.ref q_1, .int (nI nd2_26), .ref tp, .int 0, .int 0, .int 0, .ref q_3, .int 0, .ref q_5, .int 0, .int 0, .int 0, .int 0, .int 0, .int 0])), (q_1, .inl (cA_2, 1024, .inl g_25))] := hD
  obtain ⟨hTI, hNd⟩ := hw
  refine lv_aload_n hx hb d_LineReader_init_82 rfl (lv_at hl 0 rfl) ?_
  refine lv_iconst (v := 4) hx hb d_LineReader_init_83 (by decide) ?_
  refine va_gets hx hb (SF_p11 hF).1 hS hown (hwd _ wd_4_66) (fun _ h9 => h9) d_LineReader_init_84 ?_
  refine va_gets hx hb (SF_p12 hF).1 hS hown (hwd _ wd_4_68) (fun _ h9 => h9) d_LineReader_init_87 ?_
  have hPc := hP.sub (ws' := [(h0, .inr (5, [.ref q_1, .int (nI nd2_26), .ref tp, .int 0, .int 0, .int 0, .ref q_3, .int 0, .ref q_5, .int 0, .int 0, .int 0, .int 0, .int 0, .int 0])), (q_1, .inl (cA_2, 1024, .inl g_25))]) [2, 3] rfl
  have hDc := hD.sub (ws' := [(h0, .inr (5, [.ref q_1, .int (nI nd2_26), .ref tp, .int 0, .int 0, .int 0, .ref q_3, .int 0, .ref q_5, .int 0, .int 0, .int 0, .int 0, .int 0, .int 0])), (q_1, .inl (cA_2, 1024, .inl g_25))]) [2, 3] (by decide) rfl
  have hKc := hK.sub (tys' := [(cA_2, .int)]) [0] rfl
  have hFc := va_free (wc := [(h0, .inr (5, [.ref q_1, .int (nI nd2_26), .ref tp, .int 0, .int 0, .int 0, .ref q_3, .int 0, .ref q_5, .int 0, .int 0, .int 0, .int 0, .int 0, .int 0])), (q_1, .inl (cA_2, 1024, .inl g_25))]) hD hS hA [2, 3] rfl
  refine va_callv (va_runV (As := [.int 4, .ref (tt 11), .ref (tt 12)]) (rest := []) ⟨hx, hb, hml, hown, hwd⟩ (c_addRuns_BLACK l dC dI tt h0 q_1 tp 0 0 0 q_3 0 q_5 0 0 0 0 0 0 nd2_26 cA_2 g_25 4 H.size (hTI) (hNd) (by decide)) (cwV 3 hwd (gV gd_LineReader_addRuns wd_4_60 wd_4_62 ws_20 wd_1_15) rfl rfl rfl (by decide +kernel) ⟨Nat.le_of_ble_eq_true rfl, Nat.le_of_ble_eq_true rfl⟩) ⟨fun a U g mk q => by obtain ⟨q0, q1, qP, qK, qD, qF⟩ := q; exact ⟨q0, q1, qP, va_K.moved (u := U) (U := U.calling g mk a) (Vm.Alike.refl U.vm) qK, qD, SF.same (u := U) (U := U.calling g mk a) rfl qF⟩, va_recv hKc hPc (ci := 5) (q0 := 0) rfl rfl, fun U hU hW => ⟨rfl, by rw [hU], by rw [hU]; exact hPc, va_K.moved hW.alike hKc, hDc.weaken (fun _ _ _ _ => trivial), by rw [hU]; exact SF.narrow (SF.moved hW (SF.kept hF (fun a h1 h2 => hS.2.1 a h1 h2))) hFc⟩⟩ rfl rfl hl.1 rfl (lv_room (Nat.le_of_ble_eq_true rfl)) d_LineReader_init_90 ⟨Nat.le_of_ble_eq_true rfl, Nat.le_of_ble_eq_true rfl⟩) hS (fun q _ h => hFc q h) hFc ?_
  clear hPc hDc hKc hS
  intro u_28 t H1 locs ht hvm hw hB hz1 hk1 hS
  obtain ⟨g_29, nd2_30⟩ := u_28
  obtain ⟨hP1, hK1, hD1⟩ := hB
  rw [ht] at hP1
  have hK1 := va_K.moved hvm.symm hK1
  try dsimp only at hw
  have hJ := va_join (wr := [(q_3, .inl (cA_4, 10000, .inl (fun _ => 0))), (q_5, .inl (cA_6, 10000, .inl (fun _ => 0)))]) (w1 := [(h0, .inr (5, [.ref q_1, .int (nI nd2_30), .ref tp, .int 0, .int 0, .int 0, .ref q_3, .int 0, .ref q_5, .int 0, .int 0, .int 0, .int 0, .int 0, .int 0])), (q_1, .inl (cA_2, 1024, .inl g_29))]) hP hD [2, 3] [0, 1] rfl rfl (by decide) (by decide) hk1 hFc hP1 hD1
  clear hP hD hk1 hFc hP1 hD1 hz1
  obtain ⟨hP, hD⟩ := hJ
  clear hK1 ht hvm
  generalize H1 = H at hP hS ⊢
  replace hP : va_P (dC, dI) vcl [(q_3, .inl (cA_4, 10000, .inl (fun _ => 0))), (q_5, .inl (cA_6, 10000, .inl (fun _ => 0))), (h0, .inr (5, [.ref q_1, .int (nI nd2_30), .ref tp, .int 0, .int 0, .int 0, .ref q_3, .int 0, .ref q_5, .int 0, .int 0, .int 0, .int 0, .int 0, .int 0])), (q_1, .inl (cA_2, 1024, .inl g_29))] H := hP
  replace hD : va_D A [(q_3, .inl (cA_4, 10000, .inl (fun _ => 0))), (q_5, .inl (cA_6, 10000, .inl (fun _ => 0))), (h0, .inr (5, [.ref q_1, .int (nI nd2_30), .ref tp, .int 0, .int 0, .int 0, .ref q_3, .int 0, .ref q_5, .int 0, .int 0, .int 0, .int 0, .int 0, .int 0])), (q_1, .inl (cA_2, 1024, .inl g_29))] := hD
  obtain ⟨hTI, hNd⟩ := hw
  have hP9 := hP.sub (ws' := [(h0, .inr (5, [.ref q_1, .int (nI nd2_30), .ref tp, .int 0, .int 0, .int 0, .ref q_3, .int 0, .ref q_5, .int 0, .int 0, .int 0, .int 0, .int 0, .int 0])), (q_3, .inl (cA_4, 10000, .inl (fun _ => 0))), (q_5, .inl (cA_6, 10000, .inl (fun _ => 0))), (q_1, .inl (cA_2, 1024, .inl g_29))]) [2, 0, 1, 3] rfl
  have hD9 := hD.sub (ws' := [(h0, .inr (5, [.ref q_1, .int (nI nd2_30), .ref tp, .int 0, .int 0, .int 0, .ref q_3, .int 0, .ref q_5, .int 0, .int 0, .int 0, .int 0, .int 0, .int 0])), (q_3, .inl (cA_4, 10000, .inl (fun _ => 0))), (q_5, .inl (cA_6, 10000, .inl (fun _ => 0))), (q_1, .inl (cA_2, 1024, .inl g_29))]) [2, 0, 1, 3] (by decide) rfl
  have hK9 := hK.sub (tys' := [(cA_4, .int), (cA_6, .int), (cA_2, .int)]) [1, 2, 0] rfl
  exact W.vret hx hb hr (fun t ht hW => ⟨⟨(g_29, nd2_30), rfl, (show (∀ i, i < 1024 → ((g_29 : Nat → Int32) i).toInt < 512) ∧ (nd2_30 : Nat) ≤ 512 from (⟨hTI, hNd⟩)), q_3, q_5, q_1, cA_4, cA_6, cA_2, by rw [ht]; exact hP9, va_K.moved hW.alike hK9, hD9⟩, hS.F ht⟩) hS.2.2 d_LineReader_init_93

abbrev at_c_Sheet_init (dC : Nat → ClassId) (dI : Nat → Nat → Nat) (h0 : Nat) (pg : Nat) (d : Int32) (p_size : Int32) (p_orientation : Int32) (p_copies : Int32) (p_top : Int32) (p_length : Int32) (p_left : Int32) (p_right : Int32) (p_stepAcross : Int32) (p_stepDown : Int32) (p_x : Int32) (p_y : Int32) (p_wrap : Int32) (p_skip : Int32) (p_lineEnd : Int32) (p_font : Int32) (p_stack : Nat) (p_stacked : Int32) (p_kept : Nat) (bn : Int32) (bb : Nat) (dw : Nat) (A : Nat → Prop) (u : Unit) (t : State) : Prop := match u with
  | _ => ∃ (q_1 : Nat) (q_3 : Nat) (q_9 : Nat) (cA_2 : ClassId) (cA_4 : ClassId) (cA_10 : ClassId), va_P (dC, dI) vcl [(h0, .inr (12, [.ref pg, .ref q_1, .int 0, .ref q_3, .int 0, .int 0, .int 0, .ref q_9, .int (nI bb), .int 0, .int 0, .int 0, .int 0, .int 0, .int 0, .int 0, .int 0])), (pg, .inr (8, [.int d, .int p_size, .int p_orientation, .int p_copies, .int p_top, .int p_length, .int p_left, .int p_right, .int p_stepAcross, .int p_stepDown, .int p_x, .int p_y, .int p_wrap, .int p_skip, .int p_lineEnd, .int p_font, .ref p_stack, .int p_stacked, .ref p_kept])), (q_1, .inl (cA_2, 24576, .inl (fun _ => 0))), (q_3, .inl (cA_4, 65536, .inl (fun _ => 0))), (q_9, .inl (cA_10, bb * dw, .inr (.inl (fun _ => 0))))] t.heap ∧ va_K (dC, dI) vcl [(cA_2, .int), (cA_4, .byte), (cA_10, .long)] t ∧ va_D A [(h0, .inr (12, [.ref pg, .ref q_1, .int 0, .ref q_3, .int 0, .int 0, .int 0, .ref q_9, .int (nI bb), .int 0, .int 0, .int 0, .int 0, .int 0, .int 0, .int 0, .int 0])), (pg, .inr (8, [.int d, .int p_size, .int p_orientation, .int p_copies, .int p_top, .int p_length, .int p_left, .int p_right, .int p_stepAcross, .int p_stepDown, .int p_x, .int p_y, .int p_wrap, .int p_skip, .int p_lineEnd, .int p_font, .ref p_stack, .int p_stacked, .ref p_kept])), (q_1, .inl (cA_2, 24576, .inl (fun _ => 0))), (q_3, .inl (cA_4, 65536, .inl (fun _ => 0))), (q_9, .inl (cA_10, bb * dw, .inr (.inl (fun _ => 0))))]
abbrev po_c_Sheet_init (h0 : Nat) (pg : Nat) (d : Int32) (p_size : Int32) (p_orientation : Int32) (p_copies : Int32) (p_top : Int32) (p_length : Int32) (p_left : Int32) (p_right : Int32) (p_stepAcross : Int32) (p_stepDown : Int32) (p_x : Int32) (p_y : Int32) (p_wrap : Int32) (p_skip : Int32) (p_lineEnd : Int32) (p_font : Int32) (p_stack : Nat) (p_stacked : Int32) (p_kept : Nat) (bn : Int32) (bb : Nat) (dw : Nat) (u : Unit) : Prop := match u with
  | _ => True
abbrev q_c_Sheet_init (dC : Nat → ClassId) (dI : Nat → Nat → Nat) (h0 : Nat) (pg : Nat) (d : Int32) (p_size : Int32) (p_orientation : Int32) (p_copies : Int32) (p_top : Int32) (p_length : Int32) (p_left : Int32) (p_right : Int32) (p_stepAcross : Int32) (p_stepDown : Int32) (p_x : Int32) (p_y : Int32) (p_wrap : Int32) (p_skip : Int32) (p_lineEnd : Int32) (p_font : Int32) (p_stack : Nat) (p_stacked : Int32) (p_kept : Nat) (bn : Int32) (bb : Nat) (dw : Nat) (A : Nat → Prop) : Array Value → State → Outcome → State → Prop := va_Qv (po_c_Sheet_init h0 pg d p_size p_orientation p_copies p_top p_length p_left p_right p_stepAcross p_stepDown p_x p_y p_wrap p_skip p_lineEnd p_font p_stack p_stacked p_kept bn bb dw) (at_c_Sheet_init dC dI h0 pg d p_size p_orientation p_copies p_top p_length p_left p_right p_stepAcross p_stepDown p_x p_y p_wrap p_skip p_lineEnd p_font p_stack p_stacked p_kept bn bb dw A) A
abbrev rm_c_Sheet_init : Room := { frames := 1, cells := 3, slots := 143360, locals := 20 }
set_option maxHeartbeats 4000000 in
set_option maxRecDepth 100000 in
theorem c_Sheet_init (l : Launch) (dC : Nat → ClassId) (dI : Nat → Nat → Nat) (tt : Nat → Nat) (h0 : Nat) (pg : Nat) (d : Int32) (p_size : Int32) (p_orientation : Int32) (p_copies : Int32) (p_top : Int32) (p_length : Int32) (p_left : Int32) (p_right : Int32) (p_stepAcross : Int32) (p_stepDown : Int32) (p_x : Int32) (p_y : Int32) (p_wrap : Int32) (p_skip : Int32) (p_lineEnd : Int32) (p_font : Int32) (p_stack : Nat) (p_stacked : Int32) (p_kept : Nat) (bn : Int32) (bb : Nat) (dw : Nat) (sz : Nat) (hbb : bb ≤ 1024) (ebb : bl_of bn = nI bb) (hdw : dw ≤ 52) (edw : (79200 * d / 7200 + 63) / 64 = nI dw) : Met l y_Sheet_init w_Sheet_init rm_c_Sheet_init (va_Pc [.ref h0, .ref pg, .int bn] (fun U => U.heap.size = sz ∧ va_P (dC, dI) vcl [(h0, .inr (12, [.null, .null, .int 0, .null, .int 0, .int 0, .int 0, .null, .int 0, .int 0, .int 0, .int 0, .int 0, .int 0, .int 0, .int 0, .int 0])), (pg, .inr (8, [.int d, .int p_size, .int p_orientation, .int p_copies, .int p_top, .int p_length, .int p_left, .int p_right, .int p_stepAcross, .int p_stepDown, .int p_x, .int p_y, .int p_wrap, .int p_skip, .int p_lineEnd, .int p_font, .ref p_stack, .int p_stacked, .ref p_kept]))] U.heap ∧ va_K (dC, dI) vcl [] U ∧ va_D (fun _ => True) [(h0, .inr (12, [.null, .null, .int 0, .null, .int 0, .int 0, .int 0, .null, .int 0, .int 0, .int 0, .int 0, .int 0, .int 0, .int 0, .int 0, .int 0])), (pg, .inr (8, [.int d, .int p_size, .int p_orientation, .int p_copies, .int p_top, .int p_length, .int p_left, .int p_right, .int p_stepAcross, .int p_stepDown, .int p_x, .int p_y, .int p_wrap, .int p_skip, .int p_lineEnd, .int p_font, .ref p_stack, .int p_stacked, .ref p_kept]))] ∧ SF tt (va_A [(h0, .inr (12, [.null, .null, .int 0, .null, .int 0, .int 0, .int 0, .null, .int 0, .int 0, .int 0, .int 0, .int 0, .int 0, .int 0, .int 0, .int 0])), (pg, .inr (8, [.int d, .int p_size, .int p_orientation, .int p_copies, .int p_top, .int p_length, .int p_left, .int p_right, .int p_stepAcross, .int p_stepDown, .int p_x, .int p_y, .int p_wrap, .int p_skip, .int p_lineEnd, .int p_font, .ref p_stack, .int p_stacked, .ref p_kept]))] sz) U U.heap)) (q_c_Sheet_init dC dI h0 pg d p_size p_orientation p_copies p_top p_length p_left p_right p_stepAcross p_stepDown p_x p_y p_wrap p_skip p_lineEnd p_font p_stack p_stacked p_kept bn bb dw (va_A [(h0, .inr (12, [.null, .null, .int 0, .null, .int 0, .int 0, .int 0, .null, .int 0, .int 0, .int 0, .int 0, .int 0, .int 0, .int 0, .int 0, .int 0])), (pg, .inr (8, [.int d, .int p_size, .int p_orientation, .int p_copies, .int p_top, .int p_length, .int p_left, .int p_right, .int p_stepAcross, .int p_stepDown, .int p_x, .int p_y, .int p_wrap, .int p_skip, .int p_lineEnd, .int p_font, .ref p_stack, .int p_stacked, .ref p_kept]))] sz)) 3 143360 (va_A [(h0, .inr (12, [.null, .null, .int 0, .null, .int 0, .int 0, .int 0, .null, .int 0, .int 0, .int 0, .int 0, .int 0, .int 0, .int 0, .int 0, .int 0])), (pg, .inr (8, [.int d, .int p_size, .int p_orientation, .int p_copies, .int p_top, .int p_length, .int p_left, .int p_right, .int p_stepAcross, .int p_stepDown, .int p_x, .int p_y, .int p_wrap, .int p_skip, .int p_lineEnd, .int p_font, .ref p_stack, .int p_stacked, .ref p_kept]))] sz) := by
  refine Met.ofW (cc := b_Sheet_init) (maxL := 3) (ret := none) (by decide) rfl ?_
  intro p e s m args below meth c s₁ B hml hv
  obtain ⟨rfl, hsz, hP, hK, hD0, hF⟩ := hv
  have hx := B.exec
  have hb := B.bytes
  have hr := B.returns
  have hwd : ∀ w ∈ gT, w.before _ s = true := fun w h => atoms_spec (ws := w_Sheet_init) B.pre w (List.mem_cons_of_mem _ h)
  have hown : s.vm.findClass R_Sheet = some m.cls := findClass_of_methodNamed B.named
  have hlocks := B.notSynchronized
  have hin : meth.name = "<init>" := (name_of_methodNamed B.named B.method).1
  subst hsz
  have hD := hD0.self (sz := s.heap.size)
  generalize hAe : va_A [(h0, .inr (12, [.null, .null, .int 0, .null, .int 0, .int 0, .int 0, .null, .int 0, .int 0, .int 0, .int 0, .int 0, .int 0, .int 0, .int 0, .int 0])), (pg, .inr (8, [.int d, .int p_size, .int p_orientation, .int p_copies, .int p_top, .int p_length, .int p_left, .int p_right, .int p_stepAcross, .int p_stepDown, .int p_x, .int p_y, .int p_wrap, .int p_skip, .int p_lineEnd, .int p_font, .ref p_stack, .int p_stacked, .ref p_kept]))] s.heap.size = A at hD hF ⊢
  have hA : ∀ q : Nat, s.heap.size ≤ q → A q := fun q h => by rw [← hAe]; exact Or.inr h
  have hS : va_S A s.heap s.heap [] := va_S.rf
  have hP : va_P (dC, dI) vcl [(h0, .inr (12, [.null, .null, .int 0, .null, .int 0, .int 0, .int 0, .null, .int 0, .int 0, .int 0, .int 0, .int 0, .int 0, .int 0, .int 0, .int 0])), (pg, .inr (8, [.int d, .int p_size, .int p_orientation, .int p_copies, .int p_top, .int p_length, .int p_left, .int p_right, .int p_stepAcross, .int p_stepDown, .int p_x, .int p_y, .int p_wrap, .int p_skip, .int p_lineEnd, .int p_font, .ref p_stack, .int p_stacked, .ref p_kept]))] s.heap := hP
  have hl := lv_entry ([.ref h0, .ref pg, .int bn]) (n := 3) (Nat.le_of_ble_eq_true rfl)
  rw [lg_entry_eq]
  generalize (lg_sl ([.ref h0, .ref pg, .int bn]) ++ List.replicate (3 - (lg_sl ([.ref h0, .ref pg, .int bn])).length) Slot.unset).toArray = ls at hl ⊢
  have hl : lv_has ls 3 [(0, .ref h0), (1, .ref pg), (2, .int bn)] := hl
  refine lv_aload_n hx hb d_Sheet_init_0 rfl (lv_at hl 0 rfl) ?_
  refine W.objInit hx hb hown (hwd _ wd_1_173) (hwd _ wd_1_35) (hwd _ wd_1_36) rfl (by rw [hml]; exact hl.1) rfl d_Sheet_init_1 (Nat.le_of_ble_eq_true rfl) (Nat.le_of_ble_eq_true rfl) ?_
  refine W.eq (g2 := F0 m 4 ls []) rfl ?_
  refine lv_aload_n hx hb d_Sheet_init_4 rfl (lv_at hl 0 rfl) ?_
  refine lv_sipush (v := 24576) hx hb d_Sheet_init_5 (by decide) ?_
  refine va_newa (atype := .int) (N' := 24576) (a0 := (24576, .inl (fun _ => 0))) (ty := .int) (n := 24576) hx hb (hwd _ wd_1_167) rfl hK hP hD hS hA (fun _ => rfl) (by decide) (by decide) (by decide) (Nat.le_of_ble_eq_true rfl) (Nat.le_of_ble_eq_true rfl) d_Sheet_init_8 ?_
  clear hP hD hS hK
  intro q_1 cA_2 H hK hP hD hS
  replace hP : va_P (dC, dI) vcl [(h0, .inr (12, [.null, .null, .int 0, .null, .int 0, .int 0, .int 0, .null, .int 0, .int 0, .int 0, .int 0, .int 0, .int 0, .int 0, .int 0, .int 0])), (pg, .inr (8, [.int d, .int p_size, .int p_orientation, .int p_copies, .int p_top, .int p_length, .int p_left, .int p_right, .int p_stepAcross, .int p_stepDown, .int p_x, .int p_y, .int p_wrap, .int p_skip, .int p_lineEnd, .int p_font, .ref p_stack, .int p_stacked, .ref p_kept])), (q_1, .inl (cA_2, 24576, .inl (fun _ => 0)))] H := hP
  replace hD : va_D A [(h0, .inr (12, [.null, .null, .int 0, .null, .int 0, .int 0, .int 0, .null, .int 0, .int 0, .int 0, .int 0, .int 0, .int 0, .int 0, .int 0, .int 0])), (pg, .inr (8, [.int d, .int p_size, .int p_orientation, .int p_copies, .int p_top, .int p_length, .int p_left, .int p_right, .int p_stepAcross, .int p_stepDown, .int p_x, .int p_y, .int p_wrap, .int p_skip, .int p_lineEnd, .int p_font, .ref p_stack, .int p_stacked, .ref p_kept])), (q_1, .inl (cA_2, 24576, .inl (fun _ => 0)))] := hD
  replace hK : va_K (dC, dI) vcl [(cA_2, .int)] s := hK
  refine W.widen (k := 1) (n := 24576) (by decide) (by decide) ?_
  refine va_putF (D := (dC, dI)) (ci := 12) (v := .ref q_1) (ty := (.array .int)) (C := R_Sheet) (T := F_Sheet) (N := 17) hx hb hwd i_Sheet t_Sheet to_Sheet no_Sheet hown hK hP hD hS 0 rfl rfl 1 (by decide) (hwd _ wd_1_186) (fun _ h9 => h9) rfl hin rfl (by decide +kernel) rfl rfl (Nat.le_of_ble_eq_true rfl) d_Sheet_init_10 ?_
  clear hP hD hS
  intro H locs hP hD hS
  replace hP : va_P (dC, dI) vcl [(h0, .inr (12, [.null, .ref q_1, .int 0, .null, .int 0, .int 0, .int 0, .null, .int 0, .int 0, .int 0, .int 0, .int 0, .int 0, .int 0, .int 0, .int 0])), (pg, .inr (8, [.int d, .int p_size, .int p_orientation, .int p_copies, .int p_top, .int p_length, .int p_left, .int p_right, .int p_stepAcross, .int p_stepDown, .int p_x, .int p_y, .int p_wrap, .int p_skip, .int p_lineEnd, .int p_font, .ref p_stack, .int p_stacked, .ref p_kept])), (q_1, .inl (cA_2, 24576, .inl (fun _ => 0)))] H := hP
  replace hD : va_D A [(h0, .inr (12, [.null, .ref q_1, .int 0, .null, .int 0, .int 0, .int 0, .null, .int 0, .int 0, .int 0, .int 0, .int 0, .int 0, .int 0, .int 0, .int 0])), (pg, .inr (8, [.int d, .int p_size, .int p_orientation, .int p_copies, .int p_top, .int p_length, .int p_left, .int p_right, .int p_stepAcross, .int p_stepDown, .int p_x, .int p_y, .int p_wrap, .int p_skip, .int p_lineEnd, .int p_font, .ref p_stack, .int p_stacked, .ref p_kept])), (q_1, .inl (cA_2, 24576, .inl (fun _ => 0)))] := hD
  refine lv_aload_n hx hb d_Sheet_init_13 rfl (lv_at hl 0 rfl) ?_
  refine lv_ldc hx hb hown (hwd _ wd_1_174) d_Sheet_init_14 ?_
  refine va_newa (atype := .byte) (N' := 65536) (a0 := (65536, .inl (fun _ => 0))) (ty := .byte) (n := 65536) hx hb (hwd _ wd_1_166) rfl hK hP hD hS hA (fun _ => rfl) (by decide) (by decide) (by decide) (Nat.le_of_ble_eq_true rfl) (Nat.le_of_ble_eq_true rfl) d_Sheet_init_16 ?_
  clear hP hD hS hK
  intro q_3 cA_4 H hK hP hD hS
  replace hP : va_P (dC, dI) vcl [(h0, .inr (12, [.null, .ref q_1, .int 0, .null, .int 0, .int 0, .int 0, .null, .int 0, .int 0, .int 0, .int 0, .int 0, .int 0, .int 0, .int 0, .int 0])), (pg, .inr (8, [.int d, .int p_size, .int p_orientation, .int p_copies, .int p_top, .int p_length, .int p_left, .int p_right, .int p_stepAcross, .int p_stepDown, .int p_x, .int p_y, .int p_wrap, .int p_skip, .int p_lineEnd, .int p_font, .ref p_stack, .int p_stacked, .ref p_kept])), (q_1, .inl (cA_2, 24576, .inl (fun _ => 0))), (q_3, .inl (cA_4, 65536, .inl (fun _ => 0)))] H := hP
  replace hD : va_D A [(h0, .inr (12, [.null, .ref q_1, .int 0, .null, .int 0, .int 0, .int 0, .null, .int 0, .int 0, .int 0, .int 0, .int 0, .int 0, .int 0, .int 0, .int 0])), (pg, .inr (8, [.int d, .int p_size, .int p_orientation, .int p_copies, .int p_top, .int p_length, .int p_left, .int p_right, .int p_stepAcross, .int p_stepDown, .int p_x, .int p_y, .int p_wrap, .int p_skip, .int p_lineEnd, .int p_font, .ref p_stack, .int p_stacked, .ref p_kept])), (q_1, .inl (cA_2, 24576, .inl (fun _ => 0))), (q_3, .inl (cA_4, 65536, .inl (fun _ => 0)))] := hD
  replace hK : va_K (dC, dI) vcl [(cA_2, .int), (cA_4, .byte)] s := hK
  refine W.widen (k := 2) (n := 90112) (by decide) (by decide) ?_
  refine va_putF (D := (dC, dI)) (ci := 12) (v := .ref q_3) (ty := (.array .byte)) (C := R_Sheet) (T := F_Sheet) (N := 17) hx hb hwd i_Sheet t_Sheet to_Sheet no_Sheet hown hK hP hD hS 0 rfl rfl 3 (by decide) (hwd _ wd_1_189) (fun _ h9 => h9) rfl hin rfl (by decide +kernel) rfl rfl (Nat.le_of_ble_eq_true rfl) d_Sheet_init_18 ?_
  clear hP hD hS
  intro H locs hP hD hS
  replace hP : va_P (dC, dI) vcl [(h0, .inr (12, [.null, .ref q_1, .int 0, .ref q_3, .int 0, .int 0, .int 0, .null, .int 0, .int 0, .int 0, .int 0, .int 0, .int 0, .int 0, .int 0, .int 0])), (pg, .inr (8, [.int d, .int p_size, .int p_orientation, .int p_copies, .int p_top, .int p_length, .int p_left, .int p_right, .int p_stepAcross, .int p_stepDown, .int p_x, .int p_y, .int p_wrap, .int p_skip, .int p_lineEnd, .int p_font, .ref p_stack, .int p_stacked, .ref p_kept])), (q_1, .inl (cA_2, 24576, .inl (fun _ => 0))), (q_3, .inl (cA_4, 65536, .inl (fun _ => 0)))] H := hP
  replace hD : va_D A [(h0, .inr (12, [.null, .ref q_1, .int 0, .ref q_3, .int 0, .int 0, .int 0, .null, .int 0, .int 0, .int 0, .int 0, .int 0, .int 0, .int 0, .int 0, .int 0])), (pg, .inr (8, [.int d, .int p_size, .int p_orientation, .int p_copies, .int p_top, .int p_length, .int p_left, .int p_right, .int p_stepAcross, .int p_stepDown, .int p_x, .int p_y, .int p_wrap, .int p_skip, .int p_lineEnd, .int p_font, .ref p_stack, .int p_stacked, .ref p_kept])), (q_1, .inl (cA_2, 24576, .inl (fun _ => 0))), (q_3, .inl (cA_4, 65536, .inl (fun _ => 0)))] := hD
  refine lv_aload_n hx hb d_Sheet_init_21 rfl (lv_at hl 0 rfl) ?_
  refine lv_aload_n hx hb d_Sheet_init_22 rfl (lv_at hl 1 rfl) ?_
  refine va_putF (D := (dC, dI)) (ci := 12) (v := .ref pg) (ty := (.object "SheetPrinter$Page")) (C := R_Sheet) (T := F_Sheet) (N := 17) hx hb hwd i_Sheet t_Sheet to_Sheet no_Sheet hown hK hP hD hS 0 rfl rfl 0 (by decide) (hwd _ wd_1_185) (fun _ h9 => h9) rfl hin rfl (by decide +kernel) rfl rfl (Nat.le_of_ble_eq_true rfl) d_Sheet_init_23 ?_
  clear hP hD hS
  intro H locs hP hD hS
  replace hP : va_P (dC, dI) vcl [(h0, .inr (12, [.ref pg, .ref q_1, .int 0, .ref q_3, .int 0, .int 0, .int 0, .null, .int 0, .int 0, .int 0, .int 0, .int 0, .int 0, .int 0, .int 0, .int 0])), (pg, .inr (8, [.int d, .int p_size, .int p_orientation, .int p_copies, .int p_top, .int p_length, .int p_left, .int p_right, .int p_stepAcross, .int p_stepDown, .int p_x, .int p_y, .int p_wrap, .int p_skip, .int p_lineEnd, .int p_font, .ref p_stack, .int p_stacked, .ref p_kept])), (q_1, .inl (cA_2, 24576, .inl (fun _ => 0))), (q_3, .inl (cA_4, 65536, .inl (fun _ => 0)))] H := hP
  replace hD : va_D A [(h0, .inr (12, [.ref pg, .ref q_1, .int 0, .ref q_3, .int 0, .int 0, .int 0, .null, .int 0, .int 0, .int 0, .int 0, .int 0, .int 0, .int 0, .int 0, .int 0])), (pg, .inr (8, [.int d, .int p_size, .int p_orientation, .int p_copies, .int p_top, .int p_length, .int p_left, .int p_right, .int p_stepAcross, .int p_stepDown, .int p_x, .int p_y, .int p_wrap, .int p_skip, .int p_lineEnd, .int p_font, .ref p_stack, .int p_stacked, .ref p_kept])), (q_1, .inl (cA_2, 24576, .inl (fun _ => 0))), (q_3, .inl (cA_4, 65536, .inl (fun _ => 0)))] := hD
  refine lv_aload_n hx hb d_Sheet_init_26 rfl (lv_at hl 0 rfl) ?_
  refine lv_iconst (v := 1) hx hb d_Sheet_init_27 (by decide) ?_
  refine lv_sipush (v := 1024) hx hb d_Sheet_init_28 (by decide) ?_
  refine lv_iload_n hx hb d_Sheet_init_31 rfl (lv_at hl 2 rfl) ?_
  refine va_mmin hx hb (hml.trans hl.1.symm) hown (hwd _ wd_1_175) (hwd _ wd_1_176) (hwd _ wd_1_3) (hwd _ wd_1_177) (Nat.le_of_ble_eq_true rfl) (Nat.le_of_ble_eq_true rfl) (Nat.le_of_ble_eq_true rfl) (Nat.le_of_ble_eq_true rfl) d_Sheet_init_32 ?_
  refine va_mmax hx hb (hml.trans hl.1.symm) hown (hwd _ wd_1_178) (hwd _ wd_1_179) (hwd _ wd_1_3) (hwd _ wd_1_180) (Nat.le_of_ble_eq_true rfl) (Nat.le_of_ble_eq_true rfl) (Nat.le_of_ble_eq_true rfl) (Nat.le_of_ble_eq_true rfl) d_Sheet_init_35 ?_
  refine lv_topi (fun y_5 ey_5 => ?_)
  obtain rfl : y_5 = nI bb := ey_5.trans (ebb)
  refine va_putF (D := (dC, dI)) (ci := 12) (v := .int (nI bb)) (ty := .int) (C := R_Sheet) (T := F_Sheet) (N := 17) hx hb hwd i_Sheet t_Sheet to_Sheet no_Sheet hown hK hP hD hS 0 rfl rfl 8 (by decide) (hwd _ wd_1_199) (fun _ h9 => h9) rfl hin rfl (by decide +kernel) rfl rfl (Nat.le_of_ble_eq_true rfl) d_Sheet_init_38 ?_
  clear hP hD hS
  intro H locs hP hD hS
  replace hP : va_P (dC, dI) vcl [(h0, .inr (12, [.ref pg, .ref q_1, .int 0, .ref q_3, .int 0, .int 0, .int 0, .null, .int (nI bb), .int 0, .int 0, .int 0, .int 0, .int 0, .int 0, .int 0, .int 0])), (pg, .inr (8, [.int d, .int p_size, .int p_orientation, .int p_copies, .int p_top, .int p_length, .int p_left, .int p_right, .int p_stepAcross, .int p_stepDown, .int p_x, .int p_y, .int p_wrap, .int p_skip, .int p_lineEnd, .int p_font, .ref p_stack, .int p_stacked, .ref p_kept])), (q_1, .inl (cA_2, 24576, .inl (fun _ => 0))), (q_3, .inl (cA_4, 65536, .inl (fun _ => 0)))] H := hP
  replace hD : va_D A [(h0, .inr (12, [.ref pg, .ref q_1, .int 0, .ref q_3, .int 0, .int 0, .int 0, .null, .int (nI bb), .int 0, .int 0, .int 0, .int 0, .int 0, .int 0, .int 0, .int 0])), (pg, .inr (8, [.int d, .int p_size, .int p_orientation, .int p_copies, .int p_top, .int p_length, .int p_left, .int p_right, .int p_stepAcross, .int p_stepDown, .int p_x, .int p_y, .int p_wrap, .int p_skip, .int p_lineEnd, .int p_font, .ref p_stack, .int p_stacked, .ref p_kept])), (q_1, .inl (cA_2, 24576, .inl (fun _ => 0))), (q_3, .inl (cA_4, 65536, .inl (fun _ => 0)))] := hD
  refine lv_aload_n hx hb d_Sheet_init_41 rfl (lv_at hl 0 rfl) ?_
  refine lv_aload_n hx hb d_Sheet_init_42 rfl (lv_at hl 0 rfl) ?_
  refine va_get (D := (dC, dI)) (ci := 12) (v := .int (nI bb)) (C := R_Sheet) (T := F_Sheet) (N := 17) hx hb hwd i_Sheet hown hK hP 0 rfl rfl 8 (by decide) (hwd _ wd_1_199) (fun _ h9 => h9) rfl d_Sheet_init_43 ?_
  refine lv_ldc hx hb hown (hwd _ wd_1_181) d_Sheet_init_46 ?_
  refine lv_aload_n hx hb d_Sheet_init_48 rfl (lv_at hl 1 rfl) ?_
  refine va_get (D := (dC, dI)) (ci := 8) (v := .int d) (C := R_Page) (T := F_Page) (N := 19) hx hb hwd i_Page hown hK hP 1 rfl rfl 0 (by decide) (hwd _ wd_1_91) (fun _ h9 => h9) rfl d_Sheet_init_49 ?_
  refine lv_imul hx hb d_Sheet_init_52 ?_
  refine lv_sipush (v := 7200) hx hb d_Sheet_init_53 (by decide) ?_
  refine lv_idiv hx hb d_Sheet_init_56 (by decide) ?_
  have hPc := hP.sub (ws' := []) [] rfl
  have hDc := hD.sub (ws' := []) [] (by decide) rfl
  have hKc := hK.sub (tys' := []) [] rfl
  have hFc := va_free (wc := []) hD hS hA [] rfl
  refine va_calli (va_runS (As := [.int ((79200 * d) / 7200)]) (rest := [.int (nI bb), .ref h0]) ⟨hx, hb, hml, hown, hwd⟩ (c_wordsOf l dC dI tt ((79200 * d) / 7200) H.size ) (va_cwS 1 hwd (gS gd_Sheet_wordsOf wd_1_182 wd_1_183 wd_1_4) rfl rfl rfl (by decide +kernel) ⟨Nat.le_of_ble_eq_true rfl, Nat.le_of_ble_eq_true rfl⟩) ⟨fun a U g mk q => by obtain ⟨q0, q1, qP, qK, qD, qF⟩ := q; exact ⟨q0, q1, qP, va_K.moved (u := U) (U := U.calling g mk a) (Vm.Alike.refl U.vm) qK, qD, SF.same (u := U) (U := U.calling g mk a) rfl qF⟩, fun U hU hW => ⟨rfl, by rw [hU], by rw [hU]; exact hPc, va_K.moved hW.alike hKc, hDc.weaken (fun _ _ _ _ => trivial), by rw [hU]; exact SF.narrow (SF.moved hW (SF.kept hF (fun a h1 h2 => hS.2.1 a h1 h2))) hFc⟩⟩ rfl rfl hl.1 rfl (lv_room (Nat.le_of_ble_eq_true rfl)) d_Sheet_init_57 ⟨Nat.le_of_ble_eq_true rfl, Nat.le_of_ble_eq_true rfl⟩) hS (fun q _ h => hFc q h) hFc ?_
  clear hPc hDc hKc hS
  intro r_6 u_7 t H1 locs ht hvm hw hB hz1 hk1 hS
  obtain ⟨hP1, hK1, hD1⟩ := hB
  rw [ht] at hP1
  have hK1 := va_K.moved hvm.symm hK1
  try dsimp only at hw
  have hJ := va_join (wr := [(h0, .inr (12, [.ref pg, .ref q_1, .int 0, .ref q_3, .int 0, .int 0, .int 0, .null, .int (nI bb), .int 0, .int 0, .int 0, .int 0, .int 0, .int 0, .int 0, .int 0])), (pg, .inr (8, [.int d, .int p_size, .int p_orientation, .int p_copies, .int p_top, .int p_length, .int p_left, .int p_right, .int p_stepAcross, .int p_stepDown, .int p_x, .int p_y, .int p_wrap, .int p_skip, .int p_lineEnd, .int p_font, .ref p_stack, .int p_stacked, .ref p_kept])), (q_1, .inl (cA_2, 24576, .inl (fun _ => 0))), (q_3, .inl (cA_4, 65536, .inl (fun _ => 0)))]) (w1 := []) hP hD [] [0, 1, 2, 3] rfl rfl (by decide) (by decide) hk1 hFc hP1 hD1
  clear hP hD hk1 hFc hP1 hD1 hz1
  obtain ⟨hP, hD⟩ := hJ
  clear hK1 ht hvm
  generalize H1 = H at hP hS ⊢
  replace hP : va_P (dC, dI) vcl [(h0, .inr (12, [.ref pg, .ref q_1, .int 0, .ref q_3, .int 0, .int 0, .int 0, .null, .int (nI bb), .int 0, .int 0, .int 0, .int 0, .int 0, .int 0, .int 0, .int 0])), (pg, .inr (8, [.int d, .int p_size, .int p_orientation, .int p_copies, .int p_top, .int p_length, .int p_left, .int p_right, .int p_stepAcross, .int p_stepDown, .int p_x, .int p_y, .int p_wrap, .int p_skip, .int p_lineEnd, .int p_font, .ref p_stack, .int p_stacked, .ref p_kept])), (q_1, .inl (cA_2, 24576, .inl (fun _ => 0))), (q_3, .inl (cA_4, 65536, .inl (fun _ => 0)))] H := hP
  replace hD : va_D A [(h0, .inr (12, [.ref pg, .ref q_1, .int 0, .ref q_3, .int 0, .int 0, .int 0, .null, .int (nI bb), .int 0, .int 0, .int 0, .int 0, .int 0, .int 0, .int 0, .int 0])), (pg, .inr (8, [.int d, .int p_size, .int p_orientation, .int p_copies, .int p_top, .int p_length, .int p_left, .int p_right, .int p_stepAcross, .int p_stepDown, .int p_x, .int p_y, .int p_wrap, .int p_skip, .int p_lineEnd, .int p_font, .ref p_stack, .int p_stacked, .ref p_kept])), (q_1, .inl (cA_2, 24576, .inl (fun _ => 0))), (q_3, .inl (cA_4, 65536, .inl (fun _ => 0)))] := hD
  obtain rfl := hw
  refine lv_imul hx hb d_Sheet_init_60 ?_
  refine lv_topi (fun y_8 ey_8 => ?_)
  obtain rfl : y_8 = nI (bb * dw) := ey_8.trans (by rw [edw]; exact pk_mul bb dw)
  have hbd : bb * dw ≤ 53248 := Nat.mul_le_mul hbb hdw
  refine va_newa (atype := .long) (N' := bb * dw) (a0 := (bb * dw, .inr (.inl (fun _ => 0)))) (ty := .long) (n := nI (bb * dw)) hx hb (hwd _ wd_2_5) rfl hK hP hD hS hA (fun _ => rfl) (nI_pos (by omega)) (nI_clamp (by omega)) (by show bb * dw * 8 ≤ 536870912; omega) (Nat.le_of_ble_eq_true rfl) (by show 90112 + bb * dw ≤ 143360; omega) d_Sheet_init_61 ?_
  clear hP hD hS hK
  intro q_9 cA_10 H hK hP hD hS
  replace hP : va_P (dC, dI) vcl [(h0, .inr (12, [.ref pg, .ref q_1, .int 0, .ref q_3, .int 0, .int 0, .int 0, .null, .int (nI bb), .int 0, .int 0, .int 0, .int 0, .int 0, .int 0, .int 0, .int 0])), (pg, .inr (8, [.int d, .int p_size, .int p_orientation, .int p_copies, .int p_top, .int p_length, .int p_left, .int p_right, .int p_stepAcross, .int p_stepDown, .int p_x, .int p_y, .int p_wrap, .int p_skip, .int p_lineEnd, .int p_font, .ref p_stack, .int p_stacked, .ref p_kept])), (q_1, .inl (cA_2, 24576, .inl (fun _ => 0))), (q_3, .inl (cA_4, 65536, .inl (fun _ => 0))), (q_9, .inl (cA_10, bb * dw, .inr (.inl (fun _ => 0))))] H := hP
  replace hD : va_D A [(h0, .inr (12, [.ref pg, .ref q_1, .int 0, .ref q_3, .int 0, .int 0, .int 0, .null, .int (nI bb), .int 0, .int 0, .int 0, .int 0, .int 0, .int 0, .int 0, .int 0])), (pg, .inr (8, [.int d, .int p_size, .int p_orientation, .int p_copies, .int p_top, .int p_length, .int p_left, .int p_right, .int p_stepAcross, .int p_stepDown, .int p_x, .int p_y, .int p_wrap, .int p_skip, .int p_lineEnd, .int p_font, .ref p_stack, .int p_stacked, .ref p_kept])), (q_1, .inl (cA_2, 24576, .inl (fun _ => 0))), (q_3, .inl (cA_4, 65536, .inl (fun _ => 0))), (q_9, .inl (cA_10, bb * dw, .inr (.inl (fun _ => 0))))] := hD
  replace hK : va_K (dC, dI) vcl [(cA_2, .int), (cA_4, .byte), (cA_10, .long)] s := hK
  refine W.widen (k := 3) (n := 143360) (by decide) (by omega) ?_
  refine va_putF (D := (dC, dI)) (ci := 12) (v := .ref q_9) (ty := (.array .long)) (C := R_Sheet) (T := F_Sheet) (N := 17) hx hb hwd i_Sheet t_Sheet to_Sheet no_Sheet hown hK hP hD hS 0 rfl rfl 7 (by decide) (hwd _ wd_1_197) (fun _ h9 => h9) rfl hin rfl (by decide +kernel) rfl rfl (Nat.le_of_ble_eq_true rfl) d_Sheet_init_63 ?_
  clear hP hD hS
  intro H locs hP hD hS
  replace hP : va_P (dC, dI) vcl [(h0, .inr (12, [.ref pg, .ref q_1, .int 0, .ref q_3, .int 0, .int 0, .int 0, .ref q_9, .int (nI bb), .int 0, .int 0, .int 0, .int 0, .int 0, .int 0, .int 0, .int 0])), (pg, .inr (8, [.int d, .int p_size, .int p_orientation, .int p_copies, .int p_top, .int p_length, .int p_left, .int p_right, .int p_stepAcross, .int p_stepDown, .int p_x, .int p_y, .int p_wrap, .int p_skip, .int p_lineEnd, .int p_font, .ref p_stack, .int p_stacked, .ref p_kept])), (q_1, .inl (cA_2, 24576, .inl (fun _ => 0))), (q_3, .inl (cA_4, 65536, .inl (fun _ => 0))), (q_9, .inl (cA_10, bb * dw, .inr (.inl (fun _ => 0))))] H := hP
  replace hD : va_D A [(h0, .inr (12, [.ref pg, .ref q_1, .int 0, .ref q_3, .int 0, .int 0, .int 0, .ref q_9, .int (nI bb), .int 0, .int 0, .int 0, .int 0, .int 0, .int 0, .int 0, .int 0])), (pg, .inr (8, [.int d, .int p_size, .int p_orientation, .int p_copies, .int p_top, .int p_length, .int p_left, .int p_right, .int p_stepAcross, .int p_stepDown, .int p_x, .int p_y, .int p_wrap, .int p_skip, .int p_lineEnd, .int p_font, .ref p_stack, .int p_stacked, .ref p_kept])), (q_1, .inl (cA_2, 24576, .inl (fun _ => 0))), (q_3, .inl (cA_4, 65536, .inl (fun _ => 0))), (q_9, .inl (cA_10, bb * dw, .inr (.inl (fun _ => 0))))] := hD
  have hP9 := hP.sub (ws' := [(h0, .inr (12, [.ref pg, .ref q_1, .int 0, .ref q_3, .int 0, .int 0, .int 0, .ref q_9, .int (nI bb), .int 0, .int 0, .int 0, .int 0, .int 0, .int 0, .int 0, .int 0])), (pg, .inr (8, [.int d, .int p_size, .int p_orientation, .int p_copies, .int p_top, .int p_length, .int p_left, .int p_right, .int p_stepAcross, .int p_stepDown, .int p_x, .int p_y, .int p_wrap, .int p_skip, .int p_lineEnd, .int p_font, .ref p_stack, .int p_stacked, .ref p_kept])), (q_1, .inl (cA_2, 24576, .inl (fun _ => 0))), (q_3, .inl (cA_4, 65536, .inl (fun _ => 0))), (q_9, .inl (cA_10, bb * dw, .inr (.inl (fun _ => 0))))]) [0, 1, 2, 3, 4] rfl
  have hD9 := hD.sub (ws' := [(h0, .inr (12, [.ref pg, .ref q_1, .int 0, .ref q_3, .int 0, .int 0, .int 0, .ref q_9, .int (nI bb), .int 0, .int 0, .int 0, .int 0, .int 0, .int 0, .int 0, .int 0])), (pg, .inr (8, [.int d, .int p_size, .int p_orientation, .int p_copies, .int p_top, .int p_length, .int p_left, .int p_right, .int p_stepAcross, .int p_stepDown, .int p_x, .int p_y, .int p_wrap, .int p_skip, .int p_lineEnd, .int p_font, .ref p_stack, .int p_stacked, .ref p_kept])), (q_1, .inl (cA_2, 24576, .inl (fun _ => 0))), (q_3, .inl (cA_4, 65536, .inl (fun _ => 0))), (q_9, .inl (cA_10, bb * dw, .inr (.inl (fun _ => 0))))]) [0, 1, 2, 3, 4] (by decide) rfl
  have hK9 := hK.sub (tys' := [(cA_2, .int), (cA_4, .byte), (cA_10, .long)]) [0, 1, 2] rfl
  exact W.vret hx hb hr (fun t ht hW => ⟨⟨(), rfl, (trivial), q_1, q_3, q_9, cA_2, cA_4, cA_10, by rw [ht]; exact hP9, va_K.moved hW.alike hK9, hD9⟩, hS.F ht⟩) hS.2.2 d_Sheet_init_66
