theorem wd_1_1 : (Jvm.Cond.initialized "SheetPrinter") ∈ gT := gT_in (in_1 _ (List.mem_of_getElem? (i := 1) rfl)) rfl
theorem wd_2_102 : (Jvm.Cond.fieldLink "SheetPrinter" (224 : Nat) "SheetPrinter$FontShelf" "fonts" "I") ∈ gT := gT_in (in_2 _ (List.mem_of_getElem? (i := 102) rfl)) rfl
theorem wd_2_105 : (Jvm.Cond.fieldLink "SheetPrinter" (226 : Nat) "SheetPrinter$FontShelf" "glyphCount" "I") ∈ gT := gT_in (in_2 _ (List.mem_of_getElem? (i := 105) rfl)) rfl
theorem wd_2_164 : (Jvm.Cond.fieldLink "SheetPrinter" (232 : Nat) "SheetPrinter$Macros" "count" "I") ∈ gT := gT_in (in_2 _ (List.mem_of_getElem? (i := 164) rfl)) rfl
theorem wd_2_167 : (Jvm.Cond.fieldLink "SheetPrinter" (233 : Nat) "SheetPrinter$Macros" "used" "I") ∈ gT := gT_in (in_2 _ (List.mem_of_getElem? (i := 167) rfl)) rfl
theorem wd_2_169 : (Jvm.Cond.fieldLink "SheetPrinter" (237 : Nat) "SheetPrinter$Macros" "had" "I") ∈ gT := gT_in (in_2 _ (List.mem_of_getElem? (i := 169) rfl)) rfl
theorem wd_2_173 : (Jvm.Cond.fieldLink "SheetPrinter" (234 : Nat) "SheetPrinter$Macros" "reading" "Z") ∈ gT := gT_in (in_2 _ (List.mem_of_getElem? (i := 173) rfl)) rfl
theorem wd_2_231 : (Jvm.Cond.fieldLink "SheetPrinter" (240 : Nat) "SheetPrinter$Raster" "open" "Z") ∈ gT := gT_in (in_2 _ (List.mem_of_getElem? (i := 231) rfl)) rfl
theorem wd_3_222 : (Jvm.Cond.fieldLink "SheetPrinter" (138 : Nat) "SheetPrinter$OutFile" "pages" "I") ∈ gT := gT_in (in_3 _ (List.mem_of_getElem? (i := 222) rfl)) rfl
theorem wd_4_139 : (Jvm.Cond.fieldLink "SheetPrinter" (104 : Nat) "SheetPrinter" "taped" "I") ∈ gT := gT_in (in_4 _ (List.mem_of_getElem? (i := 139) rfl)) rfl
theorem wd_4_184 : (Jvm.Cond.code ({ cls := "SheetPrinter", name := "tape", desc := "(IIIII)Z" } : Jvm.MethodName) prog_1_method_2_code (6 : Nat) (Option.some Jvm.ClassFile.FieldType.boolean)) ∈ gT := gT_in (in_4 _ (List.mem_of_getElem? (i := 184) rfl)) rfl
theorem wd_4_185 : (Jvm.Cond.methodLink "SheetPrinter" (107 : Nat) ({ cls := "SheetPrinter", name := "tapeNumber", desc := "(I)V" } : Jvm.MethodName)) ∈ gT := gT_in (in_4 _ (List.mem_of_getElem? (i := 185) rfl)) rfl
theorem wd_4_187 : (Jvm.Cond.instanceMethod ({ cls := "SheetPrinter", name := "tapeNumber", desc := "(I)V" } : Jvm.MethodName)) ∈ gT := gT_in (in_4 _ (List.mem_of_getElem? (i := 187) rfl)) rfl
theorem wd_4_188 : (Jvm.Cond.code ({ cls := "SheetPrinter", name := "tapeNumber", desc := "(I)V" } : Jvm.MethodName) prog_1_method_3_code (3 : Nat) (Option.none : Option Jvm.ClassFile.FieldType)) ∈ gT := gT_in (in_4 _ (List.mem_of_getElem? (i := 188) rfl)) rfl
theorem wd_5_134 : (Jvm.Cond.code ({ cls := "SheetPrinter", name := "bytesAt", desc := "(I)J" } : Jvm.MethodName) prog_1_method_6_code (7 : Nat) (Option.some Jvm.ClassFile.FieldType.long)) ∈ gT := gT_in (in_5 _ (List.mem_of_getElem? (i := 134) rfl)) rfl
theorem wd_5_135 : (Jvm.Cond.constantLong "SheetPrinter" (167 : Nat) (8 : Int64)) ∈ gT := gT_in (in_5 _ (List.mem_of_getElem? (i := 135) rfl)) rfl
theorem wd_5_136 : (Jvm.Cond.methodLink "SheetPrinter" (169 : Nat) ({ cls := "SheetPrinter$OutFile", name := "byteAt", desc := "(J)J" } : Jvm.MethodName)) ∈ gT := gT_in (in_5 _ (List.mem_of_getElem? (i := 136) rfl)) rfl
theorem wd_5_137 : (Jvm.Cond.instanceMethod ({ cls := "SheetPrinter$OutFile", name := "byteAt", desc := "(J)J" } : Jvm.MethodName)) ∈ gT := gT_in (in_5 _ (List.mem_of_getElem? (i := 137) rfl)) rfl
theorem wd_5_138 : (Jvm.Cond.selects "SheetPrinter$OutFile" ({ cls := "SheetPrinter$OutFile", name := "byteAt", desc := "(J)J" } : Jvm.MethodName) ({ cls := "SheetPrinter$OutFile", name := "byteAt", desc := "(J)J" } : Jvm.MethodName)) ∈ gT := gT_in (in_5 _ (List.mem_of_getElem? (i := 138) rfl)) rfl
theorem wd_5_139 : (Jvm.Cond.code ({ cls := "SheetPrinter$OutFile", name := "byteAt", desc := "(J)J" } : Jvm.MethodName) prog_7_method_3_code (3 : Nat) (Option.some Jvm.ClassFile.FieldType.long)) ∈ gT := gT_in (in_5 _ (List.mem_of_getElem? (i := 139) rfl)) rfl
theorem wd_5_143 : (Jvm.Cond.code ({ cls := "SheetPrinter", name := "printed", desc := "(III)J" } : Jvm.MethodName) prog_1_method_8_code (6 : Nat) (Option.some Jvm.ClassFile.FieldType.long)) ∈ gT := gT_in (in_5 _ (List.mem_of_getElem? (i := 143) rfl)) rfl
theorem wd_5_205 : (Jvm.Cond.code ({ cls := "SheetPrinter", name := "storeStatus", desc := "(I)I" } : Jvm.MethodName) prog_1_method_10_code (2 : Nat) (Option.some Jvm.ClassFile.FieldType.int)) ∈ gT := gT_in (in_5 _ (List.mem_of_getElem? (i := 205) rfl)) rfl
theorem wd_5_206 : (Jvm.Cond.methodLink "SheetPrinter" (229 : Nat) ({ cls := "SheetPrinter$FontShelf", name := "chosenId", desc := "(I)I" } : Jvm.MethodName)) ∈ gT := gT_in (in_5 _ (List.mem_of_getElem? (i := 206) rfl)) rfl
theorem wd_5_207 : (Jvm.Cond.instanceMethod ({ cls := "SheetPrinter$FontShelf", name := "chosenId", desc := "(I)I" } : Jvm.MethodName)) ∈ gT := gT_in (in_5 _ (List.mem_of_getElem? (i := 207) rfl)) rfl
theorem wd_5_208 : (Jvm.Cond.selects "SheetPrinter$FontShelf" ({ cls := "SheetPrinter$FontShelf", name := "chosenId", desc := "(I)I" } : Jvm.MethodName) ({ cls := "SheetPrinter$FontShelf", name := "chosenId", desc := "(I)I" } : Jvm.MethodName)) ∈ gT := gT_in (in_5 _ (List.mem_of_getElem? (i := 208) rfl)) rfl
theorem wd_5_209 : (Jvm.Cond.code ({ cls := "SheetPrinter$FontShelf", name := "chosenId", desc := "(I)I" } : Jvm.MethodName) prog_3_method_20_code (3 : Nat) (Option.some Jvm.ClassFile.FieldType.int)) ∈ gT := gT_in (in_5 _ (List.mem_of_getElem? (i := 209) rfl)) rfl
theorem wd_5_210 : (Jvm.Cond.methodLink "SheetPrinter$FontShelf" (136 : Nat) ({ cls := "SheetPrinter$FontShelf", name := "chosenSlot", desc := "(I)I" } : Jvm.MethodName)) ∈ gT := gT_in (in_5 _ (List.mem_of_getElem? (i := 210) rfl)) rfl
theorem wd_5_212 : (Jvm.Cond.instanceMethod ({ cls := "SheetPrinter$FontShelf", name := "chosenSlot", desc := "(I)I" } : Jvm.MethodName)) ∈ gT := gT_in (in_5 _ (List.mem_of_getElem? (i := 212) rfl)) rfl
theorem wd_5_213 : (Jvm.Cond.code ({ cls := "SheetPrinter$FontShelf", name := "chosenSlot", desc := "(I)I" } : Jvm.MethodName) prog_3_method_23_code (3 : Nat) (Option.some Jvm.ClassFile.FieldType.int)) ∈ gT := gT_in (in_5 _ (List.mem_of_getElem? (i := 213) rfl)) rfl
theorem ws_22 : Cond.selects "SheetPrinter" ⟨"SheetPrinter", "tapeNumber", "(I)V"⟩ ⟨"SheetPrinter", "tapeNumber", "(I)V"⟩ ∈ gT := gT_in (List.mem_append_left _ (List.mem_of_getElem? (i := 22) rfl)) rfl
theorem ws_47 : Cond.selects "SheetPrinter$FontShelf" ⟨"SheetPrinter$FontShelf", "chosenSlot", "(I)I"⟩ ⟨"SheetPrinter$FontShelf", "chosenSlot", "(I)I"⟩ ∈ gT := gT_in (List.mem_append_left _ (List.mem_of_getElem? (i := 47) rfl)) rfl

abbrev b_Main_tapeNumber : ByteArray := prog_1_method_3_code
abbrev y_Main_tapeNumber : MethodName := ⟨"SheetPrinter", "tapeNumber", "(I)V"⟩
abbrev w_Main_tapeNumber : List Cond := .code y_Main_tapeNumber b_Main_tapeNumber 3 none :: gT
theorem gd_Main_tapeNumber : GoodIn gT w_Main_tapeNumber := gW wd_4_188
theorem d_Main_tapeNumber_0 : decode b_Main_tapeNumber 0 = .ok (.bipush 24, 2) := by decide +kernel
theorem d_Main_tapeNumber_2 : decode b_Main_tapeNumber 2 = .ok (.istore_n 2, 1) := by decide +kernel
theorem d_Main_tapeNumber_3 : decode b_Main_tapeNumber 3 = .ok (.iload_n 2, 1) := by decide +kernel
theorem d_Main_tapeNumber_4 : decode b_Main_tapeNumber 4 = .ok (.ifCond .lt 44, 3) := by decide +kernel
theorem d_Main_tapeNumber_7 : decode b_Main_tapeNumber 7 = .ok (.aload_n 0, 1) := by decide +kernel
theorem d_Main_tapeNumber_8 : decode b_Main_tapeNumber 8 = .ok (.getfield 104, 3) := by decide +kernel
theorem d_Main_tapeNumber_11 : decode b_Main_tapeNumber 11 = .ok (.aload_n 0, 1) := by decide +kernel
theorem d_Main_tapeNumber_12 : decode b_Main_tapeNumber 12 = .ok (.getfield 14, 3) := by decide +kernel
theorem d_Main_tapeNumber_15 : decode b_Main_tapeNumber 15 = .ok (.arraylength, 1) := by decide +kernel
theorem d_Main_tapeNumber_16 : decode b_Main_tapeNumber 16 = .ok (.if_icmp .ge 32, 3) := by decide +kernel
theorem d_Main_tapeNumber_19 : decode b_Main_tapeNumber 19 = .ok (.aload_n 0, 1) := by decide +kernel
theorem d_Main_tapeNumber_20 : decode b_Main_tapeNumber 20 = .ok (.getfield 14, 3) := by decide +kernel
theorem d_Main_tapeNumber_23 : decode b_Main_tapeNumber 23 = .ok (.aload_n 0, 1) := by decide +kernel
theorem d_Main_tapeNumber_24 : decode b_Main_tapeNumber 24 = .ok (.getfield 104, 3) := by decide +kernel
theorem d_Main_tapeNumber_27 : decode b_Main_tapeNumber 27 = .ok (.iload_n 1, 1) := by decide +kernel
theorem d_Main_tapeNumber_28 : decode b_Main_tapeNumber 28 = .ok (.iload_n 2, 1) := by decide +kernel
theorem d_Main_tapeNumber_29 : decode b_Main_tapeNumber 29 = .ok (.ishr, 1) := by decide +kernel
theorem d_Main_tapeNumber_30 : decode b_Main_tapeNumber 30 = .ok (.i2b, 1) := by decide +kernel
theorem d_Main_tapeNumber_31 : decode b_Main_tapeNumber 31 = .ok (.bastore, 1) := by decide +kernel
theorem d_Main_tapeNumber_32 : decode b_Main_tapeNumber 32 = .ok (.aload_n 0, 1) := by decide +kernel
theorem d_Main_tapeNumber_33 : decode b_Main_tapeNumber 33 = .ok (.dup, 1) := by decide +kernel
theorem d_Main_tapeNumber_34 : decode b_Main_tapeNumber 34 = .ok (.getfield 104, 3) := by decide +kernel
theorem d_Main_tapeNumber_37 : decode b_Main_tapeNumber 37 = .ok (.iconst 1, 1) := by decide +kernel
theorem d_Main_tapeNumber_38 : decode b_Main_tapeNumber 38 = .ok (.iadd, 1) := by decide +kernel
theorem d_Main_tapeNumber_39 : decode b_Main_tapeNumber 39 = .ok (.putfield 104, 3) := by decide +kernel
theorem d_Main_tapeNumber_42 : decode b_Main_tapeNumber 42 = .ok (.iinc 2 (-8), 3) := by decide +kernel
theorem d_Main_tapeNumber_45 : decode b_Main_tapeNumber 45 = .ok (.goto (-42), 3) := by decide +kernel
theorem d_Main_tapeNumber_48 : decode b_Main_tapeNumber 48 = .ok (.return_, 1) := by decide +kernel
abbrev b_Main_tape : ByteArray := prog_1_method_2_code
abbrev y_Main_tape : MethodName := ⟨"SheetPrinter", "tape", "(IIIII)Z"⟩
abbrev w_Main_tape : List Cond := .code y_Main_tape b_Main_tape 6 (some .boolean) :: gT
theorem gd_Main_tape : GoodIn gT w_Main_tape := gW wd_4_184
theorem d_Main_tape_0 : decode b_Main_tape 0 = .ok (.aload_n 0, 1) := by decide +kernel
theorem d_Main_tape_1 : decode b_Main_tape 1 = .ok (.getfield 104, 3) := by decide +kernel
theorem d_Main_tape_4 : decode b_Main_tape 4 = .ok (.bipush 20, 2) := by decide +kernel
theorem d_Main_tape_6 : decode b_Main_tape 6 = .ok (.iadd, 1) := by decide +kernel
theorem d_Main_tape_7 : decode b_Main_tape 7 = .ok (.aload_n 0, 1) := by decide +kernel
theorem d_Main_tape_8 : decode b_Main_tape 8 = .ok (.getfield 14, 3) := by decide +kernel
theorem d_Main_tape_11 : decode b_Main_tape 11 = .ok (.arraylength, 1) := by decide +kernel
theorem d_Main_tape_12 : decode b_Main_tape 12 = .ok (.if_icmp .le 5, 3) := by decide +kernel
theorem d_Main_tape_15 : decode b_Main_tape 15 = .ok (.iconst 0, 1) := by decide +kernel
theorem d_Main_tape_16 : decode b_Main_tape 16 = .ok (.ireturn, 1) := by decide +kernel
theorem d_Main_tape_17 : decode b_Main_tape 17 = .ok (.aload_n 0, 1) := by decide +kernel
theorem d_Main_tape_18 : decode b_Main_tape 18 = .ok (.iload_n 1, 1) := by decide +kernel
theorem d_Main_tape_19 : decode b_Main_tape 19 = .ok (.invokevirtual 107, 3) := by decide +kernel
theorem d_Main_tape_22 : decode b_Main_tape 22 = .ok (.aload_n 0, 1) := by decide +kernel
theorem d_Main_tape_23 : decode b_Main_tape 23 = .ok (.iload_n 2, 1) := by decide +kernel
theorem d_Main_tape_24 : decode b_Main_tape 24 = .ok (.invokevirtual 107, 3) := by decide +kernel
theorem d_Main_tape_27 : decode b_Main_tape 27 = .ok (.aload_n 0, 1) := by decide +kernel
theorem d_Main_tape_28 : decode b_Main_tape 28 = .ok (.iload_n 3, 1) := by decide +kernel
theorem d_Main_tape_29 : decode b_Main_tape 29 = .ok (.invokevirtual 107, 3) := by decide +kernel
theorem d_Main_tape_32 : decode b_Main_tape 32 = .ok (.aload_n 0, 1) := by decide +kernel
theorem d_Main_tape_33 : decode b_Main_tape 33 = .ok (.iload 4, 2) := by decide +kernel
theorem d_Main_tape_35 : decode b_Main_tape 35 = .ok (.invokevirtual 107, 3) := by decide +kernel
theorem d_Main_tape_38 : decode b_Main_tape 38 = .ok (.aload_n 0, 1) := by decide +kernel
theorem d_Main_tape_39 : decode b_Main_tape 39 = .ok (.iload 5, 2) := by decide +kernel
theorem d_Main_tape_41 : decode b_Main_tape 41 = .ok (.invokevirtual 107, 3) := by decide +kernel
theorem d_Main_tape_44 : decode b_Main_tape 44 = .ok (.iconst 1, 1) := by decide +kernel
theorem d_Main_tape_45 : decode b_Main_tape 45 = .ok (.ireturn, 1) := by decide +kernel
abbrev b_OutFile_byteAt : ByteArray := prog_7_method_3_code
abbrev y_OutFile_byteAt : MethodName := ⟨"SheetPrinter$OutFile", "byteAt", "(J)J"⟩
abbrev w_OutFile_byteAt : List Cond := .code y_OutFile_byteAt b_OutFile_byteAt 3 (some .long) :: gT
theorem gd_OutFile_byteAt : GoodIn gT w_OutFile_byteAt := gW wd_5_139
theorem d_OutFile_byteAt_0 : decode b_OutFile_byteAt 0 = .ok (.lload_n 1, 1) := by decide +kernel
theorem d_OutFile_byteAt_1 : decode b_OutFile_byteAt 1 = .ok (.lconst 0, 1) := by decide +kernel
theorem d_OutFile_byteAt_2 : decode b_OutFile_byteAt 2 = .ok (.lcmp, 1) := by decide +kernel
theorem d_OutFile_byteAt_3 : decode b_OutFile_byteAt 3 = .ok (.ifCond .lt 39, 3) := by decide +kernel
theorem d_OutFile_byteAt_6 : decode b_OutFile_byteAt 6 = .ok (.lload_n 1, 1) := by decide +kernel
theorem d_OutFile_byteAt_7 : decode b_OutFile_byteAt 7 = .ok (.aload_n 0, 1) := by decide +kernel
theorem d_OutFile_byteAt_8 : decode b_OutFile_byteAt 8 = .ok (.getfield 18, 3) := by decide +kernel
theorem d_OutFile_byteAt_11 : decode b_OutFile_byteAt 11 = .ok (.i2l, 1) := by decide +kernel
theorem d_OutFile_byteAt_12 : decode b_OutFile_byteAt 12 = .ok (.lcmp, 1) := by decide +kernel
theorem d_OutFile_byteAt_13 : decode b_OutFile_byteAt 13 = .ok (.ifCond .ge 29, 3) := by decide +kernel
theorem d_OutFile_byteAt_16 : decode b_OutFile_byteAt 16 = .ok (.lload_n 1, 1) := by decide +kernel
theorem d_OutFile_byteAt_17 : decode b_OutFile_byteAt 17 = .ok (.aload_n 0, 1) := by decide +kernel
theorem d_OutFile_byteAt_18 : decode b_OutFile_byteAt 18 = .ok (.getfield 10, 3) := by decide +kernel
theorem d_OutFile_byteAt_21 : decode b_OutFile_byteAt 21 = .ok (.arraylength, 1) := by decide +kernel
theorem d_OutFile_byteAt_22 : decode b_OutFile_byteAt 22 = .ok (.i2l, 1) := by decide +kernel
theorem d_OutFile_byteAt_23 : decode b_OutFile_byteAt 23 = .ok (.lcmp, 1) := by decide +kernel
theorem d_OutFile_byteAt_24 : decode b_OutFile_byteAt 24 = .ok (.ifCond .ge 18, 3) := by decide +kernel
theorem d_OutFile_byteAt_27 : decode b_OutFile_byteAt 27 = .ok (.aload_n 0, 1) := by decide +kernel
theorem d_OutFile_byteAt_28 : decode b_OutFile_byteAt 28 = .ok (.getfield 10, 3) := by decide +kernel
theorem d_OutFile_byteAt_31 : decode b_OutFile_byteAt 31 = .ok (.lload_n 1, 1) := by decide +kernel
theorem d_OutFile_byteAt_32 : decode b_OutFile_byteAt 32 = .ok (.l2i, 1) := by decide +kernel
theorem d_OutFile_byteAt_33 : decode b_OutFile_byteAt 33 = .ok (.baload, 1) := by decide +kernel
theorem d_OutFile_byteAt_34 : decode b_OutFile_byteAt 34 = .ok (.sipush 255, 3) := by decide +kernel
theorem d_OutFile_byteAt_37 : decode b_OutFile_byteAt 37 = .ok (.iand, 1) := by decide +kernel
theorem d_OutFile_byteAt_38 : decode b_OutFile_byteAt 38 = .ok (.i2l, 1) := by decide +kernel
theorem d_OutFile_byteAt_39 : decode b_OutFile_byteAt 39 = .ok (.goto 4, 3) := by decide +kernel
theorem d_OutFile_byteAt_42 : decode b_OutFile_byteAt 42 = .ok (.lconst 0, 1) := by decide +kernel
theorem d_OutFile_byteAt_43 : decode b_OutFile_byteAt 43 = .ok (.lreturn, 1) := by decide +kernel
abbrev b_Main_bytesAt : ByteArray := prog_1_method_6_code
abbrev y_Main_bytesAt : MethodName := ⟨"SheetPrinter", "bytesAt", "(I)J"⟩
abbrev w_Main_bytesAt : List Cond := .code y_Main_bytesAt b_Main_bytesAt 7 (some .long) :: gT
theorem gd_Main_bytesAt : GoodIn gT w_Main_bytesAt := gW wd_5_134
theorem d_Main_bytesAt_0 : decode b_Main_bytesAt 0 = .ok (.ldc2_w 167, 3) := by decide +kernel
theorem d_Main_bytesAt_3 : decode b_Main_bytesAt 3 = .ok (.iload_n 1, 1) := by decide +kernel
theorem d_Main_bytesAt_4 : decode b_Main_bytesAt 4 = .ok (.i2l, 1) := by decide +kernel
theorem d_Main_bytesAt_5 : decode b_Main_bytesAt 5 = .ok (.lmul, 1) := by decide +kernel
theorem d_Main_bytesAt_6 : decode b_Main_bytesAt 6 = .ok (.lstore_n 2, 1) := by decide +kernel
theorem d_Main_bytesAt_7 : decode b_Main_bytesAt 7 = .ok (.lconst 0, 1) := by decide +kernel
theorem d_Main_bytesAt_8 : decode b_Main_bytesAt 8 = .ok (.lstore 4, 2) := by decide +kernel
theorem d_Main_bytesAt_10 : decode b_Main_bytesAt 10 = .ok (.iconst 0, 1) := by decide +kernel
theorem d_Main_bytesAt_11 : decode b_Main_bytesAt 11 = .ok (.istore 6, 2) := by decide +kernel
theorem d_Main_bytesAt_13 : decode b_Main_bytesAt 13 = .ok (.iload 6, 2) := by decide +kernel
theorem d_Main_bytesAt_15 : decode b_Main_bytesAt 15 = .ok (.bipush 8, 2) := by decide +kernel
theorem d_Main_bytesAt_17 : decode b_Main_bytesAt 17 = .ok (.if_icmp .ge 29, 3) := by decide +kernel
theorem d_Main_bytesAt_20 : decode b_Main_bytesAt 20 = .ok (.lload 4, 2) := by decide +kernel
theorem d_Main_bytesAt_22 : decode b_Main_bytesAt 22 = .ok (.bipush 8, 2) := by decide +kernel
theorem d_Main_bytesAt_24 : decode b_Main_bytesAt 24 = .ok (.lshl, 1) := by decide +kernel
theorem d_Main_bytesAt_25 : decode b_Main_bytesAt 25 = .ok (.aload_n 0, 1) := by decide +kernel
theorem d_Main_bytesAt_26 : decode b_Main_bytesAt 26 = .ok (.getfield 82, 3) := by decide +kernel
theorem d_Main_bytesAt_29 : decode b_Main_bytesAt 29 = .ok (.lload_n 2, 1) := by decide +kernel
theorem d_Main_bytesAt_30 : decode b_Main_bytesAt 30 = .ok (.iload 6, 2) := by decide +kernel
theorem d_Main_bytesAt_32 : decode b_Main_bytesAt 32 = .ok (.i2l, 1) := by decide +kernel
theorem d_Main_bytesAt_33 : decode b_Main_bytesAt 33 = .ok (.ladd, 1) := by decide +kernel
theorem d_Main_bytesAt_34 : decode b_Main_bytesAt 34 = .ok (.invokevirtual 169, 3) := by decide +kernel
theorem d_Main_bytesAt_37 : decode b_Main_bytesAt 37 = .ok (.lor, 1) := by decide +kernel
theorem d_Main_bytesAt_38 : decode b_Main_bytesAt 38 = .ok (.lstore 4, 2) := by decide +kernel
theorem d_Main_bytesAt_40 : decode b_Main_bytesAt 40 = .ok (.iinc 6 1, 3) := by decide +kernel
theorem d_Main_bytesAt_43 : decode b_Main_bytesAt 43 = .ok (.goto (-30), 3) := by decide +kernel
theorem d_Main_bytesAt_46 : decode b_Main_bytesAt 46 = .ok (.lload 4, 2) := by decide +kernel
theorem d_Main_bytesAt_48 : decode b_Main_bytesAt 48 = .ok (.lreturn, 1) := by decide +kernel
abbrev b_Main_printed : ByteArray := prog_1_method_8_code
abbrev y_Main_printed : MethodName := ⟨"SheetPrinter", "printed", "(III)J"⟩
abbrev w_Main_printed : List Cond := .code y_Main_printed b_Main_printed 6 (some .long) :: gT
theorem gd_Main_printed : GoodIn gT w_Main_printed := gW wd_5_143
theorem d_Main_printed_0 : decode b_Main_printed 0 = .ok (.iload_n 1, 1) := by decide +kernel
theorem d_Main_printed_1 : decode b_Main_printed 1 = .ok (.ifCond .lt 31, 3) := by decide +kernel
theorem d_Main_printed_4 : decode b_Main_printed 4 = .ok (.iload_n 1, 1) := by decide +kernel
theorem d_Main_printed_5 : decode b_Main_printed 5 = .ok (.aload_n 0, 1) := by decide +kernel
theorem d_Main_printed_6 : decode b_Main_printed 6 = .ok (.getfield 82, 3) := by decide +kernel
theorem d_Main_printed_9 : decode b_Main_printed 9 = .ok (.getfield 138, 3) := by decide +kernel
theorem d_Main_printed_12 : decode b_Main_printed 12 = .ok (.if_icmp .ge 20, 3) := by decide +kernel
theorem d_Main_printed_15 : decode b_Main_printed 15 = .ok (.iload_n 2, 1) := by decide +kernel
theorem d_Main_printed_16 : decode b_Main_printed 16 = .ok (.ifCond .lt 16, 3) := by decide +kernel
theorem d_Main_printed_19 : decode b_Main_printed 19 = .ok (.iload_n 2, 1) := by decide +kernel
theorem d_Main_printed_20 : decode b_Main_printed 20 = .ok (.aload_n 0, 1) := by decide +kernel
theorem d_Main_printed_21 : decode b_Main_printed 21 = .ok (.getfield 82, 3) := by decide +kernel
theorem d_Main_printed_24 : decode b_Main_printed 24 = .ok (.iload_n 1, 1) := by decide +kernel
theorem d_Main_printed_25 : decode b_Main_printed 25 = .ok (.iconst 1, 1) := by decide +kernel
theorem d_Main_printed_26 : decode b_Main_printed 26 = .ok (.invokevirtual 178, 3) := by decide +kernel
theorem d_Main_printed_29 : decode b_Main_printed 29 = .ok (.if_icmp .lt 5, 3) := by decide +kernel
theorem d_Main_printed_32 : decode b_Main_printed 32 = .ok (.lconst 0, 1) := by decide +kernel
theorem d_Main_printed_33 : decode b_Main_printed 33 = .ok (.lreturn, 1) := by decide +kernel
theorem d_Main_printed_34 : decode b_Main_printed 34 = .ok (.aload_n 0, 1) := by decide +kernel
theorem d_Main_printed_35 : decode b_Main_printed 35 = .ok (.getfield 82, 3) := by decide +kernel
theorem d_Main_printed_38 : decode b_Main_printed 38 = .ok (.iload_n 1, 1) := by decide +kernel
theorem d_Main_printed_39 : decode b_Main_printed 39 = .ok (.iconst 0, 1) := by decide +kernel
theorem d_Main_printed_40 : decode b_Main_printed 40 = .ok (.invokevirtual 178, 3) := by decide +kernel
theorem d_Main_printed_43 : decode b_Main_printed 43 = .ok (.istore 4, 2) := by decide +kernel
theorem d_Main_printed_45 : decode b_Main_printed 45 = .ok (.iload_n 3, 1) := by decide +kernel
theorem d_Main_printed_46 : decode b_Main_printed 46 = .ok (.ifCond .lt 12, 3) := by decide +kernel
theorem d_Main_printed_49 : decode b_Main_printed 49 = .ok (.iload_n 3, 1) := by decide +kernel
theorem d_Main_printed_50 : decode b_Main_printed 50 = .ok (.iload 4, 2) := by decide +kernel
theorem d_Main_printed_52 : decode b_Main_printed 52 = .ok (.bipush 64, 2) := by decide +kernel
theorem d_Main_printed_54 : decode b_Main_printed 54 = .ok (.idiv, 1) := by decide +kernel
theorem d_Main_printed_55 : decode b_Main_printed 55 = .ok (.if_icmp .le 5, 3) := by decide +kernel
theorem d_Main_printed_58 : decode b_Main_printed 58 = .ok (.lconst 0, 1) := by decide +kernel
theorem d_Main_printed_59 : decode b_Main_printed 59 = .ok (.lreturn, 1) := by decide +kernel
theorem d_Main_printed_60 : decode b_Main_printed 60 = .ok (.aload_n 0, 1) := by decide +kernel
theorem d_Main_printed_61 : decode b_Main_printed 61 = .ok (.getfield 97, 3) := by decide +kernel
theorem d_Main_printed_64 : decode b_Main_printed 64 = .ok (.aload_n 0, 1) := by decide +kernel
theorem d_Main_printed_65 : decode b_Main_printed 65 = .ok (.getfield 82, 3) := by decide +kernel
theorem d_Main_printed_68 : decode b_Main_printed 68 = .ok (.getfield 181, 3) := by decide +kernel
theorem d_Main_printed_71 : decode b_Main_printed 71 = .ok (.aload_n 0, 1) := by decide +kernel
theorem d_Main_printed_72 : decode b_Main_printed 72 = .ok (.getfield 82, 3) := by decide +kernel
theorem d_Main_printed_75 : decode b_Main_printed 75 = .ok (.iload_n 1, 1) := by decide +kernel
theorem d_Main_printed_76 : decode b_Main_printed 76 = .ok (.iconst 2, 1) := by decide +kernel
theorem d_Main_printed_77 : decode b_Main_printed 77 = .ok (.invokevirtual 178, 3) := by decide +kernel
theorem d_Main_printed_80 : decode b_Main_printed 80 = .ok (.aload_n 0, 1) := by decide +kernel
theorem d_Main_printed_81 : decode b_Main_printed 81 = .ok (.getfield 82, 3) := by decide +kernel
theorem d_Main_printed_84 : decode b_Main_printed 84 = .ok (.iload_n 1, 1) := by decide +kernel
theorem d_Main_printed_85 : decode b_Main_printed 85 = .ok (.iconst 3, 1) := by decide +kernel
theorem d_Main_printed_86 : decode b_Main_printed 86 = .ok (.invokevirtual 178, 3) := by decide +kernel
theorem d_Main_printed_89 : decode b_Main_printed 89 = .ok (.iconst 0, 1) := by decide +kernel
theorem d_Main_printed_90 : decode b_Main_printed 90 = .ok (.invokevirtual 184, 3) := by decide +kernel
theorem d_Main_printed_93 : decode b_Main_printed 93 = .ok (.iconst 0, 1) := by decide +kernel
theorem d_Main_printed_94 : decode b_Main_printed 94 = .ok (.istore 5, 2) := by decide +kernel
theorem d_Main_printed_96 : decode b_Main_printed 96 = .ok (.iload 5, 2) := by decide +kernel
theorem d_Main_printed_98 : decode b_Main_printed 98 = .ok (.iload_n 2, 1) := by decide +kernel
theorem d_Main_printed_99 : decode b_Main_printed 99 = .ok (.if_icmp .gt 23, 3) := by decide +kernel
theorem d_Main_printed_102 : decode b_Main_printed 102 = .ok (.aload_n 0, 1) := by decide +kernel
theorem d_Main_printed_103 : decode b_Main_printed 103 = .ok (.getfield 97, 3) := by decide +kernel
theorem d_Main_printed_106 : decode b_Main_printed 106 = .ok (.iload 4, 2) := by decide +kernel
theorem d_Main_printed_108 : decode b_Main_printed 108 = .ok (.invokevirtual 187, 3) := by decide +kernel
theorem d_Main_printed_111 : decode b_Main_printed 111 = .ok (.ifCond .eq 5, 3) := by decide +kernel
theorem d_Main_printed_114 : decode b_Main_printed 114 = .ok (.lconst 0, 1) := by decide +kernel
theorem d_Main_printed_115 : decode b_Main_printed 115 = .ok (.lreturn, 1) := by decide +kernel
theorem d_Main_printed_116 : decode b_Main_printed 116 = .ok (.iinc 5 1, 3) := by decide +kernel
theorem d_Main_printed_119 : decode b_Main_printed 119 = .ok (.goto (-23), 3) := by decide +kernel
theorem d_Main_printed_122 : decode b_Main_printed 122 = .ok (.aload_n 0, 1) := by decide +kernel
theorem d_Main_printed_123 : decode b_Main_printed 123 = .ok (.getfield 97, 3) := by decide +kernel
theorem d_Main_printed_126 : decode b_Main_printed 126 = .ok (.bipush 64, 2) := by decide +kernel
theorem d_Main_printed_128 : decode b_Main_printed 128 = .ok (.iload_n 3, 1) := by decide +kernel
theorem d_Main_printed_129 : decode b_Main_printed 129 = .ok (.imul, 1) := by decide +kernel
theorem d_Main_printed_130 : decode b_Main_printed 130 = .ok (.invokevirtual 190, 3) := by decide +kernel
theorem d_Main_printed_133 : decode b_Main_printed 133 = .ok (.lreturn, 1) := by decide +kernel
abbrev b_FontShelf_chosenSlot : ByteArray := prog_3_method_23_code
abbrev y_FontShelf_chosenSlot : MethodName := ⟨"SheetPrinter$FontShelf", "chosenSlot", "(I)I"⟩
abbrev w_FontShelf_chosenSlot : List Cond := .code y_FontShelf_chosenSlot b_FontShelf_chosenSlot 3 (some .int) :: gT
theorem gd_FontShelf_chosenSlot : GoodIn gT w_FontShelf_chosenSlot := gW wd_5_213
theorem d_FontShelf_chosenSlot_0 : decode b_FontShelf_chosenSlot 0 = .ok (.iload_n 1, 1) := by decide +kernel
theorem d_FontShelf_chosenSlot_1 : decode b_FontShelf_chosenSlot 1 = .ok (.ifCond .lt 21, 3) := by decide +kernel
theorem d_FontShelf_chosenSlot_4 : decode b_FontShelf_chosenSlot 4 = .ok (.iload_n 1, 1) := by decide +kernel
theorem d_FontShelf_chosenSlot_5 : decode b_FontShelf_chosenSlot 5 = .ok (.aload_n 0, 1) := by decide +kernel
theorem d_FontShelf_chosenSlot_6 : decode b_FontShelf_chosenSlot 6 = .ok (.getfield 35, 3) := by decide +kernel
theorem d_FontShelf_chosenSlot_9 : decode b_FontShelf_chosenSlot 9 = .ok (.arraylength, 1) := by decide +kernel
theorem d_FontShelf_chosenSlot_10 : decode b_FontShelf_chosenSlot 10 = .ok (.if_icmp .ge 12, 3) := by decide +kernel
theorem d_FontShelf_chosenSlot_13 : decode b_FontShelf_chosenSlot 13 = .ok (.aload_n 0, 1) := by decide +kernel
theorem d_FontShelf_chosenSlot_14 : decode b_FontShelf_chosenSlot 14 = .ok (.getfield 35, 3) := by decide +kernel
theorem d_FontShelf_chosenSlot_17 : decode b_FontShelf_chosenSlot 17 = .ok (.iload_n 1, 1) := by decide +kernel
theorem d_FontShelf_chosenSlot_18 : decode b_FontShelf_chosenSlot 18 = .ok (.iaload, 1) := by decide +kernel
theorem d_FontShelf_chosenSlot_19 : decode b_FontShelf_chosenSlot 19 = .ok (.goto 4, 3) := by decide +kernel
theorem d_FontShelf_chosenSlot_22 : decode b_FontShelf_chosenSlot 22 = .ok (.iconst (-1), 1) := by decide +kernel
theorem d_FontShelf_chosenSlot_23 : decode b_FontShelf_chosenSlot 23 = .ok (.istore_n 2, 1) := by decide +kernel
theorem d_FontShelf_chosenSlot_24 : decode b_FontShelf_chosenSlot 24 = .ok (.iload_n 2, 1) := by decide +kernel
theorem d_FontShelf_chosenSlot_25 : decode b_FontShelf_chosenSlot 25 = .ok (.aload_n 0, 1) := by decide +kernel
theorem d_FontShelf_chosenSlot_26 : decode b_FontShelf_chosenSlot 26 = .ok (.getfield 11, 3) := by decide +kernel
theorem d_FontShelf_chosenSlot_29 : decode b_FontShelf_chosenSlot 29 = .ok (.arraylength, 1) := by decide +kernel
theorem d_FontShelf_chosenSlot_30 : decode b_FontShelf_chosenSlot 30 = .ok (.if_icmp .ge 7, 3) := by decide +kernel
theorem d_FontShelf_chosenSlot_33 : decode b_FontShelf_chosenSlot 33 = .ok (.iload_n 2, 1) := by decide +kernel
theorem d_FontShelf_chosenSlot_34 : decode b_FontShelf_chosenSlot 34 = .ok (.goto 4, 3) := by decide +kernel
theorem d_FontShelf_chosenSlot_37 : decode b_FontShelf_chosenSlot 37 = .ok (.iconst (-1), 1) := by decide +kernel
theorem d_FontShelf_chosenSlot_38 : decode b_FontShelf_chosenSlot 38 = .ok (.ireturn, 1) := by decide +kernel
abbrev b_FontShelf_chosenId : ByteArray := prog_3_method_20_code
abbrev y_FontShelf_chosenId : MethodName := ⟨"SheetPrinter$FontShelf", "chosenId", "(I)I"⟩
abbrev w_FontShelf_chosenId : List Cond := .code y_FontShelf_chosenId b_FontShelf_chosenId 3 (some .int) :: gT
theorem gd_FontShelf_chosenId : GoodIn gT w_FontShelf_chosenId := gW wd_5_209
theorem d_FontShelf_chosenId_0 : decode b_FontShelf_chosenId 0 = .ok (.aload_n 0, 1) := by decide +kernel
theorem d_FontShelf_chosenId_1 : decode b_FontShelf_chosenId 1 = .ok (.iload_n 1, 1) := by decide +kernel
theorem d_FontShelf_chosenId_2 : decode b_FontShelf_chosenId 2 = .ok (.invokevirtual 136, 3) := by decide +kernel
theorem d_FontShelf_chosenId_5 : decode b_FontShelf_chosenId 5 = .ok (.istore_n 2, 1) := by decide +kernel
theorem d_FontShelf_chosenId_6 : decode b_FontShelf_chosenId 6 = .ok (.iload_n 2, 1) := by decide +kernel
theorem d_FontShelf_chosenId_7 : decode b_FontShelf_chosenId 7 = .ok (.ifCond .lt 21, 3) := by decide +kernel
theorem d_FontShelf_chosenId_10 : decode b_FontShelf_chosenId 10 = .ok (.iload_n 2, 1) := by decide +kernel
theorem d_FontShelf_chosenId_11 : decode b_FontShelf_chosenId 11 = .ok (.aload_n 0, 1) := by decide +kernel
theorem d_FontShelf_chosenId_12 : decode b_FontShelf_chosenId 12 = .ok (.getfield 11, 3) := by decide +kernel
theorem d_FontShelf_chosenId_15 : decode b_FontShelf_chosenId 15 = .ok (.arraylength, 1) := by decide +kernel
theorem d_FontShelf_chosenId_16 : decode b_FontShelf_chosenId 16 = .ok (.if_icmp .ge 12, 3) := by decide +kernel
theorem d_FontShelf_chosenId_19 : decode b_FontShelf_chosenId 19 = .ok (.aload_n 0, 1) := by decide +kernel
theorem d_FontShelf_chosenId_20 : decode b_FontShelf_chosenId 20 = .ok (.getfield 11, 3) := by decide +kernel
theorem d_FontShelf_chosenId_23 : decode b_FontShelf_chosenId 23 = .ok (.iload_n 2, 1) := by decide +kernel
theorem d_FontShelf_chosenId_24 : decode b_FontShelf_chosenId 24 = .ok (.iaload, 1) := by decide +kernel
theorem d_FontShelf_chosenId_25 : decode b_FontShelf_chosenId 25 = .ok (.goto 4, 3) := by decide +kernel
theorem d_FontShelf_chosenId_28 : decode b_FontShelf_chosenId 28 = .ok (.iconst (-1), 1) := by decide +kernel
theorem d_FontShelf_chosenId_29 : decode b_FontShelf_chosenId 29 = .ok (.ireturn, 1) := by decide +kernel
abbrev b_Main_storeStatus : ByteArray := prog_1_method_10_code
abbrev y_Main_storeStatus : MethodName := ⟨"SheetPrinter", "storeStatus", "(I)I"⟩
abbrev w_Main_storeStatus : List Cond := .code y_Main_storeStatus b_Main_storeStatus 2 (some .int) :: gT
theorem gd_Main_storeStatus : GoodIn gT w_Main_storeStatus := gW wd_5_205
theorem d_Main_storeStatus_0 : decode b_Main_storeStatus 0 = .ok (.iload_n 1, 1) := by decide +kernel
theorem d_Main_storeStatus_1 : decode b_Main_storeStatus 1 = .ok (.tableswitch 167 12 21 #[55, 63, 71, 80, 89, 97, 105, 121, 129, 145], 55) := by decide +kernel
theorem d_Main_storeStatus_56 : decode b_Main_storeStatus 56 = .ok (.aload_n 0, 1) := by decide +kernel
theorem d_Main_storeStatus_57 : decode b_Main_storeStatus 57 = .ok (.getfield 39, 3) := by decide +kernel
theorem d_Main_storeStatus_60 : decode b_Main_storeStatus 60 = .ok (.getfield 224, 3) := by decide +kernel
theorem d_Main_storeStatus_63 : decode b_Main_storeStatus 63 = .ok (.ireturn, 1) := by decide +kernel
theorem d_Main_storeStatus_64 : decode b_Main_storeStatus 64 = .ok (.aload_n 0, 1) := by decide +kernel
theorem d_Main_storeStatus_65 : decode b_Main_storeStatus 65 = .ok (.getfield 39, 3) := by decide +kernel
theorem d_Main_storeStatus_68 : decode b_Main_storeStatus 68 = .ok (.getfield 226, 3) := by decide +kernel
theorem d_Main_storeStatus_71 : decode b_Main_storeStatus 71 = .ok (.ireturn, 1) := by decide +kernel
theorem d_Main_storeStatus_72 : decode b_Main_storeStatus 72 = .ok (.aload_n 0, 1) := by decide +kernel
theorem d_Main_storeStatus_73 : decode b_Main_storeStatus 73 = .ok (.getfield 39, 3) := by decide +kernel
theorem d_Main_storeStatus_76 : decode b_Main_storeStatus 76 = .ok (.iconst 0, 1) := by decide +kernel
theorem d_Main_storeStatus_77 : decode b_Main_storeStatus 77 = .ok (.invokevirtual 229, 3) := by decide +kernel
theorem d_Main_storeStatus_80 : decode b_Main_storeStatus 80 = .ok (.ireturn, 1) := by decide +kernel
theorem d_Main_storeStatus_81 : decode b_Main_storeStatus 81 = .ok (.aload_n 0, 1) := by decide +kernel
theorem d_Main_storeStatus_82 : decode b_Main_storeStatus 82 = .ok (.getfield 39, 3) := by decide +kernel
theorem d_Main_storeStatus_85 : decode b_Main_storeStatus 85 = .ok (.iconst 1, 1) := by decide +kernel
theorem d_Main_storeStatus_86 : decode b_Main_storeStatus 86 = .ok (.invokevirtual 229, 3) := by decide +kernel
theorem d_Main_storeStatus_89 : decode b_Main_storeStatus 89 = .ok (.ireturn, 1) := by decide +kernel
theorem d_Main_storeStatus_90 : decode b_Main_storeStatus 90 = .ok (.aload_n 0, 1) := by decide +kernel
theorem d_Main_storeStatus_91 : decode b_Main_storeStatus 91 = .ok (.getfield 46, 3) := by decide +kernel
theorem d_Main_storeStatus_94 : decode b_Main_storeStatus 94 = .ok (.getfield 232, 3) := by decide +kernel
theorem d_Main_storeStatus_97 : decode b_Main_storeStatus 97 = .ok (.ireturn, 1) := by decide +kernel
theorem d_Main_storeStatus_98 : decode b_Main_storeStatus 98 = .ok (.aload_n 0, 1) := by decide +kernel
theorem d_Main_storeStatus_99 : decode b_Main_storeStatus 99 = .ok (.getfield 46, 3) := by decide +kernel
theorem d_Main_storeStatus_102 : decode b_Main_storeStatus 102 = .ok (.getfield 233, 3) := by decide +kernel
theorem d_Main_storeStatus_105 : decode b_Main_storeStatus 105 = .ok (.ireturn, 1) := by decide +kernel
theorem d_Main_storeStatus_106 : decode b_Main_storeStatus 106 = .ok (.aload_n 0, 1) := by decide +kernel
theorem d_Main_storeStatus_107 : decode b_Main_storeStatus 107 = .ok (.getfield 46, 3) := by decide +kernel
theorem d_Main_storeStatus_110 : decode b_Main_storeStatus 110 = .ok (.getfield 234, 3) := by decide +kernel
theorem d_Main_storeStatus_113 : decode b_Main_storeStatus 113 = .ok (.ifCond .eq 7, 3) := by decide +kernel
theorem d_Main_storeStatus_116 : decode b_Main_storeStatus 116 = .ok (.iconst 1, 1) := by decide +kernel
theorem d_Main_storeStatus_117 : decode b_Main_storeStatus 117 = .ok (.goto 4, 3) := by decide +kernel
theorem d_Main_storeStatus_120 : decode b_Main_storeStatus 120 = .ok (.iconst 0, 1) := by decide +kernel
theorem d_Main_storeStatus_121 : decode b_Main_storeStatus 121 = .ok (.ireturn, 1) := by decide +kernel
theorem d_Main_storeStatus_122 : decode b_Main_storeStatus 122 = .ok (.aload_n 0, 1) := by decide +kernel
theorem d_Main_storeStatus_123 : decode b_Main_storeStatus 123 = .ok (.getfield 46, 3) := by decide +kernel
theorem d_Main_storeStatus_126 : decode b_Main_storeStatus 126 = .ok (.getfield 237, 3) := by decide +kernel
theorem d_Main_storeStatus_129 : decode b_Main_storeStatus 129 = .ok (.ireturn, 1) := by decide +kernel
theorem d_Main_storeStatus_130 : decode b_Main_storeStatus 130 = .ok (.aload_n 0, 1) := by decide +kernel
theorem d_Main_storeStatus_131 : decode b_Main_storeStatus 131 = .ok (.getfield 53, 3) := by decide +kernel
theorem d_Main_storeStatus_134 : decode b_Main_storeStatus 134 = .ok (.getfield 240, 3) := by decide +kernel
theorem d_Main_storeStatus_137 : decode b_Main_storeStatus 137 = .ok (.ifCond .eq 7, 3) := by decide +kernel
theorem d_Main_storeStatus_140 : decode b_Main_storeStatus 140 = .ok (.iconst 1, 1) := by decide +kernel
theorem d_Main_storeStatus_141 : decode b_Main_storeStatus 141 = .ok (.goto 4, 3) := by decide +kernel
theorem d_Main_storeStatus_144 : decode b_Main_storeStatus 144 = .ok (.iconst 0, 1) := by decide +kernel
theorem d_Main_storeStatus_145 : decode b_Main_storeStatus 145 = .ok (.ireturn, 1) := by decide +kernel
theorem d_Main_storeStatus_146 : decode b_Main_storeStatus 146 = .ok (.aload_n 0, 1) := by decide +kernel
theorem d_Main_storeStatus_147 : decode b_Main_storeStatus 147 = .ok (.getfield 53, 3) := by decide +kernel
theorem d_Main_storeStatus_150 : decode b_Main_storeStatus 150 = .ok (.getfield 240, 3) := by decide +kernel
theorem d_Main_storeStatus_153 : decode b_Main_storeStatus 153 = .ok (.ifCond .eq 13, 3) := by decide +kernel
theorem d_Main_storeStatus_156 : decode b_Main_storeStatus 156 = .ok (.aload_n 0, 1) := by decide +kernel
theorem d_Main_storeStatus_157 : decode b_Main_storeStatus 157 = .ok (.getfield 53, 3) := by decide +kernel
theorem d_Main_storeStatus_160 : decode b_Main_storeStatus 160 = .ok (.getfield 243, 3) := by decide +kernel
theorem d_Main_storeStatus_163 : decode b_Main_storeStatus 163 = .ok (.goto 4, 3) := by decide +kernel
theorem d_Main_storeStatus_166 : decode b_Main_storeStatus 166 = .ok (.iconst (-1), 1) := by decide +kernel
theorem d_Main_storeStatus_167 : decode b_Main_storeStatus 167 = .ok (.ireturn, 1) := by decide +kernel
theorem d_Main_storeStatus_168 : decode b_Main_storeStatus 168 = .ok (.iconst (-1), 1) := by decide +kernel
theorem d_Main_storeStatus_169 : decode b_Main_storeStatus 169 = .ok (.ireturn, 1) := by decide +kernel
abbrev at_c_tapeNumber (dC : Nat → ClassId) (dI : Nat → Nat → Nat) (h0 : Nat) (m_dpi : Int32) (m_tape : Nat) (m_page : Nat) (m_sheet : Nat) (m_fonts : Nat) (m_macros : Nat) (m_raster : Nat) (m_interpreter : Nat) (m_picture : Nat) (m_coder : Nat) (m_reader : Nat) (m_file : Nat) (m_shown : Nat) (m_fault : Int32) (m_ended : Int32) (m_overruns : Int32) (m_pictures : Int32) (n : Nat) (ct : ClassId) (f : Nat → Int32) (v : Int32) (A : Nat → Prop) (u : Unit) (t : State) : Prop := match u with
  | _ => va_P (dC, dI) vcl [(h0, .inr (0, [.int m_dpi, .ref m_tape, .ref m_page, .ref m_sheet, .ref m_fonts, .ref m_macros, .ref m_raster, .ref m_interpreter, .ref m_picture, .ref m_coder, .ref m_reader, .ref m_file, .ref m_shown, .int (nI (n + 4)), .int m_fault, .int m_ended, .int m_overruns, .int m_pictures])), (m_tape, .inl (ct, 65536, .inl (upd (upd (upd (upd f n ((v >>> (24 &&& 31)).toInt8.toInt32)) (n + 1) ((v >>> (16 &&& 31)).toInt8.toInt32)) (n + 2) ((v >>> (8 &&& 31)).toInt8.toInt32)) (n + 3) ((v >>> (0 &&& 31)).toInt8.toInt32))))] t.heap ∧ va_K (dC, dI) vcl [(ct, .byte)] t ∧ va_D A [(h0, .inr (0, [.int m_dpi, .ref m_tape, .ref m_page, .ref m_sheet, .ref m_fonts, .ref m_macros, .ref m_raster, .ref m_interpreter, .ref m_picture, .ref m_coder, .ref m_reader, .ref m_file, .ref m_shown, .int (nI (n + 4)), .int m_fault, .int m_ended, .int m_overruns, .int m_pictures])), (m_tape, .inl (ct, 65536, .inl (upd (upd (upd (upd f n ((v >>> (24 &&& 31)).toInt8.toInt32)) (n + 1) ((v >>> (16 &&& 31)).toInt8.toInt32)) (n + 2) ((v >>> (8 &&& 31)).toInt8.toInt32)) (n + 3) ((v >>> (0 &&& 31)).toInt8.toInt32))))]
abbrev po_c_tapeNumber (h0 : Nat) (m_dpi : Int32) (m_tape : Nat) (m_page : Nat) (m_sheet : Nat) (m_fonts : Nat) (m_macros : Nat) (m_raster : Nat) (m_interpreter : Nat) (m_picture : Nat) (m_coder : Nat) (m_reader : Nat) (m_file : Nat) (m_shown : Nat) (m_fault : Int32) (m_ended : Int32) (m_overruns : Int32) (m_pictures : Int32) (n : Nat) (ct : ClassId) (f : Nat → Int32) (v : Int32) (u : Unit) : Prop := match u with
  | _ => True
abbrev q_c_tapeNumber (dC : Nat → ClassId) (dI : Nat → Nat → Nat) (h0 : Nat) (m_dpi : Int32) (m_tape : Nat) (m_page : Nat) (m_sheet : Nat) (m_fonts : Nat) (m_macros : Nat) (m_raster : Nat) (m_interpreter : Nat) (m_picture : Nat) (m_coder : Nat) (m_reader : Nat) (m_file : Nat) (m_shown : Nat) (m_fault : Int32) (m_ended : Int32) (m_overruns : Int32) (m_pictures : Int32) (n : Nat) (ct : ClassId) (f : Nat → Int32) (v : Int32) (A : Nat → Prop) : Array Value → State → Outcome → State → Prop := va_Qv (po_c_tapeNumber h0 m_dpi m_tape m_page m_sheet m_fonts m_macros m_raster m_interpreter m_picture m_coder m_reader m_file m_shown m_fault m_ended m_overruns m_pictures n ct f v) (at_c_tapeNumber dC dI h0 m_dpi m_tape m_page m_sheet m_fonts m_macros m_raster m_interpreter m_picture m_coder m_reader m_file m_shown m_fault m_ended m_overruns m_pictures n ct f v A) A
abbrev rm_c_tapeNumber : Room := { frames := 0, cells := 0, slots := 0, locals := 0 }
set_option maxHeartbeats 4000000 in
set_option maxRecDepth 100000 in
theorem c_tapeNumber (l : Launch) (dC : Nat → ClassId) (dI : Nat → Nat → Nat) (tt : Nat → Nat) (h0 : Nat) (m_dpi : Int32) (m_tape : Nat) (m_page : Nat) (m_sheet : Nat) (m_fonts : Nat) (m_macros : Nat) (m_raster : Nat) (m_interpreter : Nat) (m_picture : Nat) (m_coder : Nat) (m_reader : Nat) (m_file : Nat) (m_shown : Nat) (m_fault : Int32) (m_ended : Int32) (m_overruns : Int32) (m_pictures : Int32) (n : Nat) (ct : ClassId) (f : Nat → Int32) (v : Int32) (sz : Nat) (hn : n + 4 ≤ 65536) : Met l y_Main_tapeNumber w_Main_tapeNumber rm_c_tapeNumber (va_Pc [.ref h0, .int v] (fun U => U.heap.size = sz ∧ va_P (dC, dI) vcl [(h0, .inr (0, [.int m_dpi, .ref m_tape, .ref m_page, .ref m_sheet, .ref m_fonts, .ref m_macros, .ref m_raster, .ref m_interpreter, .ref m_picture, .ref m_coder, .ref m_reader, .ref m_file, .ref m_shown, .int (nI n), .int m_fault, .int m_ended, .int m_overruns, .int m_pictures])), (m_tape, .inl (ct, 65536, .inl f))] U.heap ∧ va_K (dC, dI) vcl [(ct, .byte)] U ∧ va_D (fun _ => True) [(h0, .inr (0, [.int m_dpi, .ref m_tape, .ref m_page, .ref m_sheet, .ref m_fonts, .ref m_macros, .ref m_raster, .ref m_interpreter, .ref m_picture, .ref m_coder, .ref m_reader, .ref m_file, .ref m_shown, .int (nI n), .int m_fault, .int m_ended, .int m_overruns, .int m_pictures])), (m_tape, .inl (ct, 65536, .inl f))] ∧ SF tt (va_A [(h0, .inr (0, [.int m_dpi, .ref m_tape, .ref m_page, .ref m_sheet, .ref m_fonts, .ref m_macros, .ref m_raster, .ref m_interpreter, .ref m_picture, .ref m_coder, .ref m_reader, .ref m_file, .ref m_shown, .int (nI n), .int m_fault, .int m_ended, .int m_overruns, .int m_pictures])), (m_tape, .inl (ct, 65536, .inl f))] sz) U U.heap)) (q_c_tapeNumber dC dI h0 m_dpi m_tape m_page m_sheet m_fonts m_macros m_raster m_interpreter m_picture m_coder m_reader m_file m_shown m_fault m_ended m_overruns m_pictures n ct f v (va_A [(h0, .inr (0, [.int m_dpi, .ref m_tape, .ref m_page, .ref m_sheet, .ref m_fonts, .ref m_macros, .ref m_raster, .ref m_interpreter, .ref m_picture, .ref m_coder, .ref m_reader, .ref m_file, .ref m_shown, .int (nI n), .int m_fault, .int m_ended, .int m_overruns, .int m_pictures])), (m_tape, .inl (ct, 65536, .inl f))] sz)) 0 0 (va_A [(h0, .inr (0, [.int m_dpi, .ref m_tape, .ref m_page, .ref m_sheet, .ref m_fonts, .ref m_macros, .ref m_raster, .ref m_interpreter, .ref m_picture, .ref m_coder, .ref m_reader, .ref m_file, .ref m_shown, .int (nI n), .int m_fault, .int m_ended, .int m_overruns, .int m_pictures])), (m_tape, .inl (ct, 65536, .inl f))] sz) := by
  refine Met.ofW (cc := b_Main_tapeNumber) (maxL := 3) (ret := none) (by decide) rfl ?_
  intro p e s m args below meth c s₁ B hml hv
  obtain ⟨rfl, hsz, hP, hK, hD0, hF⟩ := hv
  have hx := B.exec
  have hb := B.bytes
  have hr := B.returns
  have hwd : ∀ w ∈ gT, w.before _ s = true := fun w h => atoms_spec (ws := w_Main_tapeNumber) B.pre w (List.mem_cons_of_mem _ h)
  have hown : s.vm.findClass R_Main = some m.cls := findClass_of_methodNamed B.named
  have hlocks := B.notSynchronized
  subst hsz
  have hD := hD0.self (sz := s.heap.size)
  generalize hAe : va_A [(h0, .inr (0, [.int m_dpi, .ref m_tape, .ref m_page, .ref m_sheet, .ref m_fonts, .ref m_macros, .ref m_raster, .ref m_interpreter, .ref m_picture, .ref m_coder, .ref m_reader, .ref m_file, .ref m_shown, .int (nI n), .int m_fault, .int m_ended, .int m_overruns, .int m_pictures])), (m_tape, .inl (ct, 65536, .inl f))] s.heap.size = A at hD hF ⊢
  have hA : ∀ q : Nat, s.heap.size ≤ q → A q := fun q h => by rw [← hAe]; exact Or.inr h
  have hS : va_S A s.heap s.heap [] := va_S.rf
  have hP : va_P (dC, dI) vcl [(h0, .inr (0, [.int m_dpi, .ref m_tape, .ref m_page, .ref m_sheet, .ref m_fonts, .ref m_macros, .ref m_raster, .ref m_interpreter, .ref m_picture, .ref m_coder, .ref m_reader, .ref m_file, .ref m_shown, .int (nI n), .int m_fault, .int m_ended, .int m_overruns, .int m_pictures])), (m_tape, .inl (ct, 65536, .inl f))] s.heap := hP
  have hl := lv_entry ([.ref h0, .int v]) (n := 3) (Nat.le_of_ble_eq_true rfl)
  rw [lg_entry_eq]
  generalize (lg_sl ([.ref h0, .int v]) ++ List.replicate (3 - (lg_sl ([.ref h0, .int v])).length) Slot.unset).toArray = ls at hl ⊢
  have hl : lv_has ls 3 [(0, .ref h0), (1, .int v)] := hl
  refine lv_bipush (v := 24) hx hb d_Main_tapeNumber_0 (by decide) ?_
  refine lv_istore_n (lv' := [(2, .int 24), (0, .ref h0), (1, .int v)]) hx hb d_Main_tapeNumber_2 rfl hl (by decide) rfl ?_
  clear hl
  intro ls hl
  refine lv_iload_n hx hb d_Main_tapeNumber_3 rfl (lv_at hl 0 rfl) ?_
  refine lv_if_lt (tgt := 48) hx hb d_Main_tapeNumber_4 (by decide) (fun c4 => absurd c4 (by decide)) (fun _ => ?_)
  refine lv_aload_n hx hb d_Main_tapeNumber_7 rfl (lv_at hl 1 rfl) ?_
  refine va_get (D := (dC, dI)) (ci := 0) (v := .int (nI n)) (C := R_Main) (T := F_Main) (N := 18) hx hb hwd i_Main hown hK hP 0 rfl rfl 13 (by decide) (hwd _ wd_4_139) (fun _ h9 => h9) rfl d_Main_tapeNumber_8 ?_
  refine lv_aload_n hx hb d_Main_tapeNumber_11 rfl (lv_at hl 1 rfl) ?_
  refine va_get (D := (dC, dI)) (ci := 0) (v := .ref m_tape) (C := R_Main) (T := F_Main) (N := 18) hx hb hwd i_Main hown hK hP 0 rfl rfl 1 (by decide) (hwd _ wd_4_127) (fun _ h9 => h9) rfl d_Main_tapeNumber_12 ?_
  refine va_alen (v := 65536) hx hb hK hP 1 0 rfl rfl rfl d_Main_tapeNumber_15 ?_
  refine lv_icmp_ge (tgt := 48) hx hb d_Main_tapeNumber_16 (by decide) (fun c16 => absurd c16 (nI_ge (a := n + 0) (b := 65536) (by omega) (by omega))) (fun c16 => ?_)
  refine lv_aload_n hx hb d_Main_tapeNumber_19 rfl (lv_at hl 1 rfl) ?_
  refine va_get (D := (dC, dI)) (ci := 0) (v := .ref m_tape) (C := R_Main) (T := F_Main) (N := 18) hx hb hwd i_Main hown hK hP 0 rfl rfl 1 (by decide) (hwd _ wd_4_127) (fun _ h9 => h9) rfl d_Main_tapeNumber_20 ?_
  refine lv_aload_n hx hb d_Main_tapeNumber_23 rfl (lv_at hl 1 rfl) ?_
  refine va_get (D := (dC, dI)) (ci := 0) (v := .int (nI n)) (C := R_Main) (T := F_Main) (N := 18) hx hb hwd i_Main hown hK hP 0 rfl rfl 13 (by decide) (hwd _ wd_4_139) (fun _ h9 => h9) rfl d_Main_tapeNumber_24 ?_
  refine lv_iload_n hx hb d_Main_tapeNumber_27 rfl (lv_at hl 2 rfl) ?_
  refine lv_iload_n hx hb d_Main_tapeNumber_28 rfl (lv_at hl 0 rfl) ?_
  refine lv_ishr hx hb d_Main_tapeNumber_29 ?_
  refine lv_i2b (v := (v >>> (24 &&& 31)).toInt8.toInt32) hx hb d_Main_tapeNumber_30 rfl ?_
  refine va_bast hx hb hK hP hD hS 1 0 rfl rfl (vp_in_nI (n := n + 0) (by omega) (by omega)) d_Main_tapeNumber_31 ?_
  clear hP hD hS
  intro H locs hP hD hS
  rw [show (nI n).toNatClampNeg = n from nI_clamp (by omega)] at hP hD
  rw [pk_vb] at hP hD
  replace hP : va_P (dC, dI) vcl [(h0, .inr (0, [.int m_dpi, .ref m_tape, .ref m_page, .ref m_sheet, .ref m_fonts, .ref m_macros, .ref m_raster, .ref m_interpreter, .ref m_picture, .ref m_coder, .ref m_reader, .ref m_file, .ref m_shown, .int (nI n), .int m_fault, .int m_ended, .int m_overruns, .int m_pictures])), (m_tape, .inl (ct, 65536, .inl (upd f n ((v >>> (24 &&& 31)).toInt8.toInt32))))] H := hP
  replace hD : va_D A [(h0, .inr (0, [.int m_dpi, .ref m_tape, .ref m_page, .ref m_sheet, .ref m_fonts, .ref m_macros, .ref m_raster, .ref m_interpreter, .ref m_picture, .ref m_coder, .ref m_reader, .ref m_file, .ref m_shown, .int (nI n), .int m_fault, .int m_ended, .int m_overruns, .int m_pictures])), (m_tape, .inl (ct, 65536, .inl (upd f n ((v >>> (24 &&& 31)).toInt8.toInt32))))] := hD
  refine lv_aload_n hx hb d_Main_tapeNumber_32 rfl (lv_at hl 1 rfl) ?_
  refine lv_dup hx hb d_Main_tapeNumber_33 rfl ?_
  refine va_get (D := (dC, dI)) (ci := 0) (v := .int (nI n)) (C := R_Main) (T := F_Main) (N := 18) hx hb hwd i_Main hown hK hP 0 rfl rfl 13 (by decide) (hwd _ wd_4_139) (fun _ h9 => h9) rfl d_Main_tapeNumber_34 ?_
  refine lv_iconst (v := 1) hx hb d_Main_tapeNumber_37 (by decide) ?_
  refine lv_iadd hx hb d_Main_tapeNumber_38 ?_
  refine lv_topi (fun y_1 ey_1 => ?_)
  obtain rfl : y_1 = nI (n + 1) := ey_1.trans (nI_1 (n + 0))
  refine va_put (D := (dC, dI)) (ci := 0) (v := .int (nI (n + 1))) (ty := .int) (C := R_Main) (T := F_Main) (N := 18) hx hb hwd i_Main t_Main to_Main no_Main hown hK hP hD hS 0 rfl rfl 13 (by decide) (hwd _ wd_4_139) (fun _ h9 => h9) rfl (by decide +kernel) rfl rfl (Nat.le_of_ble_eq_true rfl) d_Main_tapeNumber_39 ?_
  clear hP hD hS
  intro H locs hP hD hS
  replace hP : va_P (dC, dI) vcl [(h0, .inr (0, [.int m_dpi, .ref m_tape, .ref m_page, .ref m_sheet, .ref m_fonts, .ref m_macros, .ref m_raster, .ref m_interpreter, .ref m_picture, .ref m_coder, .ref m_reader, .ref m_file, .ref m_shown, .int (nI (n + 1)), .int m_fault, .int m_ended, .int m_overruns, .int m_pictures])), (m_tape, .inl (ct, 65536, .inl (upd f n ((v >>> (24 &&& 31)).toInt8.toInt32))))] H := hP
  replace hD : va_D A [(h0, .inr (0, [.int m_dpi, .ref m_tape, .ref m_page, .ref m_sheet, .ref m_fonts, .ref m_macros, .ref m_raster, .ref m_interpreter, .ref m_picture, .ref m_coder, .ref m_reader, .ref m_file, .ref m_shown, .int (nI (n + 1)), .int m_fault, .int m_ended, .int m_overruns, .int m_pictures])), (m_tape, .inl (ct, 65536, .inl (upd f n ((v >>> (24 &&& 31)).toInt8.toInt32))))] := hD
  refine lv_iinc (v := 16) (lv' := [(2, .int 16), (0, .ref h0), (1, .int v)]) hx hb d_Main_tapeNumber_42 hl (k := 0) rfl (by decide) (by decide) rfl ?_
  clear hl
  intro ls hl
  refine lv_goto (tgt := 3) hx hb d_Main_tapeNumber_45 (by decide) ?_
  refine lv_iload_n hx hb d_Main_tapeNumber_3 rfl (lv_at hl 0 rfl) ?_
  refine lv_if_lt (tgt := 48) hx hb d_Main_tapeNumber_4 (by decide) (fun c4 => absurd c4 (by decide)) (fun _ => ?_)
  refine lv_aload_n hx hb d_Main_tapeNumber_7 rfl (lv_at hl 1 rfl) ?_
  refine va_get (D := (dC, dI)) (ci := 0) (v := .int (nI (n + 1))) (C := R_Main) (T := F_Main) (N := 18) hx hb hwd i_Main hown hK hP 0 rfl rfl 13 (by decide) (hwd _ wd_4_139) (fun _ h9 => h9) rfl d_Main_tapeNumber_8 ?_
  refine lv_aload_n hx hb d_Main_tapeNumber_11 rfl (lv_at hl 1 rfl) ?_
  refine va_get (D := (dC, dI)) (ci := 0) (v := .ref m_tape) (C := R_Main) (T := F_Main) (N := 18) hx hb hwd i_Main hown hK hP 0 rfl rfl 1 (by decide) (hwd _ wd_4_127) (fun _ h9 => h9) rfl d_Main_tapeNumber_12 ?_
  refine va_alen (v := 65536) hx hb hK hP 1 0 rfl rfl rfl d_Main_tapeNumber_15 ?_
  refine lv_icmp_ge (tgt := 48) hx hb d_Main_tapeNumber_16 (by decide) (fun c16 => absurd c16 (nI_ge (a := n + 1) (b := 65536) (by omega) (by omega))) (fun c16 => ?_)
  refine lv_aload_n hx hb d_Main_tapeNumber_19 rfl (lv_at hl 1 rfl) ?_
  refine va_get (D := (dC, dI)) (ci := 0) (v := .ref m_tape) (C := R_Main) (T := F_Main) (N := 18) hx hb hwd i_Main hown hK hP 0 rfl rfl 1 (by decide) (hwd _ wd_4_127) (fun _ h9 => h9) rfl d_Main_tapeNumber_20 ?_
  refine lv_aload_n hx hb d_Main_tapeNumber_23 rfl (lv_at hl 1 rfl) ?_
  refine va_get (D := (dC, dI)) (ci := 0) (v := .int (nI (n + 1))) (C := R_Main) (T := F_Main) (N := 18) hx hb hwd i_Main hown hK hP 0 rfl rfl 13 (by decide) (hwd _ wd_4_139) (fun _ h9 => h9) rfl d_Main_tapeNumber_24 ?_
  refine lv_iload_n hx hb d_Main_tapeNumber_27 rfl (lv_at hl 2 rfl) ?_
  refine lv_iload_n hx hb d_Main_tapeNumber_28 rfl (lv_at hl 0 rfl) ?_
  refine lv_ishr hx hb d_Main_tapeNumber_29 ?_
  refine lv_i2b (v := (v >>> (16 &&& 31)).toInt8.toInt32) hx hb d_Main_tapeNumber_30 rfl ?_
  refine va_bast hx hb hK hP hD hS 1 0 rfl rfl (vp_in_nI (n := n + 1) (by omega) (by omega)) d_Main_tapeNumber_31 ?_
  clear hP hD hS
  intro H locs hP hD hS
  rw [show (nI (n + 1)).toNatClampNeg = n + 1 from nI_clamp (by omega)] at hP hD
  rw [pk_vb] at hP hD
  replace hP : va_P (dC, dI) vcl [(h0, .inr (0, [.int m_dpi, .ref m_tape, .ref m_page, .ref m_sheet, .ref m_fonts, .ref m_macros, .ref m_raster, .ref m_interpreter, .ref m_picture, .ref m_coder, .ref m_reader, .ref m_file, .ref m_shown, .int (nI (n + 1)), .int m_fault, .int m_ended, .int m_overruns, .int m_pictures])), (m_tape, .inl (ct, 65536, .inl (upd (upd f n ((v >>> (24 &&& 31)).toInt8.toInt32)) (n + 1) ((v >>> (16 &&& 31)).toInt8.toInt32))))] H := hP
  replace hD : va_D A [(h0, .inr (0, [.int m_dpi, .ref m_tape, .ref m_page, .ref m_sheet, .ref m_fonts, .ref m_macros, .ref m_raster, .ref m_interpreter, .ref m_picture, .ref m_coder, .ref m_reader, .ref m_file, .ref m_shown, .int (nI (n + 1)), .int m_fault, .int m_ended, .int m_overruns, .int m_pictures])), (m_tape, .inl (ct, 65536, .inl (upd (upd f n ((v >>> (24 &&& 31)).toInt8.toInt32)) (n + 1) ((v >>> (16 &&& 31)).toInt8.toInt32))))] := hD
  refine lv_aload_n hx hb d_Main_tapeNumber_32 rfl (lv_at hl 1 rfl) ?_
  refine lv_dup hx hb d_Main_tapeNumber_33 rfl ?_
  refine va_get (D := (dC, dI)) (ci := 0) (v := .int (nI (n + 1))) (C := R_Main) (T := F_Main) (N := 18) hx hb hwd i_Main hown hK hP 0 rfl rfl 13 (by decide) (hwd _ wd_4_139) (fun _ h9 => h9) rfl d_Main_tapeNumber_34 ?_
  refine lv_iconst (v := 1) hx hb d_Main_tapeNumber_37 (by decide) ?_
  refine lv_iadd hx hb d_Main_tapeNumber_38 ?_
  refine lv_topi (fun y_2 ey_2 => ?_)
  obtain rfl : y_2 = nI (n + 2) := ey_2.trans (nI_1 (n + 1))
  refine va_put (D := (dC, dI)) (ci := 0) (v := .int (nI (n + 2))) (ty := .int) (C := R_Main) (T := F_Main) (N := 18) hx hb hwd i_Main t_Main to_Main no_Main hown hK hP hD hS 0 rfl rfl 13 (by decide) (hwd _ wd_4_139) (fun _ h9 => h9) rfl (by decide +kernel) rfl rfl (Nat.le_of_ble_eq_true rfl) d_Main_tapeNumber_39 ?_
  clear hP hD hS
  intro H locs hP hD hS
  replace hP : va_P (dC, dI) vcl [(h0, .inr (0, [.int m_dpi, .ref m_tape, .ref m_page, .ref m_sheet, .ref m_fonts, .ref m_macros, .ref m_raster, .ref m_interpreter, .ref m_picture, .ref m_coder, .ref m_reader, .ref m_file, .ref m_shown, .int (nI (n + 2)), .int m_fault, .int m_ended, .int m_overruns, .int m_pictures])), (m_tape, .inl (ct, 65536, .inl (upd (upd f n ((v >>> (24 &&& 31)).toInt8.toInt32)) (n + 1) ((v >>> (16 &&& 31)).toInt8.toInt32))))] H := hP
  replace hD : va_D A [(h0, .inr (0, [.int m_dpi, .ref m_tape, .ref m_page, .ref m_sheet, .ref m_fonts, .ref m_macros, .ref m_raster, .ref m_interpreter, .ref m_picture, .ref m_coder, .ref m_reader, .ref m_file, .ref m_shown, .int (nI (n + 2)), .int m_fault, .int m_ended, .int m_overruns, .int m_pictures])), (m_tape, .inl (ct, 65536, .inl (upd (upd f n ((v >>> (24 &&& 31)).toInt8.toInt32)) (n + 1) ((v >>> (16 &&& 31)).toInt8.toInt32))))] := hD
  refine lv_iinc (v := 8) (lv' := [(2, .int 8), (0, .ref h0), (1, .int v)]) hx hb d_Main_tapeNumber_42 hl (k := 0) rfl (by decide) (by decide) rfl ?_
  clear hl
  intro ls hl
  refine lv_goto (tgt := 3) hx hb d_Main_tapeNumber_45 (by decide) ?_
  refine lv_iload_n hx hb d_Main_tapeNumber_3 rfl (lv_at hl 0 rfl) ?_
  refine lv_if_lt (tgt := 48) hx hb d_Main_tapeNumber_4 (by decide) (fun c4 => absurd c4 (by decide)) (fun _ => ?_)
  refine lv_aload_n hx hb d_Main_tapeNumber_7 rfl (lv_at hl 1 rfl) ?_
  refine va_get (D := (dC, dI)) (ci := 0) (v := .int (nI (n + 2))) (C := R_Main) (T := F_Main) (N := 18) hx hb hwd i_Main hown hK hP 0 rfl rfl 13 (by decide) (hwd _ wd_4_139) (fun _ h9 => h9) rfl d_Main_tapeNumber_8 ?_
  refine lv_aload_n hx hb d_Main_tapeNumber_11 rfl (lv_at hl 1 rfl) ?_
  refine va_get (D := (dC, dI)) (ci := 0) (v := .ref m_tape) (C := R_Main) (T := F_Main) (N := 18) hx hb hwd i_Main hown hK hP 0 rfl rfl 1 (by decide) (hwd _ wd_4_127) (fun _ h9 => h9) rfl d_Main_tapeNumber_12 ?_
  refine va_alen (v := 65536) hx hb hK hP 1 0 rfl rfl rfl d_Main_tapeNumber_15 ?_
  refine lv_icmp_ge (tgt := 48) hx hb d_Main_tapeNumber_16 (by decide) (fun c16 => absurd c16 (nI_ge (a := n + 2) (b := 65536) (by omega) (by omega))) (fun c16 => ?_)
  refine lv_aload_n hx hb d_Main_tapeNumber_19 rfl (lv_at hl 1 rfl) ?_
  refine va_get (D := (dC, dI)) (ci := 0) (v := .ref m_tape) (C := R_Main) (T := F_Main) (N := 18) hx hb hwd i_Main hown hK hP 0 rfl rfl 1 (by decide) (hwd _ wd_4_127) (fun _ h9 => h9) rfl d_Main_tapeNumber_20 ?_
  refine lv_aload_n hx hb d_Main_tapeNumber_23 rfl (lv_at hl 1 rfl) ?_
  refine va_get (D := (dC, dI)) (ci := 0) (v := .int (nI (n + 2))) (C := R_Main) (T := F_Main) (N := 18) hx hb hwd i_Main hown hK hP 0 rfl rfl 13 (by decide) (hwd _ wd_4_139) (fun _ h9 => h9) rfl d_Main_tapeNumber_24 ?_
  refine lv_iload_n hx hb d_Main_tapeNumber_27 rfl (lv_at hl 2 rfl) ?_
  refine lv_iload_n hx hb d_Main_tapeNumber_28 rfl (lv_at hl 0 rfl) ?_
  refine lv_ishr hx hb d_Main_tapeNumber_29 ?_
  refine lv_i2b (v := (v >>> (8 &&& 31)).toInt8.toInt32) hx hb d_Main_tapeNumber_30 rfl ?_
  refine va_bast hx hb hK hP hD hS 1 0 rfl rfl (vp_in_nI (n := n + 2) (by omega) (by omega)) d_Main_tapeNumber_31 ?_
  clear hP hD hS
  intro H locs hP hD hS
  rw [show (nI (n + 2)).toNatClampNeg = n + 2 from nI_clamp (by omega)] at hP hD
  rw [pk_vb] at hP hD
  replace hP : va_P (dC, dI) vcl [(h0, .inr (0, [.int m_dpi, .ref m_tape, .ref m_page, .ref m_sheet, .ref m_fonts, .ref m_macros, .ref m_raster, .ref m_interpreter, .ref m_picture, .ref m_coder, .ref m_reader, .ref m_file, .ref m_shown, .int (nI (n + 2)), .int m_fault, .int m_ended, .int m_overruns, .int m_pictures])), (m_tape, .inl (ct, 65536, .inl (upd (upd (upd f n ((v >>> (24 &&& 31)).toInt8.toInt32)) (n + 1) ((v >>> (16 &&& 31)).toInt8.toInt32)) (n + 2) ((v >>> (8 &&& 31)).toInt8.toInt32))))] H := hP
  replace hD : va_D A [(h0, .inr (0, [.int m_dpi, .ref m_tape, .ref m_page, .ref m_sheet, .ref m_fonts, .ref m_macros, .ref m_raster, .ref m_interpreter, .ref m_picture, .ref m_coder, .ref m_reader, .ref m_file, .ref m_shown, .int (nI (n + 2)), .int m_fault, .int m_ended, .int m_overruns, .int m_pictures])), (m_tape, .inl (ct, 65536, .inl (upd (upd (upd f n ((v >>> (24 &&& 31)).toInt8.toInt32)) (n + 1) ((v >>> (16 &&& 31)).toInt8.toInt32)) (n + 2) ((v >>> (8 &&& 31)).toInt8.toInt32))))] := hD
  refine lv_aload_n hx hb d_Main_tapeNumber_32 rfl (lv_at hl 1 rfl) ?_
  refine lv_dup hx hb d_Main_tapeNumber_33 rfl ?_
  refine va_get (D := (dC, dI)) (ci := 0) (v := .int (nI (n + 2))) (C := R_Main) (T := F_Main) (N := 18) hx hb hwd i_Main hown hK hP 0 rfl rfl 13 (by decide) (hwd _ wd_4_139) (fun _ h9 => h9) rfl d_Main_tapeNumber_34 ?_
  refine lv_iconst (v := 1) hx hb d_Main_tapeNumber_37 (by decide) ?_
  refine lv_iadd hx hb d_Main_tapeNumber_38 ?_
  refine lv_topi (fun y_3 ey_3 => ?_)
  obtain rfl : y_3 = nI (n + 3) := ey_3.trans (nI_1 (n + 2))
  refine va_put (D := (dC, dI)) (ci := 0) (v := .int (nI (n + 3))) (ty := .int) (C := R_Main) (T := F_Main) (N := 18) hx hb hwd i_Main t_Main to_Main no_Main hown hK hP hD hS 0 rfl rfl 13 (by decide) (hwd _ wd_4_139) (fun _ h9 => h9) rfl (by decide +kernel) rfl rfl (Nat.le_of_ble_eq_true rfl) d_Main_tapeNumber_39 ?_
  clear hP hD hS
  intro H locs hP hD hS
  replace hP : va_P (dC, dI) vcl [(h0, .inr (0, [.int m_dpi, .ref m_tape, .ref m_page, .ref m_sheet, .ref m_fonts, .ref m_macros, .ref m_raster, .ref m_interpreter, .ref m_picture, .ref m_coder, .ref m_reader, .ref m_file, .ref m_shown, .int (nI (n + 3)), .int m_fault, .int m_ended, .int m_overruns, .int m_pictures])), (m_tape, .inl (ct, 65536, .inl (upd (upd (upd f n ((v >>> (24 &&& 31)).toInt8.toInt32)) (n + 1) ((v >>> (16 &&& 31)).toInt8.toInt32)) (n + 2) ((v >>> (8 &&& 31)).toInt8.toInt32))))] H := hP
  replace hD : va_D A [(h0, .inr (0, [.int m_dpi, .ref m_tape, .ref m_page, .ref m_sheet, .ref m_fonts, .ref m_macros, .ref m_raster, .ref m_interpreter, .ref m_picture, .ref m_coder, .ref m_reader, .ref m_file, .ref m_shown, .int (nI (n + 3)), .int m_fault, .int m_ended, .int m_overruns, .int m_pictures])), (m_tape, .inl (ct, 65536, .inl (upd (upd (upd f n ((v >>> (24 &&& 31)).toInt8.toInt32)) (n + 1) ((v >>> (16 &&& 31)).toInt8.toInt32)) (n + 2) ((v >>> (8 &&& 31)).toInt8.toInt32))))] := hD
  refine lv_iinc (v := 0) (lv' := [(2, .int 0), (0, .ref h0), (1, .int v)]) hx hb d_Main_tapeNumber_42 hl (k := 0) rfl (by decide) (by decide) rfl ?_
  clear hl
  intro ls hl
  refine lv_goto (tgt := 3) hx hb d_Main_tapeNumber_45 (by decide) ?_
  refine lv_iload_n hx hb d_Main_tapeNumber_3 rfl (lv_at hl 0 rfl) ?_
  refine lv_if_lt (tgt := 48) hx hb d_Main_tapeNumber_4 (by decide) (fun c4 => absurd c4 (by decide)) (fun _ => ?_)
  refine lv_aload_n hx hb d_Main_tapeNumber_7 rfl (lv_at hl 1 rfl) ?_
  refine va_get (D := (dC, dI)) (ci := 0) (v := .int (nI (n + 3))) (C := R_Main) (T := F_Main) (N := 18) hx hb hwd i_Main hown hK hP 0 rfl rfl 13 (by decide) (hwd _ wd_4_139) (fun _ h9 => h9) rfl d_Main_tapeNumber_8 ?_
  refine lv_aload_n hx hb d_Main_tapeNumber_11 rfl (lv_at hl 1 rfl) ?_
  refine va_get (D := (dC, dI)) (ci := 0) (v := .ref m_tape) (C := R_Main) (T := F_Main) (N := 18) hx hb hwd i_Main hown hK hP 0 rfl rfl 1 (by decide) (hwd _ wd_4_127) (fun _ h9 => h9) rfl d_Main_tapeNumber_12 ?_
  refine va_alen (v := 65536) hx hb hK hP 1 0 rfl rfl rfl d_Main_tapeNumber_15 ?_
  refine lv_icmp_ge (tgt := 48) hx hb d_Main_tapeNumber_16 (by decide) (fun c16 => absurd c16 (nI_ge (a := n + 3) (b := 65536) (by omega) (by omega))) (fun c16 => ?_)
  refine lv_aload_n hx hb d_Main_tapeNumber_19 rfl (lv_at hl 1 rfl) ?_
  refine va_get (D := (dC, dI)) (ci := 0) (v := .ref m_tape) (C := R_Main) (T := F_Main) (N := 18) hx hb hwd i_Main hown hK hP 0 rfl rfl 1 (by decide) (hwd _ wd_4_127) (fun _ h9 => h9) rfl d_Main_tapeNumber_20 ?_
  refine lv_aload_n hx hb d_Main_tapeNumber_23 rfl (lv_at hl 1 rfl) ?_
  refine va_get (D := (dC, dI)) (ci := 0) (v := .int (nI (n + 3))) (C := R_Main) (T := F_Main) (N := 18) hx hb hwd i_Main hown hK hP 0 rfl rfl 13 (by decide) (hwd _ wd_4_139) (fun _ h9 => h9) rfl d_Main_tapeNumber_24 ?_
  refine lv_iload_n hx hb d_Main_tapeNumber_27 rfl (lv_at hl 2 rfl) ?_
  refine lv_iload_n hx hb d_Main_tapeNumber_28 rfl (lv_at hl 0 rfl) ?_
  refine lv_ishr hx hb d_Main_tapeNumber_29 ?_
  refine lv_i2b (v := (v >>> (0 &&& 31)).toInt8.toInt32) hx hb d_Main_tapeNumber_30 rfl ?_
  refine va_bast hx hb hK hP hD hS 1 0 rfl rfl (vp_in_nI (n := n + 3) (by omega) (by omega)) d_Main_tapeNumber_31 ?_
  clear hP hD hS
  intro H locs hP hD hS
  rw [show (nI (n + 3)).toNatClampNeg = n + 3 from nI_clamp (by omega)] at hP hD
  rw [pk_vb] at hP hD
  replace hP : va_P (dC, dI) vcl [(h0, .inr (0, [.int m_dpi, .ref m_tape, .ref m_page, .ref m_sheet, .ref m_fonts, .ref m_macros, .ref m_raster, .ref m_interpreter, .ref m_picture, .ref m_coder, .ref m_reader, .ref m_file, .ref m_shown, .int (nI (n + 3)), .int m_fault, .int m_ended, .int m_overruns, .int m_pictures])), (m_tape, .inl (ct, 65536, .inl (upd (upd (upd (upd f n ((v >>> (24 &&& 31)).toInt8.toInt32)) (n + 1) ((v >>> (16 &&& 31)).toInt8.toInt32)) (n + 2) ((v >>> (8 &&& 31)).toInt8.toInt32)) (n + 3) ((v >>> (0 &&& 31)).toInt8.toInt32))))] H := hP
  replace hD : va_D A [(h0, .inr (0, [.int m_dpi, .ref m_tape, .ref m_page, .ref m_sheet, .ref m_fonts, .ref m_macros, .ref m_raster, .ref m_interpreter, .ref m_picture, .ref m_coder, .ref m_reader, .ref m_file, .ref m_shown, .int (nI (n + 3)), .int m_fault, .int m_ended, .int m_overruns, .int m_pictures])), (m_tape, .inl (ct, 65536, .inl (upd (upd (upd (upd f n ((v >>> (24 &&& 31)).toInt8.toInt32)) (n + 1) ((v >>> (16 &&& 31)).toInt8.toInt32)) (n + 2) ((v >>> (8 &&& 31)).toInt8.toInt32)) (n + 3) ((v >>> (0 &&& 31)).toInt8.toInt32))))] := hD
  refine lv_aload_n hx hb d_Main_tapeNumber_32 rfl (lv_at hl 1 rfl) ?_
  refine lv_dup hx hb d_Main_tapeNumber_33 rfl ?_
  refine va_get (D := (dC, dI)) (ci := 0) (v := .int (nI (n + 3))) (C := R_Main) (T := F_Main) (N := 18) hx hb hwd i_Main hown hK hP 0 rfl rfl 13 (by decide) (hwd _ wd_4_139) (fun _ h9 => h9) rfl d_Main_tapeNumber_34 ?_
  refine lv_iconst (v := 1) hx hb d_Main_tapeNumber_37 (by decide) ?_
  refine lv_iadd hx hb d_Main_tapeNumber_38 ?_
  refine lv_topi (fun y_4 ey_4 => ?_)
  obtain rfl : y_4 = nI (n + 4) := ey_4.trans (nI_1 (n + 3))
  refine va_put (D := (dC, dI)) (ci := 0) (v := .int (nI (n + 4))) (ty := .int) (C := R_Main) (T := F_Main) (N := 18) hx hb hwd i_Main t_Main to_Main no_Main hown hK hP hD hS 0 rfl rfl 13 (by decide) (hwd _ wd_4_139) (fun _ h9 => h9) rfl (by decide +kernel) rfl rfl (Nat.le_of_ble_eq_true rfl) d_Main_tapeNumber_39 ?_
  clear hP hD hS
  intro H locs hP hD hS
  replace hP : va_P (dC, dI) vcl [(h0, .inr (0, [.int m_dpi, .ref m_tape, .ref m_page, .ref m_sheet, .ref m_fonts, .ref m_macros, .ref m_raster, .ref m_interpreter, .ref m_picture, .ref m_coder, .ref m_reader, .ref m_file, .ref m_shown, .int (nI (n + 4)), .int m_fault, .int m_ended, .int m_overruns, .int m_pictures])), (m_tape, .inl (ct, 65536, .inl (upd (upd (upd (upd f n ((v >>> (24 &&& 31)).toInt8.toInt32)) (n + 1) ((v >>> (16 &&& 31)).toInt8.toInt32)) (n + 2) ((v >>> (8 &&& 31)).toInt8.toInt32)) (n + 3) ((v >>> (0 &&& 31)).toInt8.toInt32))))] H := hP
  replace hD : va_D A [(h0, .inr (0, [.int m_dpi, .ref m_tape, .ref m_page, .ref m_sheet, .ref m_fonts, .ref m_macros, .ref m_raster, .ref m_interpreter, .ref m_picture, .ref m_coder, .ref m_reader, .ref m_file, .ref m_shown, .int (nI (n + 4)), .int m_fault, .int m_ended, .int m_overruns, .int m_pictures])), (m_tape, .inl (ct, 65536, .inl (upd (upd (upd (upd f n ((v >>> (24 &&& 31)).toInt8.toInt32)) (n + 1) ((v >>> (16 &&& 31)).toInt8.toInt32)) (n + 2) ((v >>> (8 &&& 31)).toInt8.toInt32)) (n + 3) ((v >>> (0 &&& 31)).toInt8.toInt32))))] := hD
  refine lv_iinc (v := (-8)) (lv' := [(2, .int (-8)), (0, .ref h0), (1, .int v)]) hx hb d_Main_tapeNumber_42 hl (k := 0) rfl (by decide) (by decide) rfl ?_
  clear hl
  intro ls hl
  refine lv_goto (tgt := 3) hx hb d_Main_tapeNumber_45 (by decide) ?_
  refine lv_iload_n hx hb d_Main_tapeNumber_3 rfl (lv_at hl 0 rfl) ?_
  refine lv_if_lt (tgt := 48) hx hb d_Main_tapeNumber_4 (by decide) (fun _ => ?_) (fun c4 => absurd (by decide) c4)
  have hP9 := hP.sub (ws' := [(h0, .inr (0, [.int m_dpi, .ref m_tape, .ref m_page, .ref m_sheet, .ref m_fonts, .ref m_macros, .ref m_raster, .ref m_interpreter, .ref m_picture, .ref m_coder, .ref m_reader, .ref m_file, .ref m_shown, .int (nI (n + 4)), .int m_fault, .int m_ended, .int m_overruns, .int m_pictures])), (m_tape, .inl (ct, 65536, .inl (upd (upd (upd (upd f n ((v >>> (24 &&& 31)).toInt8.toInt32)) (n + 1) ((v >>> (16 &&& 31)).toInt8.toInt32)) (n + 2) ((v >>> (8 &&& 31)).toInt8.toInt32)) (n + 3) ((v >>> (0 &&& 31)).toInt8.toInt32))))]) [0, 1] rfl
  have hD9 := hD.sub (ws' := [(h0, .inr (0, [.int m_dpi, .ref m_tape, .ref m_page, .ref m_sheet, .ref m_fonts, .ref m_macros, .ref m_raster, .ref m_interpreter, .ref m_picture, .ref m_coder, .ref m_reader, .ref m_file, .ref m_shown, .int (nI (n + 4)), .int m_fault, .int m_ended, .int m_overruns, .int m_pictures])), (m_tape, .inl (ct, 65536, .inl (upd (upd (upd (upd f n ((v >>> (24 &&& 31)).toInt8.toInt32)) (n + 1) ((v >>> (16 &&& 31)).toInt8.toInt32)) (n + 2) ((v >>> (8 &&& 31)).toInt8.toInt32)) (n + 3) ((v >>> (0 &&& 31)).toInt8.toInt32))))]) [0, 1] (by decide) rfl
  have hK9 := hK.sub (tys' := [(ct, .byte)]) [0] rfl
  exact W.vret hx hb hr (fun t ht hW => ⟨⟨(), rfl, (trivial), by rw [ht]; exact hP9, va_K.moved hW.alike hK9, hD9⟩, hS.F ht⟩) hS.2.2 d_Main_tapeNumber_48

abbrev at_c_tape (dC : Nat → ClassId) (dI : Nat → Nat → Nat) (h0 : Nat) (m_dpi : Int32) (m_tape : Nat) (m_page : Nat) (m_sheet : Nat) (m_fonts : Nat) (m_macros : Nat) (m_raster : Nat) (m_interpreter : Nat) (m_picture : Nat) (m_coder : Nat) (m_reader : Nat) (m_file : Nat) (m_shown : Nat) (m_fault : Int32) (m_ended : Int32) (m_overruns : Int32) (m_pictures : Int32) (n : Nat) (ct : ClassId) (f : Nat → Int32) (v1 : Int32) (v2 : Int32) (v3 : Int32) (v4 : Int32) (v5 : Int32) (A : Nat → Prop) (u : Unit) (t : State) : Prop := match u with
  | _ => va_P (dC, dI) vcl [(h0, .inr (0, [.int m_dpi, .ref m_tape, .ref m_page, .ref m_sheet, .ref m_fonts, .ref m_macros, .ref m_raster, .ref m_interpreter, .ref m_picture, .ref m_coder, .ref m_reader, .ref m_file, .ref m_shown, .int (nI (((((n + 4) + 4) + 4) + 4) + 4)), .int m_fault, .int m_ended, .int m_overruns, .int m_pictures])), (m_tape, .inl (ct, 65536, .inl (upd (upd (upd (upd (upd (upd (upd (upd (upd (upd (upd (upd (upd (upd (upd (upd (upd (upd (upd (upd f n ((v1 >>> (24 &&& 31)).toInt8.toInt32)) (n + 1) ((v1 >>> (16 &&& 31)).toInt8.toInt32)) (n + 2) ((v1 >>> (8 &&& 31)).toInt8.toInt32)) (n + 3) ((v1 >>> (0 &&& 31)).toInt8.toInt32)) (n + 4) ((v2 >>> (24 &&& 31)).toInt8.toInt32)) ((n + 4) + 1) ((v2 >>> (16 &&& 31)).toInt8.toInt32)) ((n + 4) + 2) ((v2 >>> (8 &&& 31)).toInt8.toInt32)) ((n + 4) + 3) ((v2 >>> (0 &&& 31)).toInt8.toInt32)) ((n + 4) + 4) ((v3 >>> (24 &&& 31)).toInt8.toInt32)) (((n + 4) + 4) + 1) ((v3 >>> (16 &&& 31)).toInt8.toInt32)) (((n + 4) + 4) + 2) ((v3 >>> (8 &&& 31)).toInt8.toInt32)) (((n + 4) + 4) + 3) ((v3 >>> (0 &&& 31)).toInt8.toInt32)) (((n + 4) + 4) + 4) ((v4 >>> (24 &&& 31)).toInt8.toInt32)) ((((n + 4) + 4) + 4) + 1) ((v4 >>> (16 &&& 31)).toInt8.toInt32)) ((((n + 4) + 4) + 4) + 2) ((v4 >>> (8 &&& 31)).toInt8.toInt32)) ((((n + 4) + 4) + 4) + 3) ((v4 >>> (0 &&& 31)).toInt8.toInt32)) ((((n + 4) + 4) + 4) + 4) ((v5 >>> (24 &&& 31)).toInt8.toInt32)) (((((n + 4) + 4) + 4) + 4) + 1) ((v5 >>> (16 &&& 31)).toInt8.toInt32)) (((((n + 4) + 4) + 4) + 4) + 2) ((v5 >>> (8 &&& 31)).toInt8.toInt32)) (((((n + 4) + 4) + 4) + 4) + 3) ((v5 >>> (0 &&& 31)).toInt8.toInt32))))] t.heap ∧ va_K (dC, dI) vcl [(ct, .byte)] t ∧ va_D A [(h0, .inr (0, [.int m_dpi, .ref m_tape, .ref m_page, .ref m_sheet, .ref m_fonts, .ref m_macros, .ref m_raster, .ref m_interpreter, .ref m_picture, .ref m_coder, .ref m_reader, .ref m_file, .ref m_shown, .int (nI (((((n + 4) + 4) + 4) + 4) + 4)), .int m_fault, .int m_ended, .int m_overruns, .int m_pictures])), (m_tape, .inl (ct, 65536, .inl (upd (upd (upd (upd (upd (upd (upd (upd (upd (upd (upd (upd (upd (upd (upd (upd (upd (upd (upd (upd f n ((v1 >>> (24 &&& 31)).toInt8.toInt32)) (n + 1) ((v1 >>> (16 &&& 31)).toInt8.toInt32)) (n + 2) ((v1 >>> (8 &&& 31)).toInt8.toInt32)) (n + 3) ((v1 >>> (0 &&& 31)).toInt8.toInt32)) (n + 4) ((v2 >>> (24 &&& 31)).toInt8.toInt32)) ((n + 4) + 1) ((v2 >>> (16 &&& 31)).toInt8.toInt32)) ((n + 4) + 2) ((v2 >>> (8 &&& 31)).toInt8.toInt32)) ((n + 4) + 3) ((v2 >>> (0 &&& 31)).toInt8.toInt32)) ((n + 4) + 4) ((v3 >>> (24 &&& 31)).toInt8.toInt32)) (((n + 4) + 4) + 1) ((v3 >>> (16 &&& 31)).toInt8.toInt32)) (((n + 4) + 4) + 2) ((v3 >>> (8 &&& 31)).toInt8.toInt32)) (((n + 4) + 4) + 3) ((v3 >>> (0 &&& 31)).toInt8.toInt32)) (((n + 4) + 4) + 4) ((v4 >>> (24 &&& 31)).toInt8.toInt32)) ((((n + 4) + 4) + 4) + 1) ((v4 >>> (16 &&& 31)).toInt8.toInt32)) ((((n + 4) + 4) + 4) + 2) ((v4 >>> (8 &&& 31)).toInt8.toInt32)) ((((n + 4) + 4) + 4) + 3) ((v4 >>> (0 &&& 31)).toInt8.toInt32)) ((((n + 4) + 4) + 4) + 4) ((v5 >>> (24 &&& 31)).toInt8.toInt32)) (((((n + 4) + 4) + 4) + 4) + 1) ((v5 >>> (16 &&& 31)).toInt8.toInt32)) (((((n + 4) + 4) + 4) + 4) + 2) ((v5 >>> (8 &&& 31)).toInt8.toInt32)) (((((n + 4) + 4) + 4) + 4) + 3) ((v5 >>> (0 &&& 31)).toInt8.toInt32))))]
abbrev po_c_tape (h0 : Nat) (m_dpi : Int32) (m_tape : Nat) (m_page : Nat) (m_sheet : Nat) (m_fonts : Nat) (m_macros : Nat) (m_raster : Nat) (m_interpreter : Nat) (m_picture : Nat) (m_coder : Nat) (m_reader : Nat) (m_file : Nat) (m_shown : Nat) (m_fault : Int32) (m_ended : Int32) (m_overruns : Int32) (m_pictures : Int32) (n : Nat) (ct : ClassId) (f : Nat → Int32) (v1 : Int32) (v2 : Int32) (v3 : Int32) (v4 : Int32) (v5 : Int32) (r : Int32) (u : Unit) : Prop := match u with
  | _ => r = 1
abbrev q_c_tape (dC : Nat → ClassId) (dI : Nat → Nat → Nat) (h0 : Nat) (m_dpi : Int32) (m_tape : Nat) (m_page : Nat) (m_sheet : Nat) (m_fonts : Nat) (m_macros : Nat) (m_raster : Nat) (m_interpreter : Nat) (m_picture : Nat) (m_coder : Nat) (m_reader : Nat) (m_file : Nat) (m_shown : Nat) (m_fault : Int32) (m_ended : Int32) (m_overruns : Int32) (m_pictures : Int32) (n : Nat) (ct : ClassId) (f : Nat → Int32) (v1 : Int32) (v2 : Int32) (v3 : Int32) (v4 : Int32) (v5 : Int32) (A : Nat → Prop) : Array Value → State → Outcome → State → Prop := va_Qi (po_c_tape h0 m_dpi m_tape m_page m_sheet m_fonts m_macros m_raster m_interpreter m_picture m_coder m_reader m_file m_shown m_fault m_ended m_overruns m_pictures n ct f v1 v2 v3 v4 v5) (at_c_tape dC dI h0 m_dpi m_tape m_page m_sheet m_fonts m_macros m_raster m_interpreter m_picture m_coder m_reader m_file m_shown m_fault m_ended m_overruns m_pictures n ct f v1 v2 v3 v4 v5 A) A
abbrev rm_c_tape : Room := { frames := 1, cells := 0, slots := 0, locals := 22 }
set_option maxHeartbeats 4000000 in
set_option maxRecDepth 100000 in
theorem c_tape (l : Launch) (dC : Nat → ClassId) (dI : Nat → Nat → Nat) (tt : Nat → Nat) (h0 : Nat) (m_dpi : Int32) (m_tape : Nat) (m_page : Nat) (m_sheet : Nat) (m_fonts : Nat) (m_macros : Nat) (m_raster : Nat) (m_interpreter : Nat) (m_picture : Nat) (m_coder : Nat) (m_reader : Nat) (m_file : Nat) (m_shown : Nat) (m_fault : Int32) (m_ended : Int32) (m_overruns : Int32) (m_pictures : Int32) (n : Nat) (ct : ClassId) (f : Nat → Int32) (v1 : Int32) (v2 : Int32) (v3 : Int32) (v4 : Int32) (v5 : Int32) (sz : Nat) (hn : n + 20 ≤ 65536) : Met l y_Main_tape w_Main_tape rm_c_tape (va_Pc [.ref h0, .int v1, .int v2, .int v3, .int v4, .int v5] (fun U => U.heap.size = sz ∧ va_P (dC, dI) vcl [(h0, .inr (0, [.int m_dpi, .ref m_tape, .ref m_page, .ref m_sheet, .ref m_fonts, .ref m_macros, .ref m_raster, .ref m_interpreter, .ref m_picture, .ref m_coder, .ref m_reader, .ref m_file, .ref m_shown, .int (nI n), .int m_fault, .int m_ended, .int m_overruns, .int m_pictures])), (m_tape, .inl (ct, 65536, .inl f))] U.heap ∧ va_K (dC, dI) vcl [(ct, .byte)] U ∧ va_D (fun _ => True) [(h0, .inr (0, [.int m_dpi, .ref m_tape, .ref m_page, .ref m_sheet, .ref m_fonts, .ref m_macros, .ref m_raster, .ref m_interpreter, .ref m_picture, .ref m_coder, .ref m_reader, .ref m_file, .ref m_shown, .int (nI n), .int m_fault, .int m_ended, .int m_overruns, .int m_pictures])), (m_tape, .inl (ct, 65536, .inl f))] ∧ SF tt (va_A [(h0, .inr (0, [.int m_dpi, .ref m_tape, .ref m_page, .ref m_sheet, .ref m_fonts, .ref m_macros, .ref m_raster, .ref m_interpreter, .ref m_picture, .ref m_coder, .ref m_reader, .ref m_file, .ref m_shown, .int (nI n), .int m_fault, .int m_ended, .int m_overruns, .int m_pictures])), (m_tape, .inl (ct, 65536, .inl f))] sz) U U.heap)) (q_c_tape dC dI h0 m_dpi m_tape m_page m_sheet m_fonts m_macros m_raster m_interpreter m_picture m_coder m_reader m_file m_shown m_fault m_ended m_overruns m_pictures n ct f v1 v2 v3 v4 v5 (va_A [(h0, .inr (0, [.int m_dpi, .ref m_tape, .ref m_page, .ref m_sheet, .ref m_fonts, .ref m_macros, .ref m_raster, .ref m_interpreter, .ref m_picture, .ref m_coder, .ref m_reader, .ref m_file, .ref m_shown, .int (nI n), .int m_fault, .int m_ended, .int m_overruns, .int m_pictures])), (m_tape, .inl (ct, 65536, .inl f))] sz)) 0 0 (va_A [(h0, .inr (0, [.int m_dpi, .ref m_tape, .ref m_page, .ref m_sheet, .ref m_fonts, .ref m_macros, .ref m_raster, .ref m_interpreter, .ref m_picture, .ref m_coder, .ref m_reader, .ref m_file, .ref m_shown, .int (nI n), .int m_fault, .int m_ended, .int m_overruns, .int m_pictures])), (m_tape, .inl (ct, 65536, .inl f))] sz) := by
  refine Met.ofW (cc := b_Main_tape) (maxL := 6) (ret := (some .boolean)) (by decide) rfl ?_
  intro p e s m args below meth c s₁ B hml hv
  obtain ⟨rfl, hsz, hP, hK, hD0, hF⟩ := hv
  have hx := B.exec
  have hb := B.bytes
  have hr := B.returns
  have hwd : ∀ w ∈ gT, w.before _ s = true := fun w h => atoms_spec (ws := w_Main_tape) B.pre w (List.mem_cons_of_mem _ h)
  have hown : s.vm.findClass R_Main = some m.cls := findClass_of_methodNamed B.named
  have hlocks := B.notSynchronized
  subst hsz
  have hD := hD0.self (sz := s.heap.size)
  generalize hAe : va_A [(h0, .inr (0, [.int m_dpi, .ref m_tape, .ref m_page, .ref m_sheet, .ref m_fonts, .ref m_macros, .ref m_raster, .ref m_interpreter, .ref m_picture, .ref m_coder, .ref m_reader, .ref m_file, .ref m_shown, .int (nI n), .int m_fault, .int m_ended, .int m_overruns, .int m_pictures])), (m_tape, .inl (ct, 65536, .inl f))] s.heap.size = A at hD hF ⊢
  have hA : ∀ q : Nat, s.heap.size ≤ q → A q := fun q h => by rw [← hAe]; exact Or.inr h
  have hS : va_S A s.heap s.heap [] := va_S.rf
  have hP : va_P (dC, dI) vcl [(h0, .inr (0, [.int m_dpi, .ref m_tape, .ref m_page, .ref m_sheet, .ref m_fonts, .ref m_macros, .ref m_raster, .ref m_interpreter, .ref m_picture, .ref m_coder, .ref m_reader, .ref m_file, .ref m_shown, .int (nI n), .int m_fault, .int m_ended, .int m_overruns, .int m_pictures])), (m_tape, .inl (ct, 65536, .inl f))] s.heap := hP
  have hl := lv_entry ([.ref h0, .int v1, .int v2, .int v3, .int v4, .int v5]) (n := 6) (Nat.le_of_ble_eq_true rfl)
  rw [lg_entry_eq]
  generalize (lg_sl ([.ref h0, .int v1, .int v2, .int v3, .int v4, .int v5]) ++ List.replicate (6 - (lg_sl ([.ref h0, .int v1, .int v2, .int v3, .int v4, .int v5])).length) Slot.unset).toArray = ls at hl ⊢
  have hl : lv_has ls 6 [(0, .ref h0), (1, .int v1), (2, .int v2), (3, .int v3), (4, .int v4), (5, .int v5)] := hl
  refine lv_aload_n hx hb d_Main_tape_0 rfl (lv_at hl 0 rfl) ?_
  refine va_get (D := (dC, dI)) (ci := 0) (v := .int (nI n)) (C := R_Main) (T := F_Main) (N := 18) hx hb hwd i_Main hown hK hP 0 rfl rfl 13 (by decide) (hwd _ wd_4_139) (fun _ h9 => h9) rfl d_Main_tape_1 ?_
  refine lv_bipush (v := 20) hx hb d_Main_tape_4 (by decide) ?_
  refine lv_iadd hx hb d_Main_tape_6 ?_
  refine lv_topi (fun y_1 ey_1 => ?_)
  obtain rfl : y_1 = nI (n + 20) := ey_1.trans (nI_add n 20)
  refine lv_aload_n hx hb d_Main_tape_7 rfl (lv_at hl 0 rfl) ?_
  refine va_get (D := (dC, dI)) (ci := 0) (v := .ref m_tape) (C := R_Main) (T := F_Main) (N := 18) hx hb hwd i_Main hown hK hP 0 rfl rfl 1 (by decide) (hwd _ wd_4_127) (fun _ h9 => h9) rfl d_Main_tape_8 ?_
  refine va_alen (v := 65536) hx hb hK hP 1 0 rfl rfl rfl d_Main_tape_11 ?_
  refine lv_icmp_le (tgt := 17) hx hb d_Main_tape_12 (by decide) (fun c12 => ?_) (fun c12 => absurd (nI_le (b := 65536) hn (by omega)) c12)
  refine lv_aload_n hx hb d_Main_tape_17 rfl (lv_at hl 0 rfl) ?_
  refine lv_iload_n hx hb d_Main_tape_18 rfl (lv_at hl 1 rfl) ?_
  have hPc := hP.sub (ws' := [(h0, .inr (0, [.int m_dpi, .ref m_tape, .ref m_page, .ref m_sheet, .ref m_fonts, .ref m_macros, .ref m_raster, .ref m_interpreter, .ref m_picture, .ref m_coder, .ref m_reader, .ref m_file, .ref m_shown, .int (nI n), .int m_fault, .int m_ended, .int m_overruns, .int m_pictures])), (m_tape, .inl (ct, 65536, .inl f))]) [0, 1] rfl
  have hDc := hD.sub (ws' := [(h0, .inr (0, [.int m_dpi, .ref m_tape, .ref m_page, .ref m_sheet, .ref m_fonts, .ref m_macros, .ref m_raster, .ref m_interpreter, .ref m_picture, .ref m_coder, .ref m_reader, .ref m_file, .ref m_shown, .int (nI n), .int m_fault, .int m_ended, .int m_overruns, .int m_pictures])), (m_tape, .inl (ct, 65536, .inl f))]) [0, 1] (by decide) rfl
  have hKc := hK.sub (tys' := [(ct, .byte)]) [0] rfl
  have hFc := va_free (wc := [(h0, .inr (0, [.int m_dpi, .ref m_tape, .ref m_page, .ref m_sheet, .ref m_fonts, .ref m_macros, .ref m_raster, .ref m_interpreter, .ref m_picture, .ref m_coder, .ref m_reader, .ref m_file, .ref m_shown, .int (nI n), .int m_fault, .int m_ended, .int m_overruns, .int m_pictures])), (m_tape, .inl (ct, 65536, .inl f))]) hD hS hA [0, 1] rfl
  refine va_callv (va_runV (As := [.int v1]) (rest := []) ⟨hx, hb, hml, hown, hwd⟩ (c_tapeNumber l dC dI tt h0 m_dpi m_tape m_page m_sheet m_fonts m_macros m_raster m_interpreter m_picture m_coder m_reader m_file m_shown m_fault m_ended m_overruns m_pictures n ct f v1 s.heap.size (by omega)) (cwV 1 hwd (gV gd_Main_tapeNumber wd_4_185 wd_4_187 ws_22 wd_1_1) rfl rfl rfl (by decide +kernel) ⟨Nat.le_of_ble_eq_true rfl, Nat.le_of_ble_eq_true rfl⟩) ⟨fun a U g mk q => by obtain ⟨q0, q1, qP, qK, qD, qF⟩ := q; exact ⟨q0, q1, qP, va_K.moved (u := U) (U := U.calling g mk a) (Vm.Alike.refl U.vm) qK, qD, SF.same (u := U) (U := U.calling g mk a) rfl qF⟩, va_recv hKc hPc (ci := 0) (q0 := 0) rfl rfl, fun U hU hW => ⟨rfl, by rw [hU], by rw [hU]; exact hPc, va_K.moved hW.alike hKc, hDc.weaken (fun _ _ _ _ => trivial), by rw [hU]; exact SF.narrow (SF.moved hW (SF.kept hF (fun a h1 h2 => hS.2.1 a h1 h2))) hFc⟩⟩ rfl rfl hl.1 rfl (lv_room (Nat.le_of_ble_eq_true rfl)) d_Main_tape_19 ⟨Nat.le_of_ble_eq_true rfl, Nat.le_of_ble_eq_true rfl⟩) hS (fun q _ h => hFc q h) hFc ?_
  clear hPc hDc hKc hS
  intro u_3 t H1 locs ht hvm hw hB hz1 hk1 hS
  obtain ⟨hP1, hK1, hD1⟩ := hB
  rw [ht] at hP1
  have hK1 := va_K.moved hvm.symm hK1
  try dsimp only at hw
  have hJ := va_join (wr := []) (w1 := [(h0, .inr (0, [.int m_dpi, .ref m_tape, .ref m_page, .ref m_sheet, .ref m_fonts, .ref m_macros, .ref m_raster, .ref m_interpreter, .ref m_picture, .ref m_coder, .ref m_reader, .ref m_file, .ref m_shown, .int (nI (n + 4)), .int m_fault, .int m_ended, .int m_overruns, .int m_pictures])), (m_tape, .inl (ct, 65536, .inl (upd (upd (upd (upd f n ((v1 >>> (24 &&& 31)).toInt8.toInt32)) (n + 1) ((v1 >>> (16 &&& 31)).toInt8.toInt32)) (n + 2) ((v1 >>> (8 &&& 31)).toInt8.toInt32)) (n + 3) ((v1 >>> (0 &&& 31)).toInt8.toInt32))))]) hP hD [0, 1] [] rfl rfl (by decide) (by decide) hk1 hFc hP1 hD1
  clear hP hD hk1 hFc hP1 hD1 hz1
  obtain ⟨hP, hD⟩ := hJ
  clear hK1 ht hvm
  generalize H1 = H at hP hS ⊢
  replace hP : va_P (dC, dI) vcl [(h0, .inr (0, [.int m_dpi, .ref m_tape, .ref m_page, .ref m_sheet, .ref m_fonts, .ref m_macros, .ref m_raster, .ref m_interpreter, .ref m_picture, .ref m_coder, .ref m_reader, .ref m_file, .ref m_shown, .int (nI (n + 4)), .int m_fault, .int m_ended, .int m_overruns, .int m_pictures])), (m_tape, .inl (ct, 65536, .inl (upd (upd (upd (upd f n ((v1 >>> (24 &&& 31)).toInt8.toInt32)) (n + 1) ((v1 >>> (16 &&& 31)).toInt8.toInt32)) (n + 2) ((v1 >>> (8 &&& 31)).toInt8.toInt32)) (n + 3) ((v1 >>> (0 &&& 31)).toInt8.toInt32))))] H := hP
  replace hD : va_D A [(h0, .inr (0, [.int m_dpi, .ref m_tape, .ref m_page, .ref m_sheet, .ref m_fonts, .ref m_macros, .ref m_raster, .ref m_interpreter, .ref m_picture, .ref m_coder, .ref m_reader, .ref m_file, .ref m_shown, .int (nI (n + 4)), .int m_fault, .int m_ended, .int m_overruns, .int m_pictures])), (m_tape, .inl (ct, 65536, .inl (upd (upd (upd (upd f n ((v1 >>> (24 &&& 31)).toInt8.toInt32)) (n + 1) ((v1 >>> (16 &&& 31)).toInt8.toInt32)) (n + 2) ((v1 >>> (8 &&& 31)).toInt8.toInt32)) (n + 3) ((v1 >>> (0 &&& 31)).toInt8.toInt32))))] := hD
  refine lv_aload_n hx hb d_Main_tape_22 rfl (lv_at hl 0 rfl) ?_
  refine lv_iload_n hx hb d_Main_tape_23 rfl (lv_at hl 2 rfl) ?_
  have hPc := hP.sub (ws' := [(h0, .inr (0, [.int m_dpi, .ref m_tape, .ref m_page, .ref m_sheet, .ref m_fonts, .ref m_macros, .ref m_raster, .ref m_interpreter, .ref m_picture, .ref m_coder, .ref m_reader, .ref m_file, .ref m_shown, .int (nI (n + 4)), .int m_fault, .int m_ended, .int m_overruns, .int m_pictures])), (m_tape, .inl (ct, 65536, .inl (upd (upd (upd (upd f n ((v1 >>> (24 &&& 31)).toInt8.toInt32)) (n + 1) ((v1 >>> (16 &&& 31)).toInt8.toInt32)) (n + 2) ((v1 >>> (8 &&& 31)).toInt8.toInt32)) (n + 3) ((v1 >>> (0 &&& 31)).toInt8.toInt32))))]) [0, 1] rfl
  have hDc := hD.sub (ws' := [(h0, .inr (0, [.int m_dpi, .ref m_tape, .ref m_page, .ref m_sheet, .ref m_fonts, .ref m_macros, .ref m_raster, .ref m_interpreter, .ref m_picture, .ref m_coder, .ref m_reader, .ref m_file, .ref m_shown, .int (nI (n + 4)), .int m_fault, .int m_ended, .int m_overruns, .int m_pictures])), (m_tape, .inl (ct, 65536, .inl (upd (upd (upd (upd f n ((v1 >>> (24 &&& 31)).toInt8.toInt32)) (n + 1) ((v1 >>> (16 &&& 31)).toInt8.toInt32)) (n + 2) ((v1 >>> (8 &&& 31)).toInt8.toInt32)) (n + 3) ((v1 >>> (0 &&& 31)).toInt8.toInt32))))]) [0, 1] (by decide) rfl
  have hKc := hK.sub (tys' := [(ct, .byte)]) [0] rfl
  have hFc := va_free (wc := [(h0, .inr (0, [.int m_dpi, .ref m_tape, .ref m_page, .ref m_sheet, .ref m_fonts, .ref m_macros, .ref m_raster, .ref m_interpreter, .ref m_picture, .ref m_coder, .ref m_reader, .ref m_file, .ref m_shown, .int (nI (n + 4)), .int m_fault, .int m_ended, .int m_overruns, .int m_pictures])), (m_tape, .inl (ct, 65536, .inl (upd (upd (upd (upd f n ((v1 >>> (24 &&& 31)).toInt8.toInt32)) (n + 1) ((v1 >>> (16 &&& 31)).toInt8.toInt32)) (n + 2) ((v1 >>> (8 &&& 31)).toInt8.toInt32)) (n + 3) ((v1 >>> (0 &&& 31)).toInt8.toInt32))))]) hD hS hA [0, 1] rfl
  refine va_callv (va_runV (As := [.int v2]) (rest := []) ⟨hx, hb, hml, hown, hwd⟩ (c_tapeNumber l dC dI tt h0 m_dpi m_tape m_page m_sheet m_fonts m_macros m_raster m_interpreter m_picture m_coder m_reader m_file m_shown m_fault m_ended m_overruns m_pictures (n + 4) ct (upd (upd (upd (upd f n ((v1 >>> (24 &&& 31)).toInt8.toInt32)) (n + 1) ((v1 >>> (16 &&& 31)).toInt8.toInt32)) (n + 2) ((v1 >>> (8 &&& 31)).toInt8.toInt32)) (n + 3) ((v1 >>> (0 &&& 31)).toInt8.toInt32)) v2 H.size (by omega)) (cwV 1 hwd (gV gd_Main_tapeNumber wd_4_185 wd_4_187 ws_22 wd_1_1) rfl rfl rfl (by decide +kernel) ⟨Nat.le_of_ble_eq_true rfl, Nat.le_of_ble_eq_true rfl⟩) ⟨fun a U g mk q => by obtain ⟨q0, q1, qP, qK, qD, qF⟩ := q; exact ⟨q0, q1, qP, va_K.moved (u := U) (U := U.calling g mk a) (Vm.Alike.refl U.vm) qK, qD, SF.same (u := U) (U := U.calling g mk a) rfl qF⟩, va_recv hKc hPc (ci := 0) (q0 := 0) rfl rfl, fun U hU hW => ⟨rfl, by rw [hU], by rw [hU]; exact hPc, va_K.moved hW.alike hKc, hDc.weaken (fun _ _ _ _ => trivial), by rw [hU]; exact SF.narrow (SF.moved hW (SF.kept hF (fun a h1 h2 => hS.2.1 a h1 h2))) hFc⟩⟩ rfl rfl hl.1 rfl (lv_room (Nat.le_of_ble_eq_true rfl)) d_Main_tape_24 ⟨Nat.le_of_ble_eq_true rfl, Nat.le_of_ble_eq_true rfl⟩) hS (fun q _ h => hFc q h) hFc ?_
  clear hPc hDc hKc hS
  intro u_5 t H1 locs ht hvm hw hB hz1 hk1 hS
  obtain ⟨hP1, hK1, hD1⟩ := hB
  rw [ht] at hP1
  have hK1 := va_K.moved hvm.symm hK1
  try dsimp only at hw
  have hJ := va_join (wr := []) (w1 := [(h0, .inr (0, [.int m_dpi, .ref m_tape, .ref m_page, .ref m_sheet, .ref m_fonts, .ref m_macros, .ref m_raster, .ref m_interpreter, .ref m_picture, .ref m_coder, .ref m_reader, .ref m_file, .ref m_shown, .int (nI ((n + 4) + 4)), .int m_fault, .int m_ended, .int m_overruns, .int m_pictures])), (m_tape, .inl (ct, 65536, .inl (upd (upd (upd (upd (upd (upd (upd (upd f n ((v1 >>> (24 &&& 31)).toInt8.toInt32)) (n + 1) ((v1 >>> (16 &&& 31)).toInt8.toInt32)) (n + 2) ((v1 >>> (8 &&& 31)).toInt8.toInt32)) (n + 3) ((v1 >>> (0 &&& 31)).toInt8.toInt32)) (n + 4) ((v2 >>> (24 &&& 31)).toInt8.toInt32)) ((n + 4) + 1) ((v2 >>> (16 &&& 31)).toInt8.toInt32)) ((n + 4) + 2) ((v2 >>> (8 &&& 31)).toInt8.toInt32)) ((n + 4) + 3) ((v2 >>> (0 &&& 31)).toInt8.toInt32))))]) hP hD [0, 1] [] rfl rfl (by decide) (by decide) hk1 hFc hP1 hD1
  clear hP hD hk1 hFc hP1 hD1 hz1
  obtain ⟨hP, hD⟩ := hJ
  clear hK1 ht hvm
  generalize H1 = H at hP hS ⊢
  replace hP : va_P (dC, dI) vcl [(h0, .inr (0, [.int m_dpi, .ref m_tape, .ref m_page, .ref m_sheet, .ref m_fonts, .ref m_macros, .ref m_raster, .ref m_interpreter, .ref m_picture, .ref m_coder, .ref m_reader, .ref m_file, .ref m_shown, .int (nI ((n + 4) + 4)), .int m_fault, .int m_ended, .int m_overruns, .int m_pictures])), (m_tape, .inl (ct, 65536, .inl (upd (upd (upd (upd (upd (upd (upd (upd f n ((v1 >>> (24 &&& 31)).toInt8.toInt32)) (n + 1) ((v1 >>> (16 &&& 31)).toInt8.toInt32)) (n + 2) ((v1 >>> (8 &&& 31)).toInt8.toInt32)) (n + 3) ((v1 >>> (0 &&& 31)).toInt8.toInt32)) (n + 4) ((v2 >>> (24 &&& 31)).toInt8.toInt32)) ((n + 4) + 1) ((v2 >>> (16 &&& 31)).toInt8.toInt32)) ((n + 4) + 2) ((v2 >>> (8 &&& 31)).toInt8.toInt32)) ((n + 4) + 3) ((v2 >>> (0 &&& 31)).toInt8.toInt32))))] H := hP
  replace hD : va_D A [(h0, .inr (0, [.int m_dpi, .ref m_tape, .ref m_page, .ref m_sheet, .ref m_fonts, .ref m_macros, .ref m_raster, .ref m_interpreter, .ref m_picture, .ref m_coder, .ref m_reader, .ref m_file, .ref m_shown, .int (nI ((n + 4) + 4)), .int m_fault, .int m_ended, .int m_overruns, .int m_pictures])), (m_tape, .inl (ct, 65536, .inl (upd (upd (upd (upd (upd (upd (upd (upd f n ((v1 >>> (24 &&& 31)).toInt8.toInt32)) (n + 1) ((v1 >>> (16 &&& 31)).toInt8.toInt32)) (n + 2) ((v1 >>> (8 &&& 31)).toInt8.toInt32)) (n + 3) ((v1 >>> (0 &&& 31)).toInt8.toInt32)) (n + 4) ((v2 >>> (24 &&& 31)).toInt8.toInt32)) ((n + 4) + 1) ((v2 >>> (16 &&& 31)).toInt8.toInt32)) ((n + 4) + 2) ((v2 >>> (8 &&& 31)).toInt8.toInt32)) ((n + 4) + 3) ((v2 >>> (0 &&& 31)).toInt8.toInt32))))] := hD
  refine lv_aload_n hx hb d_Main_tape_27 rfl (lv_at hl 0 rfl) ?_
  refine lv_iload_n hx hb d_Main_tape_28 rfl (lv_at hl 3 rfl) ?_
  have hPc := hP.sub (ws' := [(h0, .inr (0, [.int m_dpi, .ref m_tape, .ref m_page, .ref m_sheet, .ref m_fonts, .ref m_macros, .ref m_raster, .ref m_interpreter, .ref m_picture, .ref m_coder, .ref m_reader, .ref m_file, .ref m_shown, .int (nI ((n + 4) + 4)), .int m_fault, .int m_ended, .int m_overruns, .int m_pictures])), (m_tape, .inl (ct, 65536, .inl (upd (upd (upd (upd (upd (upd (upd (upd f n ((v1 >>> (24 &&& 31)).toInt8.toInt32)) (n + 1) ((v1 >>> (16 &&& 31)).toInt8.toInt32)) (n + 2) ((v1 >>> (8 &&& 31)).toInt8.toInt32)) (n + 3) ((v1 >>> (0 &&& 31)).toInt8.toInt32)) (n + 4) ((v2 >>> (24 &&& 31)).toInt8.toInt32)) ((n + 4) + 1) ((v2 >>> (16 &&& 31)).toInt8.toInt32)) ((n + 4) + 2) ((v2 >>> (8 &&& 31)).toInt8.toInt32)) ((n + 4) + 3) ((v2 >>> (0 &&& 31)).toInt8.toInt32))))]) [0, 1] rfl
  have hDc := hD.sub (ws' := [(h0, .inr (0, [.int m_dpi, .ref m_tape, .ref m_page, .ref m_sheet, .ref m_fonts, .ref m_macros, .ref m_raster, .ref m_interpreter, .ref m_picture, .ref m_coder, .ref m_reader, .ref m_file, .ref m_shown, .int (nI ((n + 4) + 4)), .int m_fault, .int m_ended, .int m_overruns, .int m_pictures])), (m_tape, .inl (ct, 65536, .inl (upd (upd (upd (upd (upd (upd (upd (upd f n ((v1 >>> (24 &&& 31)).toInt8.toInt32)) (n + 1) ((v1 >>> (16 &&& 31)).toInt8.toInt32)) (n + 2) ((v1 >>> (8 &&& 31)).toInt8.toInt32)) (n + 3) ((v1 >>> (0 &&& 31)).toInt8.toInt32)) (n + 4) ((v2 >>> (24 &&& 31)).toInt8.toInt32)) ((n + 4) + 1) ((v2 >>> (16 &&& 31)).toInt8.toInt32)) ((n + 4) + 2) ((v2 >>> (8 &&& 31)).toInt8.toInt32)) ((n + 4) + 3) ((v2 >>> (0 &&& 31)).toInt8.toInt32))))]) [0, 1] (by decide) rfl
  have hKc := hK.sub (tys' := [(ct, .byte)]) [0] rfl
  have hFc := va_free (wc := [(h0, .inr (0, [.int m_dpi, .ref m_tape, .ref m_page, .ref m_sheet, .ref m_fonts, .ref m_macros, .ref m_raster, .ref m_interpreter, .ref m_picture, .ref m_coder, .ref m_reader, .ref m_file, .ref m_shown, .int (nI ((n + 4) + 4)), .int m_fault, .int m_ended, .int m_overruns, .int m_pictures])), (m_tape, .inl (ct, 65536, .inl (upd (upd (upd (upd (upd (upd (upd (upd f n ((v1 >>> (24 &&& 31)).toInt8.toInt32)) (n + 1) ((v1 >>> (16 &&& 31)).toInt8.toInt32)) (n + 2) ((v1 >>> (8 &&& 31)).toInt8.toInt32)) (n + 3) ((v1 >>> (0 &&& 31)).toInt8.toInt32)) (n + 4) ((v2 >>> (24 &&& 31)).toInt8.toInt32)) ((n + 4) + 1) ((v2 >>> (16 &&& 31)).toInt8.toInt32)) ((n + 4) + 2) ((v2 >>> (8 &&& 31)).toInt8.toInt32)) ((n + 4) + 3) ((v2 >>> (0 &&& 31)).toInt8.toInt32))))]) hD hS hA [0, 1] rfl
  refine va_callv (va_runV (As := [.int v3]) (rest := []) ⟨hx, hb, hml, hown, hwd⟩ (c_tapeNumber l dC dI tt h0 m_dpi m_tape m_page m_sheet m_fonts m_macros m_raster m_interpreter m_picture m_coder m_reader m_file m_shown m_fault m_ended m_overruns m_pictures ((n + 4) + 4) ct (upd (upd (upd (upd (upd (upd (upd (upd f n ((v1 >>> (24 &&& 31)).toInt8.toInt32)) (n + 1) ((v1 >>> (16 &&& 31)).toInt8.toInt32)) (n + 2) ((v1 >>> (8 &&& 31)).toInt8.toInt32)) (n + 3) ((v1 >>> (0 &&& 31)).toInt8.toInt32)) (n + 4) ((v2 >>> (24 &&& 31)).toInt8.toInt32)) ((n + 4) + 1) ((v2 >>> (16 &&& 31)).toInt8.toInt32)) ((n + 4) + 2) ((v2 >>> (8 &&& 31)).toInt8.toInt32)) ((n + 4) + 3) ((v2 >>> (0 &&& 31)).toInt8.toInt32)) v3 H.size (by omega)) (cwV 1 hwd (gV gd_Main_tapeNumber wd_4_185 wd_4_187 ws_22 wd_1_1) rfl rfl rfl (by decide +kernel) ⟨Nat.le_of_ble_eq_true rfl, Nat.le_of_ble_eq_true rfl⟩) ⟨fun a U g mk q => by obtain ⟨q0, q1, qP, qK, qD, qF⟩ := q; exact ⟨q0, q1, qP, va_K.moved (u := U) (U := U.calling g mk a) (Vm.Alike.refl U.vm) qK, qD, SF.same (u := U) (U := U.calling g mk a) rfl qF⟩, va_recv hKc hPc (ci := 0) (q0 := 0) rfl rfl, fun U hU hW => ⟨rfl, by rw [hU], by rw [hU]; exact hPc, va_K.moved hW.alike hKc, hDc.weaken (fun _ _ _ _ => trivial), by rw [hU]; exact SF.narrow (SF.moved hW (SF.kept hF (fun a h1 h2 => hS.2.1 a h1 h2))) hFc⟩⟩ rfl rfl hl.1 rfl (lv_room (Nat.le_of_ble_eq_true rfl)) d_Main_tape_29 ⟨Nat.le_of_ble_eq_true rfl, Nat.le_of_ble_eq_true rfl⟩) hS (fun q _ h => hFc q h) hFc ?_
  clear hPc hDc hKc hS
  intro u_7 t H1 locs ht hvm hw hB hz1 hk1 hS
  obtain ⟨hP1, hK1, hD1⟩ := hB
  rw [ht] at hP1
  have hK1 := va_K.moved hvm.symm hK1
  try dsimp only at hw
  have hJ := va_join (wr := []) (w1 := [(h0, .inr (0, [.int m_dpi, .ref m_tape, .ref m_page, .ref m_sheet, .ref m_fonts, .ref m_macros, .ref m_raster, .ref m_interpreter, .ref m_picture, .ref m_coder, .ref m_reader, .ref m_file, .ref m_shown, .int (nI (((n + 4) + 4) + 4)), .int m_fault, .int m_ended, .int m_overruns, .int m_pictures])), (m_tape, .inl (ct, 65536, .inl (upd (upd (upd (upd (upd (upd (upd (upd (upd (upd (upd (upd f n ((v1 >>> (24 &&& 31)).toInt8.toInt32)) (n + 1) ((v1 >>> (16 &&& 31)).toInt8.toInt32)) (n + 2) ((v1 >>> (8 &&& 31)).toInt8.toInt32)) (n + 3) ((v1 >>> (0 &&& 31)).toInt8.toInt32)) (n + 4) ((v2 >>> (24 &&& 31)).toInt8.toInt32)) ((n + 4) + 1) ((v2 >>> (16 &&& 31)).toInt8.toInt32)) ((n + 4) + 2) ((v2 >>> (8 &&& 31)).toInt8.toInt32)) ((n + 4) + 3) ((v2 >>> (0 &&& 31)).toInt8.toInt32)) ((n + 4) + 4) ((v3 >>> (24 &&& 31)).toInt8.toInt32)) (((n + 4) + 4) + 1) ((v3 >>> (16 &&& 31)).toInt8.toInt32)) (((n + 4) + 4) + 2) ((v3 >>> (8 &&& 31)).toInt8.toInt32)) (((n + 4) + 4) + 3) ((v3 >>> (0 &&& 31)).toInt8.toInt32))))]) hP hD [0, 1] [] rfl rfl (by decide) (by decide) hk1 hFc hP1 hD1
  clear hP hD hk1 hFc hP1 hD1 hz1
  obtain ⟨hP, hD⟩ := hJ
  clear hK1 ht hvm
  generalize H1 = H at hP hS ⊢
  replace hP : va_P (dC, dI) vcl [(h0, .inr (0, [.int m_dpi, .ref m_tape, .ref m_page, .ref m_sheet, .ref m_fonts, .ref m_macros, .ref m_raster, .ref m_interpreter, .ref m_picture, .ref m_coder, .ref m_reader, .ref m_file, .ref m_shown, .int (nI (((n + 4) + 4) + 4)), .int m_fault, .int m_ended, .int m_overruns, .int m_pictures])), (m_tape, .inl (ct, 65536, .inl (upd (upd (upd (upd (upd (upd (upd (upd (upd (upd (upd (upd f n ((v1 >>> (24 &&& 31)).toInt8.toInt32)) (n + 1) ((v1 >>> (16 &&& 31)).toInt8.toInt32)) (n + 2) ((v1 >>> (8 &&& 31)).toInt8.toInt32)) (n + 3) ((v1 >>> (0 &&& 31)).toInt8.toInt32)) (n + 4) ((v2 >>> (24 &&& 31)).toInt8.toInt32)) ((n + 4) + 1) ((v2 >>> (16 &&& 31)).toInt8.toInt32)) ((n + 4) + 2) ((v2 >>> (8 &&& 31)).toInt8.toInt32)) ((n + 4) + 3) ((v2 >>> (0 &&& 31)).toInt8.toInt32)) ((n + 4) + 4) ((v3 >>> (24 &&& 31)).toInt8.toInt32)) (((n + 4) + 4) + 1) ((v3 >>> (16 &&& 31)).toInt8.toInt32)) (((n + 4) + 4) + 2) ((v3 >>> (8 &&& 31)).toInt8.toInt32)) (((n + 4) + 4) + 3) ((v3 >>> (0 &&& 31)).toInt8.toInt32))))] H := hP
  replace hD : va_D A [(h0, .inr (0, [.int m_dpi, .ref m_tape, .ref m_page, .ref m_sheet, .ref m_fonts, .ref m_macros, .ref m_raster, .ref m_interpreter, .ref m_picture, .ref m_coder, .ref m_reader, .ref m_file, .ref m_shown, .int (nI (((n + 4) + 4) + 4)), .int m_fault, .int m_ended, .int m_overruns, .int m_pictures])), (m_tape, .inl (ct, 65536, .inl (upd (upd (upd (upd (upd (upd (upd (upd (upd (upd (upd (upd f n ((v1 >>> (24 &&& 31)).toInt8.toInt32)) (n + 1) ((v1 >>> (16 &&& 31)).toInt8.toInt32)) (n + 2) ((v1 >>> (8 &&& 31)).toInt8.toInt32)) (n + 3) ((v1 >>> (0 &&& 31)).toInt8.toInt32)) (n + 4) ((v2 >>> (24 &&& 31)).toInt8.toInt32)) ((n + 4) + 1) ((v2 >>> (16 &&& 31)).toInt8.toInt32)) ((n + 4) + 2) ((v2 >>> (8 &&& 31)).toInt8.toInt32)) ((n + 4) + 3) ((v2 >>> (0 &&& 31)).toInt8.toInt32)) ((n + 4) + 4) ((v3 >>> (24 &&& 31)).toInt8.toInt32)) (((n + 4) + 4) + 1) ((v3 >>> (16 &&& 31)).toInt8.toInt32)) (((n + 4) + 4) + 2) ((v3 >>> (8 &&& 31)).toInt8.toInt32)) (((n + 4) + 4) + 3) ((v3 >>> (0 &&& 31)).toInt8.toInt32))))] := hD
  refine lv_aload_n hx hb d_Main_tape_32 rfl (lv_at hl 0 rfl) ?_
  refine lv_iload hx hb d_Main_tape_33 (lv_at hl 4 rfl) ?_
  have hPc := hP.sub (ws' := [(h0, .inr (0, [.int m_dpi, .ref m_tape, .ref m_page, .ref m_sheet, .ref m_fonts, .ref m_macros, .ref m_raster, .ref m_interpreter, .ref m_picture, .ref m_coder, .ref m_reader, .ref m_file, .ref m_shown, .int (nI (((n + 4) + 4) + 4)), .int m_fault, .int m_ended, .int m_overruns, .int m_pictures])), (m_tape, .inl (ct, 65536, .inl (upd (upd (upd (upd (upd (upd (upd (upd (upd (upd (upd (upd f n ((v1 >>> (24 &&& 31)).toInt8.toInt32)) (n + 1) ((v1 >>> (16 &&& 31)).toInt8.toInt32)) (n + 2) ((v1 >>> (8 &&& 31)).toInt8.toInt32)) (n + 3) ((v1 >>> (0 &&& 31)).toInt8.toInt32)) (n + 4) ((v2 >>> (24 &&& 31)).toInt8.toInt32)) ((n + 4) + 1) ((v2 >>> (16 &&& 31)).toInt8.toInt32)) ((n + 4) + 2) ((v2 >>> (8 &&& 31)).toInt8.toInt32)) ((n + 4) + 3) ((v2 >>> (0 &&& 31)).toInt8.toInt32)) ((n + 4) + 4) ((v3 >>> (24 &&& 31)).toInt8.toInt32)) (((n + 4) + 4) + 1) ((v3 >>> (16 &&& 31)).toInt8.toInt32)) (((n + 4) + 4) + 2) ((v3 >>> (8 &&& 31)).toInt8.toInt32)) (((n + 4) + 4) + 3) ((v3 >>> (0 &&& 31)).toInt8.toInt32))))]) [0, 1] rfl
  have hDc := hD.sub (ws' := [(h0, .inr (0, [.int m_dpi, .ref m_tape, .ref m_page, .ref m_sheet, .ref m_fonts, .ref m_macros, .ref m_raster, .ref m_interpreter, .ref m_picture, .ref m_coder, .ref m_reader, .ref m_file, .ref m_shown, .int (nI (((n + 4) + 4) + 4)), .int m_fault, .int m_ended, .int m_overruns, .int m_pictures])), (m_tape, .inl (ct, 65536, .inl (upd (upd (upd (upd (upd (upd (upd (upd (upd (upd (upd (upd f n ((v1 >>> (24 &&& 31)).toInt8.toInt32)) (n + 1) ((v1 >>> (16 &&& 31)).toInt8.toInt32)) (n + 2) ((v1 >>> (8 &&& 31)).toInt8.toInt32)) (n + 3) ((v1 >>> (0 &&& 31)).toInt8.toInt32)) (n + 4) ((v2 >>> (24 &&& 31)).toInt8.toInt32)) ((n + 4) + 1) ((v2 >>> (16 &&& 31)).toInt8.toInt32)) ((n + 4) + 2) ((v2 >>> (8 &&& 31)).toInt8.toInt32)) ((n + 4) + 3) ((v2 >>> (0 &&& 31)).toInt8.toInt32)) ((n + 4) + 4) ((v3 >>> (24 &&& 31)).toInt8.toInt32)) (((n + 4) + 4) + 1) ((v3 >>> (16 &&& 31)).toInt8.toInt32)) (((n + 4) + 4) + 2) ((v3 >>> (8 &&& 31)).toInt8.toInt32)) (((n + 4) + 4) + 3) ((v3 >>> (0 &&& 31)).toInt8.toInt32))))]) [0, 1] (by decide) rfl
  have hKc := hK.sub (tys' := [(ct, .byte)]) [0] rfl
  have hFc := va_free (wc := [(h0, .inr (0, [.int m_dpi, .ref m_tape, .ref m_page, .ref m_sheet, .ref m_fonts, .ref m_macros, .ref m_raster, .ref m_interpreter, .ref m_picture, .ref m_coder, .ref m_reader, .ref m_file, .ref m_shown, .int (nI (((n + 4) + 4) + 4)), .int m_fault, .int m_ended, .int m_overruns, .int m_pictures])), (m_tape, .inl (ct, 65536, .inl (upd (upd (upd (upd (upd (upd (upd (upd (upd (upd (upd (upd f n ((v1 >>> (24 &&& 31)).toInt8.toInt32)) (n + 1) ((v1 >>> (16 &&& 31)).toInt8.toInt32)) (n + 2) ((v1 >>> (8 &&& 31)).toInt8.toInt32)) (n + 3) ((v1 >>> (0 &&& 31)).toInt8.toInt32)) (n + 4) ((v2 >>> (24 &&& 31)).toInt8.toInt32)) ((n + 4) + 1) ((v2 >>> (16 &&& 31)).toInt8.toInt32)) ((n + 4) + 2) ((v2 >>> (8 &&& 31)).toInt8.toInt32)) ((n + 4) + 3) ((v2 >>> (0 &&& 31)).toInt8.toInt32)) ((n + 4) + 4) ((v3 >>> (24 &&& 31)).toInt8.toInt32)) (((n + 4) + 4) + 1) ((v3 >>> (16 &&& 31)).toInt8.toInt32)) (((n + 4) + 4) + 2) ((v3 >>> (8 &&& 31)).toInt8.toInt32)) (((n + 4) + 4) + 3) ((v3 >>> (0 &&& 31)).toInt8.toInt32))))]) hD hS hA [0, 1] rfl
  refine va_callv (va_runV (As := [.int v4]) (rest := []) ⟨hx, hb, hml, hown, hwd⟩ (c_tapeNumber l dC dI tt h0 m_dpi m_tape m_page m_sheet m_fonts m_macros m_raster m_interpreter m_picture m_coder m_reader m_file m_shown m_fault m_ended m_overruns m_pictures (((n + 4) + 4) + 4) ct (upd (upd (upd (upd (upd (upd (upd (upd (upd (upd (upd (upd f n ((v1 >>> (24 &&& 31)).toInt8.toInt32)) (n + 1) ((v1 >>> (16 &&& 31)).toInt8.toInt32)) (n + 2) ((v1 >>> (8 &&& 31)).toInt8.toInt32)) (n + 3) ((v1 >>> (0 &&& 31)).toInt8.toInt32)) (n + 4) ((v2 >>> (24 &&& 31)).toInt8.toInt32)) ((n + 4) + 1) ((v2 >>> (16 &&& 31)).toInt8.toInt32)) ((n + 4) + 2) ((v2 >>> (8 &&& 31)).toInt8.toInt32)) ((n + 4) + 3) ((v2 >>> (0 &&& 31)).toInt8.toInt32)) ((n + 4) + 4) ((v3 >>> (24 &&& 31)).toInt8.toInt32)) (((n + 4) + 4) + 1) ((v3 >>> (16 &&& 31)).toInt8.toInt32)) (((n + 4) + 4) + 2) ((v3 >>> (8 &&& 31)).toInt8.toInt32)) (((n + 4) + 4) + 3) ((v3 >>> (0 &&& 31)).toInt8.toInt32)) v4 H.size (by omega)) (cwV 1 hwd (gV gd_Main_tapeNumber wd_4_185 wd_4_187 ws_22 wd_1_1) rfl rfl rfl (by decide +kernel) ⟨Nat.le_of_ble_eq_true rfl, Nat.le_of_ble_eq_true rfl⟩) ⟨fun a U g mk q => by obtain ⟨q0, q1, qP, qK, qD, qF⟩ := q; exact ⟨q0, q1, qP, va_K.moved (u := U) (U := U.calling g mk a) (Vm.Alike.refl U.vm) qK, qD, SF.same (u := U) (U := U.calling g mk a) rfl qF⟩, va_recv hKc hPc (ci := 0) (q0 := 0) rfl rfl, fun U hU hW => ⟨rfl, by rw [hU], by rw [hU]; exact hPc, va_K.moved hW.alike hKc, hDc.weaken (fun _ _ _ _ => trivial), by rw [hU]; exact SF.narrow (SF.moved hW (SF.kept hF (fun a h1 h2 => hS.2.1 a h1 h2))) hFc⟩⟩ rfl rfl hl.1 rfl (lv_room (Nat.le_of_ble_eq_true rfl)) d_Main_tape_35 ⟨Nat.le_of_ble_eq_true rfl, Nat.le_of_ble_eq_true rfl⟩) hS (fun q _ h => hFc q h) hFc ?_
  clear hPc hDc hKc hS
  intro u_9 t H1 locs ht hvm hw hB hz1 hk1 hS
  obtain ⟨hP1, hK1, hD1⟩ := hB
  rw [ht] at hP1
  have hK1 := va_K.moved hvm.symm hK1
  try dsimp only at hw
  have hJ := va_join (wr := []) (w1 := [(h0, .inr (0, [.int m_dpi, .ref m_tape, .ref m_page, .ref m_sheet, .ref m_fonts, .ref m_macros, .ref m_raster, .ref m_interpreter, .ref m_picture, .ref m_coder, .ref m_reader, .ref m_file, .ref m_shown, .int (nI ((((n + 4) + 4) + 4) + 4)), .int m_fault, .int m_ended, .int m_overruns, .int m_pictures])), (m_tape, .inl (ct, 65536, .inl (upd (upd (upd (upd (upd (upd (upd (upd (upd (upd (upd (upd (upd (upd (upd (upd f n ((v1 >>> (24 &&& 31)).toInt8.toInt32)) (n + 1) ((v1 >>> (16 &&& 31)).toInt8.toInt32)) (n + 2) ((v1 >>> (8 &&& 31)).toInt8.toInt32)) (n + 3) ((v1 >>> (0 &&& 31)).toInt8.toInt32)) (n + 4) ((v2 >>> (24 &&& 31)).toInt8.toInt32)) ((n + 4) + 1) ((v2 >>> (16 &&& 31)).toInt8.toInt32)) ((n + 4) + 2) ((v2 >>> (8 &&& 31)).toInt8.toInt32)) ((n + 4) + 3) ((v2 >>> (0 &&& 31)).toInt8.toInt32)) ((n + 4) + 4) ((v3 >>> (24 &&& 31)).toInt8.toInt32)) (((n + 4) + 4) + 1) ((v3 >>> (16 &&& 31)).toInt8.toInt32)) (((n + 4) + 4) + 2) ((v3 >>> (8 &&& 31)).toInt8.toInt32)) (((n + 4) + 4) + 3) ((v3 >>> (0 &&& 31)).toInt8.toInt32)) (((n + 4) + 4) + 4) ((v4 >>> (24 &&& 31)).toInt8.toInt32)) ((((n + 4) + 4) + 4) + 1) ((v4 >>> (16 &&& 31)).toInt8.toInt32)) ((((n + 4) + 4) + 4) + 2) ((v4 >>> (8 &&& 31)).toInt8.toInt32)) ((((n + 4) + 4) + 4) + 3) ((v4 >>> (0 &&& 31)).toInt8.toInt32))))]) hP hD [0, 1] [] rfl rfl (by decide) (by decide) hk1 hFc hP1 hD1
  clear hP hD hk1 hFc hP1 hD1 hz1
  obtain ⟨hP, hD⟩ := hJ
  clear hK1 ht hvm
  generalize H1 = H at hP hS ⊢
  replace hP : va_P (dC, dI) vcl [(h0, .inr (0, [.int m_dpi, .ref m_tape, .ref m_page, .ref m_sheet, .ref m_fonts, .ref m_macros, .ref m_raster, .ref m_interpreter, .ref m_picture, .ref m_coder, .ref m_reader, .ref m_file, .ref m_shown, .int (nI ((((n + 4) + 4) + 4) + 4)), .int m_fault, .int m_ended, .int m_overruns, .int m_pictures])), (m_tape, .inl (ct, 65536, .inl (upd (upd (upd (upd (upd (upd (upd (upd (upd (upd (upd (upd (upd (upd (upd (upd f n ((v1 >>> (24 &&& 31)).toInt8.toInt32)) (n + 1) ((v1 >>> (16 &&& 31)).toInt8.toInt32)) (n + 2) ((v1 >>> (8 &&& 31)).toInt8.toInt32)) (n + 3) ((v1 >>> (0 &&& 31)).toInt8.toInt32)) (n + 4) ((v2 >>> (24 &&& 31)).toInt8.toInt32)) ((n + 4) + 1) ((v2 >>> (16 &&& 31)).toInt8.toInt32)) ((n + 4) + 2) ((v2 >>> (8 &&& 31)).toInt8.toInt32)) ((n + 4) + 3) ((v2 >>> (0 &&& 31)).toInt8.toInt32)) ((n + 4) + 4) ((v3 >>> (24 &&& 31)).toInt8.toInt32)) (((n + 4) + 4) + 1) ((v3 >>> (16 &&& 31)).toInt8.toInt32)) (((n + 4) + 4) + 2) ((v3 >>> (8 &&& 31)).toInt8.toInt32)) (((n + 4) + 4) + 3) ((v3 >>> (0 &&& 31)).toInt8.toInt32)) (((n + 4) + 4) + 4) ((v4 >>> (24 &&& 31)).toInt8.toInt32)) ((((n + 4) + 4) + 4) + 1) ((v4 >>> (16 &&& 31)).toInt8.toInt32)) ((((n + 4) + 4) + 4) + 2) ((v4 >>> (8 &&& 31)).toInt8.toInt32)) ((((n + 4) + 4) + 4) + 3) ((v4 >>> (0 &&& 31)).toInt8.toInt32))))] H := hP
  replace hD : va_D A [(h0, .inr (0, [.int m_dpi, .ref m_tape, .ref m_page, .ref m_sheet, .ref m_fonts, .ref m_macros, .ref m_raster, .ref m_interpreter, .ref m_picture, .ref m_coder, .ref m_reader, .ref m_file, .ref m_shown, .int (nI ((((n + 4) + 4) + 4) + 4)), .int m_fault, .int m_ended, .int m_overruns, .int m_pictures])), (m_tape, .inl (ct, 65536, .inl (upd (upd (upd (upd (upd (upd (upd (upd (upd (upd (upd (upd (upd (upd (upd (upd f n ((v1 >>> (24 &&& 31)).toInt8.toInt32)) (n + 1) ((v1 >>> (16 &&& 31)).toInt8.toInt32)) (n + 2) ((v1 >>> (8 &&& 31)).toInt8.toInt32)) (n + 3) ((v1 >>> (0 &&& 31)).toInt8.toInt32)) (n + 4) ((v2 >>> (24 &&& 31)).toInt8.toInt32)) ((n + 4) + 1) ((v2 >>> (16 &&& 31)).toInt8.toInt32)) ((n + 4) + 2) ((v2 >>> (8 &&& 31)).toInt8.toInt32)) ((n + 4) + 3) ((v2 >>> (0 &&& 31)).toInt8.toInt32)) ((n + 4) + 4) ((v3 >>> (24 &&& 31)).toInt8.toInt32)) (((n + 4) + 4) + 1) ((v3 >>> (16 &&& 31)).toInt8.toInt32)) (((n + 4) + 4) + 2) ((v3 >>> (8 &&& 31)).toInt8.toInt32)) (((n + 4) + 4) + 3) ((v3 >>> (0 &&& 31)).toInt8.toInt32)) (((n + 4) + 4) + 4) ((v4 >>> (24 &&& 31)).toInt8.toInt32)) ((((n + 4) + 4) + 4) + 1) ((v4 >>> (16 &&& 31)).toInt8.toInt32)) ((((n + 4) + 4) + 4) + 2) ((v4 >>> (8 &&& 31)).toInt8.toInt32)) ((((n + 4) + 4) + 4) + 3) ((v4 >>> (0 &&& 31)).toInt8.toInt32))))] := hD
  refine lv_aload_n hx hb d_Main_tape_38 rfl (lv_at hl 0 rfl) ?_
  refine lv_iload hx hb d_Main_tape_39 (lv_at hl 5 rfl) ?_
  have hPc := hP.sub (ws' := [(h0, .inr (0, [.int m_dpi, .ref m_tape, .ref m_page, .ref m_sheet, .ref m_fonts, .ref m_macros, .ref m_raster, .ref m_interpreter, .ref m_picture, .ref m_coder, .ref m_reader, .ref m_file, .ref m_shown, .int (nI ((((n + 4) + 4) + 4) + 4)), .int m_fault, .int m_ended, .int m_overruns, .int m_pictures])), (m_tape, .inl (ct, 65536, .inl (upd (upd (upd (upd (upd (upd (upd (upd (upd (upd (upd (upd (upd (upd (upd (upd f n ((v1 >>> (24 &&& 31)).toInt8.toInt32)) (n + 1) ((v1 >>> (16 &&& 31)).toInt8.toInt32)) (n + 2) ((v1 >>> (8 &&& 31)).toInt8.toInt32)) (n + 3) ((v1 >>> (0 &&& 31)).toInt8.toInt32)) (n + 4) ((v2 >>> (24 &&& 31)).toInt8.toInt32)) ((n + 4) + 1) ((v2 >>> (16 &&& 31)).toInt8.toInt32)) ((n + 4) + 2) ((v2 >>> (8 &&& 31)).toInt8.toInt32)) ((n + 4) + 3) ((v2 >>> (0 &&& 31)).toInt8.toInt32)) ((n + 4) + 4) ((v3 >>> (24 &&& 31)).toInt8.toInt32)) (((n + 4) + 4) + 1) ((v3 >>> (16 &&& 31)).toInt8.toInt32)) (((n + 4) + 4) + 2) ((v3 >>> (8 &&& 31)).toInt8.toInt32)) (((n + 4) + 4) + 3) ((v3 >>> (0 &&& 31)).toInt8.toInt32)) (((n + 4) + 4) + 4) ((v4 >>> (24 &&& 31)).toInt8.toInt32)) ((((n + 4) + 4) + 4) + 1) ((v4 >>> (16 &&& 31)).toInt8.toInt32)) ((((n + 4) + 4) + 4) + 2) ((v4 >>> (8 &&& 31)).toInt8.toInt32)) ((((n + 4) + 4) + 4) + 3) ((v4 >>> (0 &&& 31)).toInt8.toInt32))))]) [0, 1] rfl
  have hDc := hD.sub (ws' := [(h0, .inr (0, [.int m_dpi, .ref m_tape, .ref m_page, .ref m_sheet, .ref m_fonts, .ref m_macros, .ref m_raster, .ref m_interpreter, .ref m_picture, .ref m_coder, .ref m_reader, .ref m_file, .ref m_shown, .int (nI ((((n + 4) + 4) + 4) + 4)), .int m_fault, .int m_ended, .int m_overruns, .int m_pictures])), (m_tape, .inl (ct, 65536, .inl (upd (upd (upd (upd (upd (upd (upd (upd (upd (upd (upd (upd (upd (upd (upd (upd f n ((v1 >>> (24 &&& 31)).toInt8.toInt32)) (n + 1) ((v1 >>> (16 &&& 31)).toInt8.toInt32)) (n + 2) ((v1 >>> (8 &&& 31)).toInt8.toInt32)) (n + 3) ((v1 >>> (0 &&& 31)).toInt8.toInt32)) (n + 4) ((v2 >>> (24 &&& 31)).toInt8.toInt32)) ((n + 4) + 1) ((v2 >>> (16 &&& 31)).toInt8.toInt32)) ((n + 4) + 2) ((v2 >>> (8 &&& 31)).toInt8.toInt32)) ((n + 4) + 3) ((v2 >>> (0 &&& 31)).toInt8.toInt32)) ((n + 4) + 4) ((v3 >>> (24 &&& 31)).toInt8.toInt32)) (((n + 4) + 4) + 1) ((v3 >>> (16 &&& 31)).toInt8.toInt32)) (((n + 4) + 4) + 2) ((v3 >>> (8 &&& 31)).toInt8.toInt32)) (((n + 4) + 4) + 3) ((v3 >>> (0 &&& 31)).toInt8.toInt32)) (((n + 4) + 4) + 4) ((v4 >>> (24 &&& 31)).toInt8.toInt32)) ((((n + 4) + 4) + 4) + 1) ((v4 >>> (16 &&& 31)).toInt8.toInt32)) ((((n + 4) + 4) + 4) + 2) ((v4 >>> (8 &&& 31)).toInt8.toInt32)) ((((n + 4) + 4) + 4) + 3) ((v4 >>> (0 &&& 31)).toInt8.toInt32))))]) [0, 1] (by decide) rfl
  have hKc := hK.sub (tys' := [(ct, .byte)]) [0] rfl
  have hFc := va_free (wc := [(h0, .inr (0, [.int m_dpi, .ref m_tape, .ref m_page, .ref m_sheet, .ref m_fonts, .ref m_macros, .ref m_raster, .ref m_interpreter, .ref m_picture, .ref m_coder, .ref m_reader, .ref m_file, .ref m_shown, .int (nI ((((n + 4) + 4) + 4) + 4)), .int m_fault, .int m_ended, .int m_overruns, .int m_pictures])), (m_tape, .inl (ct, 65536, .inl (upd (upd (upd (upd (upd (upd (upd (upd (upd (upd (upd (upd (upd (upd (upd (upd f n ((v1 >>> (24 &&& 31)).toInt8.toInt32)) (n + 1) ((v1 >>> (16 &&& 31)).toInt8.toInt32)) (n + 2) ((v1 >>> (8 &&& 31)).toInt8.toInt32)) (n + 3) ((v1 >>> (0 &&& 31)).toInt8.toInt32)) (n + 4) ((v2 >>> (24 &&& 31)).toInt8.toInt32)) ((n + 4) + 1) ((v2 >>> (16 &&& 31)).toInt8.toInt32)) ((n + 4) + 2) ((v2 >>> (8 &&& 31)).toInt8.toInt32)) ((n + 4) + 3) ((v2 >>> (0 &&& 31)).toInt8.toInt32)) ((n + 4) + 4) ((v3 >>> (24 &&& 31)).toInt8.toInt32)) (((n + 4) + 4) + 1) ((v3 >>> (16 &&& 31)).toInt8.toInt32)) (((n + 4) + 4) + 2) ((v3 >>> (8 &&& 31)).toInt8.toInt32)) (((n + 4) + 4) + 3) ((v3 >>> (0 &&& 31)).toInt8.toInt32)) (((n + 4) + 4) + 4) ((v4 >>> (24 &&& 31)).toInt8.toInt32)) ((((n + 4) + 4) + 4) + 1) ((v4 >>> (16 &&& 31)).toInt8.toInt32)) ((((n + 4) + 4) + 4) + 2) ((v4 >>> (8 &&& 31)).toInt8.toInt32)) ((((n + 4) + 4) + 4) + 3) ((v4 >>> (0 &&& 31)).toInt8.toInt32))))]) hD hS hA [0, 1] rfl
  refine va_callv (va_runV (As := [.int v5]) (rest := []) ⟨hx, hb, hml, hown, hwd⟩ (c_tapeNumber l dC dI tt h0 m_dpi m_tape m_page m_sheet m_fonts m_macros m_raster m_interpreter m_picture m_coder m_reader m_file m_shown m_fault m_ended m_overruns m_pictures ((((n + 4) + 4) + 4) + 4) ct (upd (upd (upd (upd (upd (upd (upd (upd (upd (upd (upd (upd (upd (upd (upd (upd f n ((v1 >>> (24 &&& 31)).toInt8.toInt32)) (n + 1) ((v1 >>> (16 &&& 31)).toInt8.toInt32)) (n + 2) ((v1 >>> (8 &&& 31)).toInt8.toInt32)) (n + 3) ((v1 >>> (0 &&& 31)).toInt8.toInt32)) (n + 4) ((v2 >>> (24 &&& 31)).toInt8.toInt32)) ((n + 4) + 1) ((v2 >>> (16 &&& 31)).toInt8.toInt32)) ((n + 4) + 2) ((v2 >>> (8 &&& 31)).toInt8.toInt32)) ((n + 4) + 3) ((v2 >>> (0 &&& 31)).toInt8.toInt32)) ((n + 4) + 4) ((v3 >>> (24 &&& 31)).toInt8.toInt32)) (((n + 4) + 4) + 1) ((v3 >>> (16 &&& 31)).toInt8.toInt32)) (((n + 4) + 4) + 2) ((v3 >>> (8 &&& 31)).toInt8.toInt32)) (((n + 4) + 4) + 3) ((v3 >>> (0 &&& 31)).toInt8.toInt32)) (((n + 4) + 4) + 4) ((v4 >>> (24 &&& 31)).toInt8.toInt32)) ((((n + 4) + 4) + 4) + 1) ((v4 >>> (16 &&& 31)).toInt8.toInt32)) ((((n + 4) + 4) + 4) + 2) ((v4 >>> (8 &&& 31)).toInt8.toInt32)) ((((n + 4) + 4) + 4) + 3) ((v4 >>> (0 &&& 31)).toInt8.toInt32)) v5 H.size (by omega)) (cwV 1 hwd (gV gd_Main_tapeNumber wd_4_185 wd_4_187 ws_22 wd_1_1) rfl rfl rfl (by decide +kernel) ⟨Nat.le_of_ble_eq_true rfl, Nat.le_of_ble_eq_true rfl⟩) ⟨fun a U g mk q => by obtain ⟨q0, q1, qP, qK, qD, qF⟩ := q; exact ⟨q0, q1, qP, va_K.moved (u := U) (U := U.calling g mk a) (Vm.Alike.refl U.vm) qK, qD, SF.same (u := U) (U := U.calling g mk a) rfl qF⟩, va_recv hKc hPc (ci := 0) (q0 := 0) rfl rfl, fun U hU hW => ⟨rfl, by rw [hU], by rw [hU]; exact hPc, va_K.moved hW.alike hKc, hDc.weaken (fun _ _ _ _ => trivial), by rw [hU]; exact SF.narrow (SF.moved hW (SF.kept hF (fun a h1 h2 => hS.2.1 a h1 h2))) hFc⟩⟩ rfl rfl hl.1 rfl (lv_room (Nat.le_of_ble_eq_true rfl)) d_Main_tape_41 ⟨Nat.le_of_ble_eq_true rfl, Nat.le_of_ble_eq_true rfl⟩) hS (fun q _ h => hFc q h) hFc ?_
  clear hPc hDc hKc hS
  intro u_11 t H1 locs ht hvm hw hB hz1 hk1 hS
  obtain ⟨hP1, hK1, hD1⟩ := hB
  rw [ht] at hP1
  have hK1 := va_K.moved hvm.symm hK1
  try dsimp only at hw
  have hJ := va_join (wr := []) (w1 := [(h0, .inr (0, [.int m_dpi, .ref m_tape, .ref m_page, .ref m_sheet, .ref m_fonts, .ref m_macros, .ref m_raster, .ref m_interpreter, .ref m_picture, .ref m_coder, .ref m_reader, .ref m_file, .ref m_shown, .int (nI (((((n + 4) + 4) + 4) + 4) + 4)), .int m_fault, .int m_ended, .int m_overruns, .int m_pictures])), (m_tape, .inl (ct, 65536, .inl (upd (upd (upd (upd (upd (upd (upd (upd (upd (upd (upd (upd (upd (upd (upd (upd (upd (upd (upd (upd f n ((v1 >>> (24 &&& 31)).toInt8.toInt32)) (n + 1) ((v1 >>> (16 &&& 31)).toInt8.toInt32)) (n + 2) ((v1 >>> (8 &&& 31)).toInt8.toInt32)) (n + 3) ((v1 >>> (0 &&& 31)).toInt8.toInt32)) (n + 4) ((v2 >>> (24 &&& 31)).toInt8.toInt32)) ((n + 4) + 1) ((v2 >>> (16 &&& 31)).toInt8.toInt32)) ((n + 4) + 2) ((v2 >>> (8 &&& 31)).toInt8.toInt32)) ((n + 4) + 3) ((v2 >>> (0 &&& 31)).toInt8.toInt32)) ((n + 4) + 4) ((v3 >>> (24 &&& 31)).toInt8.toInt32)) (((n + 4) + 4) + 1) ((v3 >>> (16 &&& 31)).toInt8.toInt32)) (((n + 4) + 4) + 2) ((v3 >>> (8 &&& 31)).toInt8.toInt32)) (((n + 4) + 4) + 3) ((v3 >>> (0 &&& 31)).toInt8.toInt32)) (((n + 4) + 4) + 4) ((v4 >>> (24 &&& 31)).toInt8.toInt32)) ((((n + 4) + 4) + 4) + 1) ((v4 >>> (16 &&& 31)).toInt8.toInt32)) ((((n + 4) + 4) + 4) + 2) ((v4 >>> (8 &&& 31)).toInt8.toInt32)) ((((n + 4) + 4) + 4) + 3) ((v4 >>> (0 &&& 31)).toInt8.toInt32)) ((((n + 4) + 4) + 4) + 4) ((v5 >>> (24 &&& 31)).toInt8.toInt32)) (((((n + 4) + 4) + 4) + 4) + 1) ((v5 >>> (16 &&& 31)).toInt8.toInt32)) (((((n + 4) + 4) + 4) + 4) + 2) ((v5 >>> (8 &&& 31)).toInt8.toInt32)) (((((n + 4) + 4) + 4) + 4) + 3) ((v5 >>> (0 &&& 31)).toInt8.toInt32))))]) hP hD [0, 1] [] rfl rfl (by decide) (by decide) hk1 hFc hP1 hD1
  clear hP hD hk1 hFc hP1 hD1 hz1
  obtain ⟨hP, hD⟩ := hJ
  clear hK1 ht hvm
  generalize H1 = H at hP hS ⊢
  replace hP : va_P (dC, dI) vcl [(h0, .inr (0, [.int m_dpi, .ref m_tape, .ref m_page, .ref m_sheet, .ref m_fonts, .ref m_macros, .ref m_raster, .ref m_interpreter, .ref m_picture, .ref m_coder, .ref m_reader, .ref m_file, .ref m_shown, .int (nI (((((n + 4) + 4) + 4) + 4) + 4)), .int m_fault, .int m_ended, .int m_overruns, .int m_pictures])), (m_tape, .inl (ct, 65536, .inl (upd (upd (upd (upd (upd (upd (upd (upd (upd (upd (upd (upd (upd (upd (upd (upd (upd (upd (upd (upd f n ((v1 >>> (24 &&& 31)).toInt8.toInt32)) (n + 1) ((v1 >>> (16 &&& 31)).toInt8.toInt32)) (n + 2) ((v1 >>> (8 &&& 31)).toInt8.toInt32)) (n + 3) ((v1 >>> (0 &&& 31)).toInt8.toInt32)) (n + 4) ((v2 >>> (24 &&& 31)).toInt8.toInt32)) ((n + 4) + 1) ((v2 >>> (16 &&& 31)).toInt8.toInt32)) ((n + 4) + 2) ((v2 >>> (8 &&& 31)).toInt8.toInt32)) ((n + 4) + 3) ((v2 >>> (0 &&& 31)).toInt8.toInt32)) ((n + 4) + 4) ((v3 >>> (24 &&& 31)).toInt8.toInt32)) (((n + 4) + 4) + 1) ((v3 >>> (16 &&& 31)).toInt8.toInt32)) (((n + 4) + 4) + 2) ((v3 >>> (8 &&& 31)).toInt8.toInt32)) (((n + 4) + 4) + 3) ((v3 >>> (0 &&& 31)).toInt8.toInt32)) (((n + 4) + 4) + 4) ((v4 >>> (24 &&& 31)).toInt8.toInt32)) ((((n + 4) + 4) + 4) + 1) ((v4 >>> (16 &&& 31)).toInt8.toInt32)) ((((n + 4) + 4) + 4) + 2) ((v4 >>> (8 &&& 31)).toInt8.toInt32)) ((((n + 4) + 4) + 4) + 3) ((v4 >>> (0 &&& 31)).toInt8.toInt32)) ((((n + 4) + 4) + 4) + 4) ((v5 >>> (24 &&& 31)).toInt8.toInt32)) (((((n + 4) + 4) + 4) + 4) + 1) ((v5 >>> (16 &&& 31)).toInt8.toInt32)) (((((n + 4) + 4) + 4) + 4) + 2) ((v5 >>> (8 &&& 31)).toInt8.toInt32)) (((((n + 4) + 4) + 4) + 4) + 3) ((v5 >>> (0 &&& 31)).toInt8.toInt32))))] H := hP
  replace hD : va_D A [(h0, .inr (0, [.int m_dpi, .ref m_tape, .ref m_page, .ref m_sheet, .ref m_fonts, .ref m_macros, .ref m_raster, .ref m_interpreter, .ref m_picture, .ref m_coder, .ref m_reader, .ref m_file, .ref m_shown, .int (nI (((((n + 4) + 4) + 4) + 4) + 4)), .int m_fault, .int m_ended, .int m_overruns, .int m_pictures])), (m_tape, .inl (ct, 65536, .inl (upd (upd (upd (upd (upd (upd (upd (upd (upd (upd (upd (upd (upd (upd (upd (upd (upd (upd (upd (upd f n ((v1 >>> (24 &&& 31)).toInt8.toInt32)) (n + 1) ((v1 >>> (16 &&& 31)).toInt8.toInt32)) (n + 2) ((v1 >>> (8 &&& 31)).toInt8.toInt32)) (n + 3) ((v1 >>> (0 &&& 31)).toInt8.toInt32)) (n + 4) ((v2 >>> (24 &&& 31)).toInt8.toInt32)) ((n + 4) + 1) ((v2 >>> (16 &&& 31)).toInt8.toInt32)) ((n + 4) + 2) ((v2 >>> (8 &&& 31)).toInt8.toInt32)) ((n + 4) + 3) ((v2 >>> (0 &&& 31)).toInt8.toInt32)) ((n + 4) + 4) ((v3 >>> (24 &&& 31)).toInt8.toInt32)) (((n + 4) + 4) + 1) ((v3 >>> (16 &&& 31)).toInt8.toInt32)) (((n + 4) + 4) + 2) ((v3 >>> (8 &&& 31)).toInt8.toInt32)) (((n + 4) + 4) + 3) ((v3 >>> (0 &&& 31)).toInt8.toInt32)) (((n + 4) + 4) + 4) ((v4 >>> (24 &&& 31)).toInt8.toInt32)) ((((n + 4) + 4) + 4) + 1) ((v4 >>> (16 &&& 31)).toInt8.toInt32)) ((((n + 4) + 4) + 4) + 2) ((v4 >>> (8 &&& 31)).toInt8.toInt32)) ((((n + 4) + 4) + 4) + 3) ((v4 >>> (0 &&& 31)).toInt8.toInt32)) ((((n + 4) + 4) + 4) + 4) ((v5 >>> (24 &&& 31)).toInt8.toInt32)) (((((n + 4) + 4) + 4) + 4) + 1) ((v5 >>> (16 &&& 31)).toInt8.toInt32)) (((((n + 4) + 4) + 4) + 4) + 2) ((v5 >>> (8 &&& 31)).toInt8.toInt32)) (((((n + 4) + 4) + 4) + 4) + 3) ((v5 >>> (0 &&& 31)).toInt8.toInt32))))] := hD
  refine lv_iconst (v := 1) hx hb d_Main_tape_44 (by decide) ?_
  have hP9 := hP.sub (ws' := [(h0, .inr (0, [.int m_dpi, .ref m_tape, .ref m_page, .ref m_sheet, .ref m_fonts, .ref m_macros, .ref m_raster, .ref m_interpreter, .ref m_picture, .ref m_coder, .ref m_reader, .ref m_file, .ref m_shown, .int (nI (((((n + 4) + 4) + 4) + 4) + 4)), .int m_fault, .int m_ended, .int m_overruns, .int m_pictures])), (m_tape, .inl (ct, 65536, .inl (upd (upd (upd (upd (upd (upd (upd (upd (upd (upd (upd (upd (upd (upd (upd (upd (upd (upd (upd (upd f n ((v1 >>> (24 &&& 31)).toInt8.toInt32)) (n + 1) ((v1 >>> (16 &&& 31)).toInt8.toInt32)) (n + 2) ((v1 >>> (8 &&& 31)).toInt8.toInt32)) (n + 3) ((v1 >>> (0 &&& 31)).toInt8.toInt32)) (n + 4) ((v2 >>> (24 &&& 31)).toInt8.toInt32)) ((n + 4) + 1) ((v2 >>> (16 &&& 31)).toInt8.toInt32)) ((n + 4) + 2) ((v2 >>> (8 &&& 31)).toInt8.toInt32)) ((n + 4) + 3) ((v2 >>> (0 &&& 31)).toInt8.toInt32)) ((n + 4) + 4) ((v3 >>> (24 &&& 31)).toInt8.toInt32)) (((n + 4) + 4) + 1) ((v3 >>> (16 &&& 31)).toInt8.toInt32)) (((n + 4) + 4) + 2) ((v3 >>> (8 &&& 31)).toInt8.toInt32)) (((n + 4) + 4) + 3) ((v3 >>> (0 &&& 31)).toInt8.toInt32)) (((n + 4) + 4) + 4) ((v4 >>> (24 &&& 31)).toInt8.toInt32)) ((((n + 4) + 4) + 4) + 1) ((v4 >>> (16 &&& 31)).toInt8.toInt32)) ((((n + 4) + 4) + 4) + 2) ((v4 >>> (8 &&& 31)).toInt8.toInt32)) ((((n + 4) + 4) + 4) + 3) ((v4 >>> (0 &&& 31)).toInt8.toInt32)) ((((n + 4) + 4) + 4) + 4) ((v5 >>> (24 &&& 31)).toInt8.toInt32)) (((((n + 4) + 4) + 4) + 4) + 1) ((v5 >>> (16 &&& 31)).toInt8.toInt32)) (((((n + 4) + 4) + 4) + 4) + 2) ((v5 >>> (8 &&& 31)).toInt8.toInt32)) (((((n + 4) + 4) + 4) + 4) + 3) ((v5 >>> (0 &&& 31)).toInt8.toInt32))))]) [0, 1] rfl
  have hD9 := hD.sub (ws' := [(h0, .inr (0, [.int m_dpi, .ref m_tape, .ref m_page, .ref m_sheet, .ref m_fonts, .ref m_macros, .ref m_raster, .ref m_interpreter, .ref m_picture, .ref m_coder, .ref m_reader, .ref m_file, .ref m_shown, .int (nI (((((n + 4) + 4) + 4) + 4) + 4)), .int m_fault, .int m_ended, .int m_overruns, .int m_pictures])), (m_tape, .inl (ct, 65536, .inl (upd (upd (upd (upd (upd (upd (upd (upd (upd (upd (upd (upd (upd (upd (upd (upd (upd (upd (upd (upd f n ((v1 >>> (24 &&& 31)).toInt8.toInt32)) (n + 1) ((v1 >>> (16 &&& 31)).toInt8.toInt32)) (n + 2) ((v1 >>> (8 &&& 31)).toInt8.toInt32)) (n + 3) ((v1 >>> (0 &&& 31)).toInt8.toInt32)) (n + 4) ((v2 >>> (24 &&& 31)).toInt8.toInt32)) ((n + 4) + 1) ((v2 >>> (16 &&& 31)).toInt8.toInt32)) ((n + 4) + 2) ((v2 >>> (8 &&& 31)).toInt8.toInt32)) ((n + 4) + 3) ((v2 >>> (0 &&& 31)).toInt8.toInt32)) ((n + 4) + 4) ((v3 >>> (24 &&& 31)).toInt8.toInt32)) (((n + 4) + 4) + 1) ((v3 >>> (16 &&& 31)).toInt8.toInt32)) (((n + 4) + 4) + 2) ((v3 >>> (8 &&& 31)).toInt8.toInt32)) (((n + 4) + 4) + 3) ((v3 >>> (0 &&& 31)).toInt8.toInt32)) (((n + 4) + 4) + 4) ((v4 >>> (24 &&& 31)).toInt8.toInt32)) ((((n + 4) + 4) + 4) + 1) ((v4 >>> (16 &&& 31)).toInt8.toInt32)) ((((n + 4) + 4) + 4) + 2) ((v4 >>> (8 &&& 31)).toInt8.toInt32)) ((((n + 4) + 4) + 4) + 3) ((v4 >>> (0 &&& 31)).toInt8.toInt32)) ((((n + 4) + 4) + 4) + 4) ((v5 >>> (24 &&& 31)).toInt8.toInt32)) (((((n + 4) + 4) + 4) + 4) + 1) ((v5 >>> (16 &&& 31)).toInt8.toInt32)) (((((n + 4) + 4) + 4) + 4) + 2) ((v5 >>> (8 &&& 31)).toInt8.toInt32)) (((((n + 4) + 4) + 4) + 4) + 3) ((v5 >>> (0 &&& 31)).toInt8.toInt32))))]) [0, 1] (by decide) rfl
  have hK9 := hK.sub (tys' := [(ct, .byte)]) [0] rfl
  exact W.zret (v := 1) hx hb hr (by decide) (fun t ht hW => ⟨⟨1, (), rfl, (show (1 : Int32) = 1 from (by first | exact trivial | rfl | simp [*])), by rw [ht]; exact hP9, va_K.moved hW.alike hK9, hD9⟩, hS.F ht⟩) hS.2.2 d_Main_tape_45

abbrev at_c_byteAt_0 (dC : Nat → ClassId) (dI : Nat → Nat → Nat) (h0 : Nat) (b : Nat) (tb : Nat) (pg : Int32) (lk : Int32) (place : Int64) (A : Nat → Prop) (u : Unit) (t : State) : Prop := match u with
  | _ => va_P (dC, dI) vcl [(h0, .inr (7, [.ref b, .ref tb, .int 0, .int pg, .int lk]))] t.heap ∧ va_K (dC, dI) vcl [] t ∧ va_D A [(h0, .inr (7, [.ref b, .ref tb, .int 0, .int pg, .int lk]))]
abbrev po_c_byteAt_0 (h0 : Nat) (b : Nat) (tb : Nat) (pg : Int32) (lk : Int32) (place : Int64) (r : Int64) (u : Unit) : Prop := match u with
  | _ => r = 0
abbrev q_c_byteAt_0 (dC : Nat → ClassId) (dI : Nat → Nat → Nat) (h0 : Nat) (b : Nat) (tb : Nat) (pg : Int32) (lk : Int32) (place : Int64) (A : Nat → Prop) : Array Value → State → Outcome → State → Prop := va_Ql (po_c_byteAt_0 h0 b tb pg lk place) (at_c_byteAt_0 dC dI h0 b tb pg lk place A) A
abbrev rm_c_byteAt_0 : Room := { frames := 0, cells := 0, slots := 0, locals := 0 }
set_option maxHeartbeats 4000000 in
set_option maxRecDepth 100000 in
theorem c_byteAt_0 (l : Launch) (dC : Nat → ClassId) (dI : Nat → Nat → Nat) (tt : Nat → Nat) (h0 : Nat) (b : Nat) (tb : Nat) (pg : Int32) (lk : Int32) (place : Int64) (sz : Nat)  : Met l y_OutFile_byteAt w_OutFile_byteAt rm_c_byteAt_0 (va_Pc [.ref h0, .long place] (fun U => U.heap.size = sz ∧ va_P (dC, dI) vcl [(h0, .inr (7, [.ref b, .ref tb, .int 0, .int pg, .int lk]))] U.heap ∧ va_K (dC, dI) vcl [] U ∧ va_D (fun _ => True) [(h0, .inr (7, [.ref b, .ref tb, .int 0, .int pg, .int lk]))] ∧ SF tt (va_A [(h0, .inr (7, [.ref b, .ref tb, .int 0, .int pg, .int lk]))] sz) U U.heap)) (q_c_byteAt_0 dC dI h0 b tb pg lk place (va_A [(h0, .inr (7, [.ref b, .ref tb, .int 0, .int pg, .int lk]))] sz)) 0 0 (va_A [(h0, .inr (7, [.ref b, .ref tb, .int 0, .int pg, .int lk]))] sz) := by
  refine Met.ofW (cc := b_OutFile_byteAt) (maxL := 3) (ret := (some .long)) (by decide) rfl ?_
  intro p e s m args below meth c s₁ B hml hv
  obtain ⟨rfl, hsz, hP, hK, hD0, hF⟩ := hv
  have hx := B.exec
  have hb := B.bytes
  have hr := B.returns
  have hwd : ∀ w ∈ gT, w.before _ s = true := fun w h => atoms_spec (ws := w_OutFile_byteAt) B.pre w (List.mem_cons_of_mem _ h)
  have hown : s.vm.findClass R_OutFile = some m.cls := findClass_of_methodNamed B.named
  have hlocks := B.notSynchronized
  subst hsz
  have hD := hD0.self (sz := s.heap.size)
  generalize hAe : va_A [(h0, .inr (7, [.ref b, .ref tb, .int 0, .int pg, .int lk]))] s.heap.size = A at hD hF ⊢
  have hA : ∀ q : Nat, s.heap.size ≤ q → A q := fun q h => by rw [← hAe]; exact Or.inr h
  have hS : va_S A s.heap s.heap [] := va_S.rf
  have hP : va_P (dC, dI) vcl [(h0, .inr (7, [.ref b, .ref tb, .int 0, .int pg, .int lk]))] s.heap := hP
  have hl := lv_entry ([.ref h0, .long place]) (n := 3) (Nat.le_of_ble_eq_true rfl)
  rw [lg_entry_eq]
  generalize (lg_sl ([.ref h0, .long place]) ++ List.replicate (3 - (lg_sl ([.ref h0, .long place])).length) Slot.unset).toArray = ls at hl ⊢
  have hl : lv_has ls 3 [(0, .ref h0), (1, .long place)] := hl
  refine lv_lload_n hx hb d_OutFile_byteAt_0 rfl (lv_at hl 1 rfl) ?_
  refine lv_lconst (v := 0) hx hb d_OutFile_byteAt_1 (by decide) ?_
  refine W.lcmp hx hb d_OutFile_byteAt_2 ?_
  refine lv_if_lt (tgt := 42) hx hb d_OutFile_byteAt_3 (by decide) (fun c3 => ?_) (fun c3 => ?_)
  · refine lv_lconst (v := 0) hx hb d_OutFile_byteAt_42 (by decide) ?_
    have hP9 := hP.sub (ws' := [(h0, .inr (7, [.ref b, .ref tb, .int 0, .int pg, .int lk]))]) [0] rfl
    have hD9 := hD.sub (ws' := [(h0, .inr (7, [.ref b, .ref tb, .int 0, .int pg, .int lk]))]) [0] (by decide) rfl
    have hK9 := hK.sub (tys' := []) [] rfl
    exact W.lret (v := 0) hx hb hr (fun t ht hW => ⟨⟨0, (), rfl, (show (0 : Int64) = 0 from (by first | exact trivial | rfl | simp [*])), by rw [ht]; exact hP9, va_K.moved hW.alike hK9, hD9⟩, hS.F ht⟩) hS.2.2 d_OutFile_byteAt_43
  · refine lv_lload_n hx hb d_OutFile_byteAt_6 rfl (lv_at hl 1 rfl) ?_
    refine lv_aload_n hx hb d_OutFile_byteAt_7 rfl (lv_at hl 0 rfl) ?_
    refine va_get (D := (dC, dI)) (ci := 7) (v := .int 0) (C := R_OutFile) (T := F_OutFile) (N := 5) hx hb hwd i_OutFile hown hK hP 0 rfl rfl 2 (by decide) (hwd _ wd_3_217) (fun _ h9 => h9) rfl d_OutFile_byteAt_8 ?_
    refine lv_i2l (v := 0) hx hb d_OutFile_byteAt_11 (by decide) ?_
    refine W.lcmp hx hb d_OutFile_byteAt_12 ?_
    refine lv_if_ge (tgt := 42) hx hb d_OutFile_byteAt_13 (by decide) (fun c13 => ?_) (fun c13 => absurd (Int32.not_lt.mp c3) c13)
    refine lv_lconst (v := 0) hx hb d_OutFile_byteAt_42 (by decide) ?_
    have hP9 := hP.sub (ws' := [(h0, .inr (7, [.ref b, .ref tb, .int 0, .int pg, .int lk]))]) [0] rfl
    have hD9 := hD.sub (ws' := [(h0, .inr (7, [.ref b, .ref tb, .int 0, .int pg, .int lk]))]) [0] (by decide) rfl
    have hK9 := hK.sub (tys' := []) [] rfl
    exact W.lret (v := 0) hx hb hr (fun t ht hW => ⟨⟨0, (), rfl, (show (0 : Int64) = 0 from (by first | exact trivial | rfl | simp [*])), by rw [ht]; exact hP9, va_K.moved hW.alike hK9, hD9⟩, hS.F ht⟩) hS.2.2 d_OutFile_byteAt_43

abbrev at_c_bytesAt_0 (dC : Nat → ClassId) (dI : Nat → Nat → Nat) (h0 : Nat) (m_dpi : Int32) (m_tape : Nat) (m_page : Nat) (m_sheet : Nat) (m_fonts : Nat) (m_macros : Nat) (m_raster : Nat) (m_interpreter : Nat) (m_picture : Nat) (m_coder : Nat) (m_reader : Nat) (m_file : Nat) (m_shown : Nat) (m_taped : Int32) (m_fault : Int32) (m_ended : Int32) (m_overruns : Int32) (m_pictures : Int32) (sb : Nat) (stb : Nat) (slk : Int32) (k : Int32) (A : Nat → Prop) (u : Unit) (t : State) : Prop := match u with
  | _ => va_P (dC, dI) vcl [(h0, .inr (0, [.int m_dpi, .ref m_tape, .ref m_page, .ref m_sheet, .ref m_fonts, .ref m_macros, .ref m_raster, .ref m_interpreter, .ref m_picture, .ref m_coder, .ref m_reader, .ref m_file, .ref m_shown, .int m_taped, .int m_fault, .int m_ended, .int m_overruns, .int m_pictures])), (m_shown, .inr (7, [.ref sb, .ref stb, .int 0, .int 0, .int slk]))] t.heap ∧ va_K (dC, dI) vcl [] t ∧ va_D A [(h0, .inr (0, [.int m_dpi, .ref m_tape, .ref m_page, .ref m_sheet, .ref m_fonts, .ref m_macros, .ref m_raster, .ref m_interpreter, .ref m_picture, .ref m_coder, .ref m_reader, .ref m_file, .ref m_shown, .int m_taped, .int m_fault, .int m_ended, .int m_overruns, .int m_pictures])), (m_shown, .inr (7, [.ref sb, .ref stb, .int 0, .int 0, .int slk]))]
abbrev po_c_bytesAt_0 (h0 : Nat) (m_dpi : Int32) (m_tape : Nat) (m_page : Nat) (m_sheet : Nat) (m_fonts : Nat) (m_macros : Nat) (m_raster : Nat) (m_interpreter : Nat) (m_picture : Nat) (m_coder : Nat) (m_reader : Nat) (m_file : Nat) (m_shown : Nat) (m_taped : Int32) (m_fault : Int32) (m_ended : Int32) (m_overruns : Int32) (m_pictures : Int32) (sb : Nat) (stb : Nat) (slk : Int32) (k : Int32) (r : Int64) (u : Unit) : Prop := match u with
  | _ => r = 0
abbrev q_c_bytesAt_0 (dC : Nat → ClassId) (dI : Nat → Nat → Nat) (h0 : Nat) (m_dpi : Int32) (m_tape : Nat) (m_page : Nat) (m_sheet : Nat) (m_fonts : Nat) (m_macros : Nat) (m_raster : Nat) (m_interpreter : Nat) (m_picture : Nat) (m_coder : Nat) (m_reader : Nat) (m_file : Nat) (m_shown : Nat) (m_taped : Int32) (m_fault : Int32) (m_ended : Int32) (m_overruns : Int32) (m_pictures : Int32) (sb : Nat) (stb : Nat) (slk : Int32) (k : Int32) (A : Nat → Prop) : Array Value → State → Outcome → State → Prop := va_Ql (po_c_bytesAt_0 h0 m_dpi m_tape m_page m_sheet m_fonts m_macros m_raster m_interpreter m_picture m_coder m_reader m_file m_shown m_taped m_fault m_ended m_overruns m_pictures sb stb slk k) (at_c_bytesAt_0 dC dI h0 m_dpi m_tape m_page m_sheet m_fonts m_macros m_raster m_interpreter m_picture m_coder m_reader m_file m_shown m_taped m_fault m_ended m_overruns m_pictures sb stb slk k A) A
abbrev rm_c_bytesAt_0 : Room := { frames := 1, cells := 0, slots := 0, locals := 22 }
set_option maxHeartbeats 4000000 in
set_option maxRecDepth 100000 in
theorem c_bytesAt_0 (l : Launch) (dC : Nat → ClassId) (dI : Nat → Nat → Nat) (tt : Nat → Nat) (h0 : Nat) (m_dpi : Int32) (m_tape : Nat) (m_page : Nat) (m_sheet : Nat) (m_fonts : Nat) (m_macros : Nat) (m_raster : Nat) (m_interpreter : Nat) (m_picture : Nat) (m_coder : Nat) (m_reader : Nat) (m_file : Nat) (m_shown : Nat) (m_taped : Int32) (m_fault : Int32) (m_ended : Int32) (m_overruns : Int32) (m_pictures : Int32) (sb : Nat) (stb : Nat) (slk : Int32) (k : Int32) (sz : Nat)  : Met l y_Main_bytesAt w_Main_bytesAt rm_c_bytesAt_0 (va_Pc [.ref h0, .int k] (fun U => U.heap.size = sz ∧ va_P (dC, dI) vcl [(h0, .inr (0, [.int m_dpi, .ref m_tape, .ref m_page, .ref m_sheet, .ref m_fonts, .ref m_macros, .ref m_raster, .ref m_interpreter, .ref m_picture, .ref m_coder, .ref m_reader, .ref m_file, .ref m_shown, .int m_taped, .int m_fault, .int m_ended, .int m_overruns, .int m_pictures])), (m_shown, .inr (7, [.ref sb, .ref stb, .int 0, .int 0, .int slk]))] U.heap ∧ va_K (dC, dI) vcl [] U ∧ va_D (fun _ => True) [(h0, .inr (0, [.int m_dpi, .ref m_tape, .ref m_page, .ref m_sheet, .ref m_fonts, .ref m_macros, .ref m_raster, .ref m_interpreter, .ref m_picture, .ref m_coder, .ref m_reader, .ref m_file, .ref m_shown, .int m_taped, .int m_fault, .int m_ended, .int m_overruns, .int m_pictures])), (m_shown, .inr (7, [.ref sb, .ref stb, .int 0, .int 0, .int slk]))] ∧ SF tt (va_A [(h0, .inr (0, [.int m_dpi, .ref m_tape, .ref m_page, .ref m_sheet, .ref m_fonts, .ref m_macros, .ref m_raster, .ref m_interpreter, .ref m_picture, .ref m_coder, .ref m_reader, .ref m_file, .ref m_shown, .int m_taped, .int m_fault, .int m_ended, .int m_overruns, .int m_pictures])), (m_shown, .inr (7, [.ref sb, .ref stb, .int 0, .int 0, .int slk]))] sz) U U.heap)) (q_c_bytesAt_0 dC dI h0 m_dpi m_tape m_page m_sheet m_fonts m_macros m_raster m_interpreter m_picture m_coder m_reader m_file m_shown m_taped m_fault m_ended m_overruns m_pictures sb stb slk k (va_A [(h0, .inr (0, [.int m_dpi, .ref m_tape, .ref m_page, .ref m_sheet, .ref m_fonts, .ref m_macros, .ref m_raster, .ref m_interpreter, .ref m_picture, .ref m_coder, .ref m_reader, .ref m_file, .ref m_shown, .int m_taped, .int m_fault, .int m_ended, .int m_overruns, .int m_pictures])), (m_shown, .inr (7, [.ref sb, .ref stb, .int 0, .int 0, .int slk]))] sz)) 0 0 (va_A [(h0, .inr (0, [.int m_dpi, .ref m_tape, .ref m_page, .ref m_sheet, .ref m_fonts, .ref m_macros, .ref m_raster, .ref m_interpreter, .ref m_picture, .ref m_coder, .ref m_reader, .ref m_file, .ref m_shown, .int m_taped, .int m_fault, .int m_ended, .int m_overruns, .int m_pictures])), (m_shown, .inr (7, [.ref sb, .ref stb, .int 0, .int 0, .int slk]))] sz) := by
  refine Met.ofW (cc := b_Main_bytesAt) (maxL := 7) (ret := (some .long)) (by decide) rfl ?_
  intro p e s m args below meth c s₁ B hml hv
  obtain ⟨rfl, hsz, hP, hK, hD0, hF⟩ := hv
  have hx := B.exec
  have hb := B.bytes
  have hr := B.returns
  have hwd : ∀ w ∈ gT, w.before _ s = true := fun w h => atoms_spec (ws := w_Main_bytesAt) B.pre w (List.mem_cons_of_mem _ h)
  have hown : s.vm.findClass R_Main = some m.cls := findClass_of_methodNamed B.named
  have hlocks := B.notSynchronized
  subst hsz
  have hD := hD0.self (sz := s.heap.size)
  generalize hAe : va_A [(h0, .inr (0, [.int m_dpi, .ref m_tape, .ref m_page, .ref m_sheet, .ref m_fonts, .ref m_macros, .ref m_raster, .ref m_interpreter, .ref m_picture, .ref m_coder, .ref m_reader, .ref m_file, .ref m_shown, .int m_taped, .int m_fault, .int m_ended, .int m_overruns, .int m_pictures])), (m_shown, .inr (7, [.ref sb, .ref stb, .int 0, .int 0, .int slk]))] s.heap.size = A at hD hF ⊢
  have hA : ∀ q : Nat, s.heap.size ≤ q → A q := fun q h => by rw [← hAe]; exact Or.inr h
  have hS : va_S A s.heap s.heap [] := va_S.rf
  have hP : va_P (dC, dI) vcl [(h0, .inr (0, [.int m_dpi, .ref m_tape, .ref m_page, .ref m_sheet, .ref m_fonts, .ref m_macros, .ref m_raster, .ref m_interpreter, .ref m_picture, .ref m_coder, .ref m_reader, .ref m_file, .ref m_shown, .int m_taped, .int m_fault, .int m_ended, .int m_overruns, .int m_pictures])), (m_shown, .inr (7, [.ref sb, .ref stb, .int 0, .int 0, .int slk]))] s.heap := hP
  have hl := lv_entry ([.ref h0, .int k]) (n := 7) (Nat.le_of_ble_eq_true rfl)
  rw [lg_entry_eq]
  generalize (lg_sl ([.ref h0, .int k]) ++ List.replicate (7 - (lg_sl ([.ref h0, .int k])).length) Slot.unset).toArray = ls at hl ⊢
  have hl : lv_has ls 7 [(0, .ref h0), (1, .int k)] := hl
  refine lv_ldc2 hx hb hown (hwd _ wd_5_135) d_Main_bytesAt_0 ?_
  refine lv_iload_n hx hb d_Main_bytesAt_3 rfl (lv_at hl 1 rfl) ?_
  refine lv_i2l (v := k.toInt64) hx hb d_Main_bytesAt_4 rfl ?_
  refine lv_lmul hx hb d_Main_bytesAt_5 ?_
  refine lv_lstore_n (lv' := [(2, .long (8 * k.toInt64)), (0, .ref h0), (1, .int k)]) hx hb d_Main_bytesAt_6 rfl hl (by decide) rfl ?_
  clear hl
  intro ls hl
  refine lv_lconst (v := 0) hx hb d_Main_bytesAt_7 (by decide) ?_
  refine lv_lstore (lv' := [(4, .long 0), (2, .long (8 * k.toInt64)), (0, .ref h0), (1, .int k)]) hx hb d_Main_bytesAt_8 hl (by decide) rfl ?_
  clear hl
  intro ls hl
  refine lv_iconst (v := 0) hx hb d_Main_bytesAt_10 (by decide) ?_
  refine lv_istore (lv' := [(6, .int 0), (4, .long 0), (2, .long (8 * k.toInt64)), (0, .ref h0), (1, .int k)]) hx hb d_Main_bytesAt_11 hl (by decide) rfl ?_
  clear hl
  intro ls hl
  refine lv_iload hx hb d_Main_bytesAt_13 (lv_at hl 0 rfl) ?_
  refine lv_bipush (v := 8) hx hb d_Main_bytesAt_15 (by decide) ?_
  refine lv_icmp_ge (tgt := 46) hx hb d_Main_bytesAt_17 (by decide) (fun c17 => absurd c17 (by decide)) (fun _ => ?_)
  refine lv_lload hx hb d_Main_bytesAt_20 (lv_at hl 1 rfl) ?_
  refine lv_bipush (v := 8) hx hb d_Main_bytesAt_22 (by decide) ?_
  refine lv_lshl (v := 0) hx hb d_Main_bytesAt_24 (by decide) ?_
  refine lv_aload_n hx hb d_Main_bytesAt_25 rfl (lv_at hl 3 rfl) ?_
  refine va_get (D := (dC, dI)) (ci := 0) (v := .ref m_shown) (C := R_Main) (T := F_Main) (N := 18) hx hb hwd i_Main hown hK hP 0 rfl rfl 12 (by decide) (hwd _ wd_4_138) (fun _ h9 => h9) rfl d_Main_bytesAt_26 ?_
  refine lv_lload_n hx hb d_Main_bytesAt_29 rfl (lv_at hl 2 rfl) ?_
  refine lv_iload hx hb d_Main_bytesAt_30 (lv_at hl 0 rfl) ?_
  refine lv_i2l (v := 0) hx hb d_Main_bytesAt_32 (by decide) ?_
  refine lv_ladd hx hb d_Main_bytesAt_33 ?_
  have hPc := hP.sub (ws' := [(m_shown, .inr (7, [.ref sb, .ref stb, .int 0, .int 0, .int slk]))]) [1] rfl
  have hDc := hD.sub (ws' := [(m_shown, .inr (7, [.ref sb, .ref stb, .int 0, .int 0, .int slk]))]) [1] (by decide) rfl
  have hKc := hK.sub (tys' := []) [] rfl
  have hFc := va_free (wc := [(m_shown, .inr (7, [.ref sb, .ref stb, .int 0, .int 0, .int slk]))]) hD hS hA [1] rfl
  refine va_calll (va_runV (As := [.long ((8 * k.toInt64) + 0)]) (rest := [.long 0]) ⟨hx, hb, hml, hown, hwd⟩ (c_byteAt_0 l dC dI tt m_shown sb stb 0 slk ((8 * k.toInt64) + 0) s.heap.size ) (cwV 1 hwd (gV gd_OutFile_byteAt wd_5_136 wd_5_137 wd_5_138 wd_1_13) rfl rfl rfl (by decide +kernel) ⟨Nat.le_of_ble_eq_true rfl, Nat.le_of_ble_eq_true rfl⟩) ⟨fun a U g mk q => by obtain ⟨q0, q1, qP, qK, qD, qF⟩ := q; exact ⟨q0, q1, qP, va_K.moved (u := U) (U := U.calling g mk a) (Vm.Alike.refl U.vm) qK, qD, SF.same (u := U) (U := U.calling g mk a) rfl qF⟩, va_recv hKc hPc (ci := 7) (q0 := 0) rfl rfl, fun U hU hW => ⟨rfl, by rw [hU], by rw [hU]; exact hPc, va_K.moved hW.alike hKc, hDc.weaken (fun _ _ _ _ => trivial), by rw [hU]; exact SF.narrow (SF.moved hW (SF.kept hF (fun a h1 h2 => hS.2.1 a h1 h2))) hFc⟩⟩ rfl rfl hl.1 rfl (lv_room (Nat.le_of_ble_eq_true rfl)) d_Main_bytesAt_34 ⟨Nat.le_of_ble_eq_true rfl, Nat.le_of_ble_eq_true rfl⟩) hS (fun q _ h => hFc q h) hFc ?_
  clear hPc hDc hKc hS
  intro r_1 u_2 t H1 locs ht hvm hw hB hz1 hk1 hS
  obtain ⟨hP1, hK1, hD1⟩ := hB
  rw [ht] at hP1
  have hK1 := va_K.moved hvm.symm hK1
  try dsimp only at hw
  have hJ := va_join (wr := [(h0, .inr (0, [.int m_dpi, .ref m_tape, .ref m_page, .ref m_sheet, .ref m_fonts, .ref m_macros, .ref m_raster, .ref m_interpreter, .ref m_picture, .ref m_coder, .ref m_reader, .ref m_file, .ref m_shown, .int m_taped, .int m_fault, .int m_ended, .int m_overruns, .int m_pictures]))]) (w1 := [(m_shown, .inr (7, [.ref sb, .ref stb, .int 0, .int 0, .int slk]))]) hP hD [1] [0] rfl rfl (by decide) (by decide) hk1 hFc hP1 hD1
  clear hP hD hk1 hFc hP1 hD1 hz1
  obtain ⟨hP, hD⟩ := hJ
  clear hK1 ht hvm
  generalize H1 = H at hP hS ⊢
  replace hP : va_P (dC, dI) vcl [(h0, .inr (0, [.int m_dpi, .ref m_tape, .ref m_page, .ref m_sheet, .ref m_fonts, .ref m_macros, .ref m_raster, .ref m_interpreter, .ref m_picture, .ref m_coder, .ref m_reader, .ref m_file, .ref m_shown, .int m_taped, .int m_fault, .int m_ended, .int m_overruns, .int m_pictures])), (m_shown, .inr (7, [.ref sb, .ref stb, .int 0, .int 0, .int slk]))] H := hP
  replace hD : va_D A [(h0, .inr (0, [.int m_dpi, .ref m_tape, .ref m_page, .ref m_sheet, .ref m_fonts, .ref m_macros, .ref m_raster, .ref m_interpreter, .ref m_picture, .ref m_coder, .ref m_reader, .ref m_file, .ref m_shown, .int m_taped, .int m_fault, .int m_ended, .int m_overruns, .int m_pictures])), (m_shown, .inr (7, [.ref sb, .ref stb, .int 0, .int 0, .int slk]))] := hD
  obtain rfl := hw
  refine lv_lor hx hb d_Main_bytesAt_37 ?_
  refine lv_topl (fun y_3 ey_3 => ?_)
  obtain rfl : y_3 = (0 : Int64) := ey_3.trans (by decide)
  refine lv_lstore (lv' := [(4, .long 0), (6, .int 0), (2, .long (8 * k.toInt64)), (0, .ref h0), (1, .int k)]) hx hb d_Main_bytesAt_38 hl (by decide) rfl ?_
  clear hl
  intro ls hl
  refine lv_iinc (v := 1) (lv' := [(6, .int 1), (4, .long 0), (2, .long (8 * k.toInt64)), (0, .ref h0), (1, .int k)]) hx hb d_Main_bytesAt_40 hl (k := 1) rfl (by decide) (by decide) rfl ?_
  clear hl
  intro ls hl
  refine lv_goto (tgt := 13) hx hb d_Main_bytesAt_43 (by decide) ?_
  refine lv_iload hx hb d_Main_bytesAt_13 (lv_at hl 0 rfl) ?_
  refine lv_bipush (v := 8) hx hb d_Main_bytesAt_15 (by decide) ?_
  refine lv_icmp_ge (tgt := 46) hx hb d_Main_bytesAt_17 (by decide) (fun c17 => absurd c17 (by decide)) (fun _ => ?_)
  refine lv_lload hx hb d_Main_bytesAt_20 (lv_at hl 1 rfl) ?_
  refine lv_bipush (v := 8) hx hb d_Main_bytesAt_22 (by decide) ?_
  refine lv_lshl (v := 0) hx hb d_Main_bytesAt_24 (by decide) ?_
  refine lv_aload_n hx hb d_Main_bytesAt_25 rfl (lv_at hl 3 rfl) ?_
  refine va_get (D := (dC, dI)) (ci := 0) (v := .ref m_shown) (C := R_Main) (T := F_Main) (N := 18) hx hb hwd i_Main hown hK hP 0 rfl rfl 12 (by decide) (hwd _ wd_4_138) (fun _ h9 => h9) rfl d_Main_bytesAt_26 ?_
  refine lv_lload_n hx hb d_Main_bytesAt_29 rfl (lv_at hl 2 rfl) ?_
  refine lv_iload hx hb d_Main_bytesAt_30 (lv_at hl 0 rfl) ?_
  refine lv_i2l (v := 1) hx hb d_Main_bytesAt_32 (by decide) ?_
  refine lv_ladd hx hb d_Main_bytesAt_33 ?_
  have hPc := hP.sub (ws' := [(m_shown, .inr (7, [.ref sb, .ref stb, .int 0, .int 0, .int slk]))]) [1] rfl
  have hDc := hD.sub (ws' := [(m_shown, .inr (7, [.ref sb, .ref stb, .int 0, .int 0, .int slk]))]) [1] (by decide) rfl
  have hKc := hK.sub (tys' := []) [] rfl
  have hFc := va_free (wc := [(m_shown, .inr (7, [.ref sb, .ref stb, .int 0, .int 0, .int slk]))]) hD hS hA [1] rfl
  refine va_calll (va_runV (As := [.long ((8 * k.toInt64) + 1)]) (rest := [.long 0]) ⟨hx, hb, hml, hown, hwd⟩ (c_byteAt_0 l dC dI tt m_shown sb stb 0 slk ((8 * k.toInt64) + 1) H.size ) (cwV 1 hwd (gV gd_OutFile_byteAt wd_5_136 wd_5_137 wd_5_138 wd_1_13) rfl rfl rfl (by decide +kernel) ⟨Nat.le_of_ble_eq_true rfl, Nat.le_of_ble_eq_true rfl⟩) ⟨fun a U g mk q => by obtain ⟨q0, q1, qP, qK, qD, qF⟩ := q; exact ⟨q0, q1, qP, va_K.moved (u := U) (U := U.calling g mk a) (Vm.Alike.refl U.vm) qK, qD, SF.same (u := U) (U := U.calling g mk a) rfl qF⟩, va_recv hKc hPc (ci := 7) (q0 := 0) rfl rfl, fun U hU hW => ⟨rfl, by rw [hU], by rw [hU]; exact hPc, va_K.moved hW.alike hKc, hDc.weaken (fun _ _ _ _ => trivial), by rw [hU]; exact SF.narrow (SF.moved hW (SF.kept hF (fun a h1 h2 => hS.2.1 a h1 h2))) hFc⟩⟩ rfl rfl hl.1 rfl (lv_room (Nat.le_of_ble_eq_true rfl)) d_Main_bytesAt_34 ⟨Nat.le_of_ble_eq_true rfl, Nat.le_of_ble_eq_true rfl⟩) hS (fun q _ h => hFc q h) hFc ?_
  clear hPc hDc hKc hS
  intro r_4 u_5 t H1 locs ht hvm hw hB hz1 hk1 hS
  obtain ⟨hP1, hK1, hD1⟩ := hB
  rw [ht] at hP1
  have hK1 := va_K.moved hvm.symm hK1
  try dsimp only at hw
  have hJ := va_join (wr := [(h0, .inr (0, [.int m_dpi, .ref m_tape, .ref m_page, .ref m_sheet, .ref m_fonts, .ref m_macros, .ref m_raster, .ref m_interpreter, .ref m_picture, .ref m_coder, .ref m_reader, .ref m_file, .ref m_shown, .int m_taped, .int m_fault, .int m_ended, .int m_overruns, .int m_pictures]))]) (w1 := [(m_shown, .inr (7, [.ref sb, .ref stb, .int 0, .int 0, .int slk]))]) hP hD [1] [0] rfl rfl (by decide) (by decide) hk1 hFc hP1 hD1
  clear hP hD hk1 hFc hP1 hD1 hz1
  obtain ⟨hP, hD⟩ := hJ
  clear hK1 ht hvm
  generalize H1 = H at hP hS ⊢
  replace hP : va_P (dC, dI) vcl [(h0, .inr (0, [.int m_dpi, .ref m_tape, .ref m_page, .ref m_sheet, .ref m_fonts, .ref m_macros, .ref m_raster, .ref m_interpreter, .ref m_picture, .ref m_coder, .ref m_reader, .ref m_file, .ref m_shown, .int m_taped, .int m_fault, .int m_ended, .int m_overruns, .int m_pictures])), (m_shown, .inr (7, [.ref sb, .ref stb, .int 0, .int 0, .int slk]))] H := hP
  replace hD : va_D A [(h0, .inr (0, [.int m_dpi, .ref m_tape, .ref m_page, .ref m_sheet, .ref m_fonts, .ref m_macros, .ref m_raster, .ref m_interpreter, .ref m_picture, .ref m_coder, .ref m_reader, .ref m_file, .ref m_shown, .int m_taped, .int m_fault, .int m_ended, .int m_overruns, .int m_pictures])), (m_shown, .inr (7, [.ref sb, .ref stb, .int 0, .int 0, .int slk]))] := hD
  obtain rfl := hw
  refine lv_lor hx hb d_Main_bytesAt_37 ?_
  refine lv_topl (fun y_6 ey_6 => ?_)
  obtain rfl : y_6 = (0 : Int64) := ey_6.trans (by decide)
  refine lv_lstore (lv' := [(4, .long 0), (6, .int 1), (2, .long (8 * k.toInt64)), (0, .ref h0), (1, .int k)]) hx hb d_Main_bytesAt_38 hl (by decide) rfl ?_
  clear hl
  intro ls hl
  refine lv_iinc (v := 2) (lv' := [(6, .int 2), (4, .long 0), (2, .long (8 * k.toInt64)), (0, .ref h0), (1, .int k)]) hx hb d_Main_bytesAt_40 hl (k := 1) rfl (by decide) (by decide) rfl ?_
  clear hl
  intro ls hl
  refine lv_goto (tgt := 13) hx hb d_Main_bytesAt_43 (by decide) ?_
  refine lv_iload hx hb d_Main_bytesAt_13 (lv_at hl 0 rfl) ?_
  refine lv_bipush (v := 8) hx hb d_Main_bytesAt_15 (by decide) ?_
  refine lv_icmp_ge (tgt := 46) hx hb d_Main_bytesAt_17 (by decide) (fun c17 => absurd c17 (by decide)) (fun _ => ?_)
  refine lv_lload hx hb d_Main_bytesAt_20 (lv_at hl 1 rfl) ?_
  refine lv_bipush (v := 8) hx hb d_Main_bytesAt_22 (by decide) ?_
  refine lv_lshl (v := 0) hx hb d_Main_bytesAt_24 (by decide) ?_
  refine lv_aload_n hx hb d_Main_bytesAt_25 rfl (lv_at hl 3 rfl) ?_
  refine va_get (D := (dC, dI)) (ci := 0) (v := .ref m_shown) (C := R_Main) (T := F_Main) (N := 18) hx hb hwd i_Main hown hK hP 0 rfl rfl 12 (by decide) (hwd _ wd_4_138) (fun _ h9 => h9) rfl d_Main_bytesAt_26 ?_
  refine lv_lload_n hx hb d_Main_bytesAt_29 rfl (lv_at hl 2 rfl) ?_
  refine lv_iload hx hb d_Main_bytesAt_30 (lv_at hl 0 rfl) ?_
  refine lv_i2l (v := 2) hx hb d_Main_bytesAt_32 (by decide) ?_
  refine lv_ladd hx hb d_Main_bytesAt_33 ?_
  have hPc := hP.sub (ws' := [(m_shown, .inr (7, [.ref sb, .ref stb, .int 0, .int 0, .int slk]))]) [1] rfl
  have hDc := hD.sub (ws' := [(m_shown, .inr (7, [.ref sb, .ref stb, .int 0, .int 0, .int slk]))]) [1] (by decide) rfl
  have hKc := hK.sub (tys' := []) [] rfl
  have hFc := va_free (wc := [(m_shown, .inr (7, [.ref sb, .ref stb, .int 0, .int 0, .int slk]))]) hD hS hA [1] rfl
  refine va_calll (va_runV (As := [.long ((8 * k.toInt64) + 2)]) (rest := [.long 0]) ⟨hx, hb, hml, hown, hwd⟩ (c_byteAt_0 l dC dI tt m_shown sb stb 0 slk ((8 * k.toInt64) + 2) H.size ) (cwV 1 hwd (gV gd_OutFile_byteAt wd_5_136 wd_5_137 wd_5_138 wd_1_13) rfl rfl rfl (by decide +kernel) ⟨Nat.le_of_ble_eq_true rfl, Nat.le_of_ble_eq_true rfl⟩) ⟨fun a U g mk q => by obtain ⟨q0, q1, qP, qK, qD, qF⟩ := q; exact ⟨q0, q1, qP, va_K.moved (u := U) (U := U.calling g mk a) (Vm.Alike.refl U.vm) qK, qD, SF.same (u := U) (U := U.calling g mk a) rfl qF⟩, va_recv hKc hPc (ci := 7) (q0 := 0) rfl rfl, fun U hU hW => ⟨rfl, by rw [hU], by rw [hU]; exact hPc, va_K.moved hW.alike hKc, hDc.weaken (fun _ _ _ _ => trivial), by rw [hU]; exact SF.narrow (SF.moved hW (SF.kept hF (fun a h1 h2 => hS.2.1 a h1 h2))) hFc⟩⟩ rfl rfl hl.1 rfl (lv_room (Nat.le_of_ble_eq_true rfl)) d_Main_bytesAt_34 ⟨Nat.le_of_ble_eq_true rfl, Nat.le_of_ble_eq_true rfl⟩) hS (fun q _ h => hFc q h) hFc ?_
  clear hPc hDc hKc hS
  intro r_7 u_8 t H1 locs ht hvm hw hB hz1 hk1 hS
  obtain ⟨hP1, hK1, hD1⟩ := hB
  rw [ht] at hP1
  have hK1 := va_K.moved hvm.symm hK1
  try dsimp only at hw
  have hJ := va_join (wr := [(h0, .inr (0, [.int m_dpi, .ref m_tape, .ref m_page, .ref m_sheet, .ref m_fonts, .ref m_macros, .ref m_raster, .ref m_interpreter, .ref m_picture, .ref m_coder, .ref m_reader, .ref m_file, .ref m_shown, .int m_taped, .int m_fault, .int m_ended, .int m_overruns, .int m_pictures]))]) (w1 := [(m_shown, .inr (7, [.ref sb, .ref stb, .int 0, .int 0, .int slk]))]) hP hD [1] [0] rfl rfl (by decide) (by decide) hk1 hFc hP1 hD1
  clear hP hD hk1 hFc hP1 hD1 hz1
  obtain ⟨hP, hD⟩ := hJ
  clear hK1 ht hvm
  generalize H1 = H at hP hS ⊢
  replace hP : va_P (dC, dI) vcl [(h0, .inr (0, [.int m_dpi, .ref m_tape, .ref m_page, .ref m_sheet, .ref m_fonts, .ref m_macros, .ref m_raster, .ref m_interpreter, .ref m_picture, .ref m_coder, .ref m_reader, .ref m_file, .ref m_shown, .int m_taped, .int m_fault, .int m_ended, .int m_overruns, .int m_pictures])), (m_shown, .inr (7, [.ref sb, .ref stb, .int 0, .int 0, .int slk]))] H := hP
  replace hD : va_D A [(h0, .inr (0, [.int m_dpi, .ref m_tape, .ref m_page, .ref m_sheet, .ref m_fonts, .ref m_macros, .ref m_raster, .ref m_interpreter, .ref m_picture, .ref m_coder, .ref m_reader, .ref m_file, .ref m_shown, .int m_taped, .int m_fault, .int m_ended, .int m_overruns, .int m_pictures])), (m_shown, .inr (7, [.ref sb, .ref stb, .int 0, .int 0, .int slk]))] := hD
  obtain rfl := hw
  refine lv_lor hx hb d_Main_bytesAt_37 ?_
  refine lv_topl (fun y_9 ey_9 => ?_)
  obtain rfl : y_9 = (0 : Int64) := ey_9.trans (by decide)
  refine lv_lstore (lv' := [(4, .long 0), (6, .int 2), (2, .long (8 * k.toInt64)), (0, .ref h0), (1, .int k)]) hx hb d_Main_bytesAt_38 hl (by decide) rfl ?_
  clear hl
  intro ls hl
  refine lv_iinc (v := 3) (lv' := [(6, .int 3), (4, .long 0), (2, .long (8 * k.toInt64)), (0, .ref h0), (1, .int k)]) hx hb d_Main_bytesAt_40 hl (k := 1) rfl (by decide) (by decide) rfl ?_
  clear hl
  intro ls hl
  refine lv_goto (tgt := 13) hx hb d_Main_bytesAt_43 (by decide) ?_
  refine lv_iload hx hb d_Main_bytesAt_13 (lv_at hl 0 rfl) ?_
  refine lv_bipush (v := 8) hx hb d_Main_bytesAt_15 (by decide) ?_
  refine lv_icmp_ge (tgt := 46) hx hb d_Main_bytesAt_17 (by decide) (fun c17 => absurd c17 (by decide)) (fun _ => ?_)
  refine lv_lload hx hb d_Main_bytesAt_20 (lv_at hl 1 rfl) ?_
  refine lv_bipush (v := 8) hx hb d_Main_bytesAt_22 (by decide) ?_
  refine lv_lshl (v := 0) hx hb d_Main_bytesAt_24 (by decide) ?_
  refine lv_aload_n hx hb d_Main_bytesAt_25 rfl (lv_at hl 3 rfl) ?_
  refine va_get (D := (dC, dI)) (ci := 0) (v := .ref m_shown) (C := R_Main) (T := F_Main) (N := 18) hx hb hwd i_Main hown hK hP 0 rfl rfl 12 (by decide) (hwd _ wd_4_138) (fun _ h9 => h9) rfl d_Main_bytesAt_26 ?_
  refine lv_lload_n hx hb d_Main_bytesAt_29 rfl (lv_at hl 2 rfl) ?_
  refine lv_iload hx hb d_Main_bytesAt_30 (lv_at hl 0 rfl) ?_
  refine lv_i2l (v := 3) hx hb d_Main_bytesAt_32 (by decide) ?_
  refine lv_ladd hx hb d_Main_bytesAt_33 ?_
  have hPc := hP.sub (ws' := [(m_shown, .inr (7, [.ref sb, .ref stb, .int 0, .int 0, .int slk]))]) [1] rfl
  have hDc := hD.sub (ws' := [(m_shown, .inr (7, [.ref sb, .ref stb, .int 0, .int 0, .int slk]))]) [1] (by decide) rfl
  have hKc := hK.sub (tys' := []) [] rfl
  have hFc := va_free (wc := [(m_shown, .inr (7, [.ref sb, .ref stb, .int 0, .int 0, .int slk]))]) hD hS hA [1] rfl
  refine va_calll (va_runV (As := [.long ((8 * k.toInt64) + 3)]) (rest := [.long 0]) ⟨hx, hb, hml, hown, hwd⟩ (c_byteAt_0 l dC dI tt m_shown sb stb 0 slk ((8 * k.toInt64) + 3) H.size ) (cwV 1 hwd (gV gd_OutFile_byteAt wd_5_136 wd_5_137 wd_5_138 wd_1_13) rfl rfl rfl (by decide +kernel) ⟨Nat.le_of_ble_eq_true rfl, Nat.le_of_ble_eq_true rfl⟩) ⟨fun a U g mk q => by obtain ⟨q0, q1, qP, qK, qD, qF⟩ := q; exact ⟨q0, q1, qP, va_K.moved (u := U) (U := U.calling g mk a) (Vm.Alike.refl U.vm) qK, qD, SF.same (u := U) (U := U.calling g mk a) rfl qF⟩, va_recv hKc hPc (ci := 7) (q0 := 0) rfl rfl, fun U hU hW => ⟨rfl, by rw [hU], by rw [hU]; exact hPc, va_K.moved hW.alike hKc, hDc.weaken (fun _ _ _ _ => trivial), by rw [hU]; exact SF.narrow (SF.moved hW (SF.kept hF (fun a h1 h2 => hS.2.1 a h1 h2))) hFc⟩⟩ rfl rfl hl.1 rfl (lv_room (Nat.le_of_ble_eq_true rfl)) d_Main_bytesAt_34 ⟨Nat.le_of_ble_eq_true rfl, Nat.le_of_ble_eq_true rfl⟩) hS (fun q _ h => hFc q h) hFc ?_
  clear hPc hDc hKc hS
  intro r_10 u_11 t H1 locs ht hvm hw hB hz1 hk1 hS
  obtain ⟨hP1, hK1, hD1⟩ := hB
  rw [ht] at hP1
  have hK1 := va_K.moved hvm.symm hK1
  try dsimp only at hw
  have hJ := va_join (wr := [(h0, .inr (0, [.int m_dpi, .ref m_tape, .ref m_page, .ref m_sheet, .ref m_fonts, .ref m_macros, .ref m_raster, .ref m_interpreter, .ref m_picture, .ref m_coder, .ref m_reader, .ref m_file, .ref m_shown, .int m_taped, .int m_fault, .int m_ended, .int m_overruns, .int m_pictures]))]) (w1 := [(m_shown, .inr (7, [.ref sb, .ref stb, .int 0, .int 0, .int slk]))]) hP hD [1] [0] rfl rfl (by decide) (by decide) hk1 hFc hP1 hD1
  clear hP hD hk1 hFc hP1 hD1 hz1
  obtain ⟨hP, hD⟩ := hJ
  clear hK1 ht hvm
  generalize H1 = H at hP hS ⊢
  replace hP : va_P (dC, dI) vcl [(h0, .inr (0, [.int m_dpi, .ref m_tape, .ref m_page, .ref m_sheet, .ref m_fonts, .ref m_macros, .ref m_raster, .ref m_interpreter, .ref m_picture, .ref m_coder, .ref m_reader, .ref m_file, .ref m_shown, .int m_taped, .int m_fault, .int m_ended, .int m_overruns, .int m_pictures])), (m_shown, .inr (7, [.ref sb, .ref stb, .int 0, .int 0, .int slk]))] H := hP
  replace hD : va_D A [(h0, .inr (0, [.int m_dpi, .ref m_tape, .ref m_page, .ref m_sheet, .ref m_fonts, .ref m_macros, .ref m_raster, .ref m_interpreter, .ref m_picture, .ref m_coder, .ref m_reader, .ref m_file, .ref m_shown, .int m_taped, .int m_fault, .int m_ended, .int m_overruns, .int m_pictures])), (m_shown, .inr (7, [.ref sb, .ref stb, .int 0, .int 0, .int slk]))] := hD
  obtain rfl := hw
  refine lv_lor hx hb d_Main_bytesAt_37 ?_
  refine lv_topl (fun y_12 ey_12 => ?_)
  obtain rfl : y_12 = (0 : Int64) := ey_12.trans (by decide)
  refine lv_lstore (lv' := [(4, .long 0), (6, .int 3), (2, .long (8 * k.toInt64)), (0, .ref h0), (1, .int k)]) hx hb d_Main_bytesAt_38 hl (by decide) rfl ?_
  clear hl
  intro ls hl
  refine lv_iinc (v := 4) (lv' := [(6, .int 4), (4, .long 0), (2, .long (8 * k.toInt64)), (0, .ref h0), (1, .int k)]) hx hb d_Main_bytesAt_40 hl (k := 1) rfl (by decide) (by decide) rfl ?_
  clear hl
  intro ls hl
  refine lv_goto (tgt := 13) hx hb d_Main_bytesAt_43 (by decide) ?_
  refine lv_iload hx hb d_Main_bytesAt_13 (lv_at hl 0 rfl) ?_
  refine lv_bipush (v := 8) hx hb d_Main_bytesAt_15 (by decide) ?_
  refine lv_icmp_ge (tgt := 46) hx hb d_Main_bytesAt_17 (by decide) (fun c17 => absurd c17 (by decide)) (fun _ => ?_)
  refine lv_lload hx hb d_Main_bytesAt_20 (lv_at hl 1 rfl) ?_
  refine lv_bipush (v := 8) hx hb d_Main_bytesAt_22 (by decide) ?_
  refine lv_lshl (v := 0) hx hb d_Main_bytesAt_24 (by decide) ?_
  refine lv_aload_n hx hb d_Main_bytesAt_25 rfl (lv_at hl 3 rfl) ?_
  refine va_get (D := (dC, dI)) (ci := 0) (v := .ref m_shown) (C := R_Main) (T := F_Main) (N := 18) hx hb hwd i_Main hown hK hP 0 rfl rfl 12 (by decide) (hwd _ wd_4_138) (fun _ h9 => h9) rfl d_Main_bytesAt_26 ?_
  refine lv_lload_n hx hb d_Main_bytesAt_29 rfl (lv_at hl 2 rfl) ?_
  refine lv_iload hx hb d_Main_bytesAt_30 (lv_at hl 0 rfl) ?_
  refine lv_i2l (v := 4) hx hb d_Main_bytesAt_32 (by decide) ?_
  refine lv_ladd hx hb d_Main_bytesAt_33 ?_
  have hPc := hP.sub (ws' := [(m_shown, .inr (7, [.ref sb, .ref stb, .int 0, .int 0, .int slk]))]) [1] rfl
  have hDc := hD.sub (ws' := [(m_shown, .inr (7, [.ref sb, .ref stb, .int 0, .int 0, .int slk]))]) [1] (by decide) rfl
  have hKc := hK.sub (tys' := []) [] rfl
  have hFc := va_free (wc := [(m_shown, .inr (7, [.ref sb, .ref stb, .int 0, .int 0, .int slk]))]) hD hS hA [1] rfl
  refine va_calll (va_runV (As := [.long ((8 * k.toInt64) + 4)]) (rest := [.long 0]) ⟨hx, hb, hml, hown, hwd⟩ (c_byteAt_0 l dC dI tt m_shown sb stb 0 slk ((8 * k.toInt64) + 4) H.size ) (cwV 1 hwd (gV gd_OutFile_byteAt wd_5_136 wd_5_137 wd_5_138 wd_1_13) rfl rfl rfl (by decide +kernel) ⟨Nat.le_of_ble_eq_true rfl, Nat.le_of_ble_eq_true rfl⟩) ⟨fun a U g mk q => by obtain ⟨q0, q1, qP, qK, qD, qF⟩ := q; exact ⟨q0, q1, qP, va_K.moved (u := U) (U := U.calling g mk a) (Vm.Alike.refl U.vm) qK, qD, SF.same (u := U) (U := U.calling g mk a) rfl qF⟩, va_recv hKc hPc (ci := 7) (q0 := 0) rfl rfl, fun U hU hW => ⟨rfl, by rw [hU], by rw [hU]; exact hPc, va_K.moved hW.alike hKc, hDc.weaken (fun _ _ _ _ => trivial), by rw [hU]; exact SF.narrow (SF.moved hW (SF.kept hF (fun a h1 h2 => hS.2.1 a h1 h2))) hFc⟩⟩ rfl rfl hl.1 rfl (lv_room (Nat.le_of_ble_eq_true rfl)) d_Main_bytesAt_34 ⟨Nat.le_of_ble_eq_true rfl, Nat.le_of_ble_eq_true rfl⟩) hS (fun q _ h => hFc q h) hFc ?_
  clear hPc hDc hKc hS
  intro r_13 u_14 t H1 locs ht hvm hw hB hz1 hk1 hS
  obtain ⟨hP1, hK1, hD1⟩ := hB
  rw [ht] at hP1
  have hK1 := va_K.moved hvm.symm hK1
  try dsimp only at hw
  have hJ := va_join (wr := [(h0, .inr (0, [.int m_dpi, .ref m_tape, .ref m_page, .ref m_sheet, .ref m_fonts, .ref m_macros, .ref m_raster, .ref m_interpreter, .ref m_picture, .ref m_coder, .ref m_reader, .ref m_file, .ref m_shown, .int m_taped, .int m_fault, .int m_ended, .int m_overruns, .int m_pictures]))]) (w1 := [(m_shown, .inr (7, [.ref sb, .ref stb, .int 0, .int 0, .int slk]))]) hP hD [1] [0] rfl rfl (by decide) (by decide) hk1 hFc hP1 hD1
  clear hP hD hk1 hFc hP1 hD1 hz1
  obtain ⟨hP, hD⟩ := hJ
  clear hK1 ht hvm
  generalize H1 = H at hP hS ⊢
  replace hP : va_P (dC, dI) vcl [(h0, .inr (0, [.int m_dpi, .ref m_tape, .ref m_page, .ref m_sheet, .ref m_fonts, .ref m_macros, .ref m_raster, .ref m_interpreter, .ref m_picture, .ref m_coder, .ref m_reader, .ref m_file, .ref m_shown, .int m_taped, .int m_fault, .int m_ended, .int m_overruns, .int m_pictures])), (m_shown, .inr (7, [.ref sb, .ref stb, .int 0, .int 0, .int slk]))] H := hP
  replace hD : va_D A [(h0, .inr (0, [.int m_dpi, .ref m_tape, .ref m_page, .ref m_sheet, .ref m_fonts, .ref m_macros, .ref m_raster, .ref m_interpreter, .ref m_picture, .ref m_coder, .ref m_reader, .ref m_file, .ref m_shown, .int m_taped, .int m_fault, .int m_ended, .int m_overruns, .int m_pictures])), (m_shown, .inr (7, [.ref sb, .ref stb, .int 0, .int 0, .int slk]))] := hD
  obtain rfl := hw
  refine lv_lor hx hb d_Main_bytesAt_37 ?_
  refine lv_topl (fun y_15 ey_15 => ?_)
  obtain rfl : y_15 = (0 : Int64) := ey_15.trans (by decide)
  refine lv_lstore (lv' := [(4, .long 0), (6, .int 4), (2, .long (8 * k.toInt64)), (0, .ref h0), (1, .int k)]) hx hb d_Main_bytesAt_38 hl (by decide) rfl ?_
  clear hl
  intro ls hl
  refine lv_iinc (v := 5) (lv' := [(6, .int 5), (4, .long 0), (2, .long (8 * k.toInt64)), (0, .ref h0), (1, .int k)]) hx hb d_Main_bytesAt_40 hl (k := 1) rfl (by decide) (by decide) rfl ?_
  clear hl
  intro ls hl
  refine lv_goto (tgt := 13) hx hb d_Main_bytesAt_43 (by decide) ?_
  refine lv_iload hx hb d_Main_bytesAt_13 (lv_at hl 0 rfl) ?_
  refine lv_bipush (v := 8) hx hb d_Main_bytesAt_15 (by decide) ?_
  refine lv_icmp_ge (tgt := 46) hx hb d_Main_bytesAt_17 (by decide) (fun c17 => absurd c17 (by decide)) (fun _ => ?_)
  refine lv_lload hx hb d_Main_bytesAt_20 (lv_at hl 1 rfl) ?_
  refine lv_bipush (v := 8) hx hb d_Main_bytesAt_22 (by decide) ?_
  refine lv_lshl (v := 0) hx hb d_Main_bytesAt_24 (by decide) ?_
  refine lv_aload_n hx hb d_Main_bytesAt_25 rfl (lv_at hl 3 rfl) ?_
  refine va_get (D := (dC, dI)) (ci := 0) (v := .ref m_shown) (C := R_Main) (T := F_Main) (N := 18) hx hb hwd i_Main hown hK hP 0 rfl rfl 12 (by decide) (hwd _ wd_4_138) (fun _ h9 => h9) rfl d_Main_bytesAt_26 ?_
  refine lv_lload_n hx hb d_Main_bytesAt_29 rfl (lv_at hl 2 rfl) ?_
  refine lv_iload hx hb d_Main_bytesAt_30 (lv_at hl 0 rfl) ?_
  refine lv_i2l (v := 5) hx hb d_Main_bytesAt_32 (by decide) ?_
  refine lv_ladd hx hb d_Main_bytesAt_33 ?_
  have hPc := hP.sub (ws' := [(m_shown, .inr (7, [.ref sb, .ref stb, .int 0, .int 0, .int slk]))]) [1] rfl
  have hDc := hD.sub (ws' := [(m_shown, .inr (7, [.ref sb, .ref stb, .int 0, .int 0, .int slk]))]) [1] (by decide) rfl
  have hKc := hK.sub (tys' := []) [] rfl
  have hFc := va_free (wc := [(m_shown, .inr (7, [.ref sb, .ref stb, .int 0, .int 0, .int slk]))]) hD hS hA [1] rfl
  refine va_calll (va_runV (As := [.long ((8 * k.toInt64) + 5)]) (rest := [.long 0]) ⟨hx, hb, hml, hown, hwd⟩ (c_byteAt_0 l dC dI tt m_shown sb stb 0 slk ((8 * k.toInt64) + 5) H.size ) (cwV 1 hwd (gV gd_OutFile_byteAt wd_5_136 wd_5_137 wd_5_138 wd_1_13) rfl rfl rfl (by decide +kernel) ⟨Nat.le_of_ble_eq_true rfl, Nat.le_of_ble_eq_true rfl⟩) ⟨fun a U g mk q => by obtain ⟨q0, q1, qP, qK, qD, qF⟩ := q; exact ⟨q0, q1, qP, va_K.moved (u := U) (U := U.calling g mk a) (Vm.Alike.refl U.vm) qK, qD, SF.same (u := U) (U := U.calling g mk a) rfl qF⟩, va_recv hKc hPc (ci := 7) (q0 := 0) rfl rfl, fun U hU hW => ⟨rfl, by rw [hU], by rw [hU]; exact hPc, va_K.moved hW.alike hKc, hDc.weaken (fun _ _ _ _ => trivial), by rw [hU]; exact SF.narrow (SF.moved hW (SF.kept hF (fun a h1 h2 => hS.2.1 a h1 h2))) hFc⟩⟩ rfl rfl hl.1 rfl (lv_room (Nat.le_of_ble_eq_true rfl)) d_Main_bytesAt_34 ⟨Nat.le_of_ble_eq_true rfl, Nat.le_of_ble_eq_true rfl⟩) hS (fun q _ h => hFc q h) hFc ?_
  clear hPc hDc hKc hS
  intro r_16 u_17 t H1 locs ht hvm hw hB hz1 hk1 hS
  obtain ⟨hP1, hK1, hD1⟩ := hB
  rw [ht] at hP1
  have hK1 := va_K.moved hvm.symm hK1
  try dsimp only at hw
  have hJ := va_join (wr := [(h0, .inr (0, [.int m_dpi, .ref m_tape, .ref m_page, .ref m_sheet, .ref m_fonts, .ref m_macros, .ref m_raster, .ref m_interpreter, .ref m_picture, .ref m_coder, .ref m_reader, .ref m_file, .ref m_shown, .int m_taped, .int m_fault, .int m_ended, .int m_overruns, .int m_pictures]))]) (w1 := [(m_shown, .inr (7, [.ref sb, .ref stb, .int 0, .int 0, .int slk]))]) hP hD [1] [0] rfl rfl (by decide) (by decide) hk1 hFc hP1 hD1
  clear hP hD hk1 hFc hP1 hD1 hz1
  obtain ⟨hP, hD⟩ := hJ
  clear hK1 ht hvm
  generalize H1 = H at hP hS ⊢
  replace hP : va_P (dC, dI) vcl [(h0, .inr (0, [.int m_dpi, .ref m_tape, .ref m_page, .ref m_sheet, .ref m_fonts, .ref m_macros, .ref m_raster, .ref m_interpreter, .ref m_picture, .ref m_coder, .ref m_reader, .ref m_file, .ref m_shown, .int m_taped, .int m_fault, .int m_ended, .int m_overruns, .int m_pictures])), (m_shown, .inr (7, [.ref sb, .ref stb, .int 0, .int 0, .int slk]))] H := hP
  replace hD : va_D A [(h0, .inr (0, [.int m_dpi, .ref m_tape, .ref m_page, .ref m_sheet, .ref m_fonts, .ref m_macros, .ref m_raster, .ref m_interpreter, .ref m_picture, .ref m_coder, .ref m_reader, .ref m_file, .ref m_shown, .int m_taped, .int m_fault, .int m_ended, .int m_overruns, .int m_pictures])), (m_shown, .inr (7, [.ref sb, .ref stb, .int 0, .int 0, .int slk]))] := hD
  obtain rfl := hw
  refine lv_lor hx hb d_Main_bytesAt_37 ?_
  refine lv_topl (fun y_18 ey_18 => ?_)
  obtain rfl : y_18 = (0 : Int64) := ey_18.trans (by decide)
  refine lv_lstore (lv' := [(4, .long 0), (6, .int 5), (2, .long (8 * k.toInt64)), (0, .ref h0), (1, .int k)]) hx hb d_Main_bytesAt_38 hl (by decide) rfl ?_
  clear hl
  intro ls hl
  refine lv_iinc (v := 6) (lv' := [(6, .int 6), (4, .long 0), (2, .long (8 * k.toInt64)), (0, .ref h0), (1, .int k)]) hx hb d_Main_bytesAt_40 hl (k := 1) rfl (by decide) (by decide) rfl ?_
  clear hl
  intro ls hl
  refine lv_goto (tgt := 13) hx hb d_Main_bytesAt_43 (by decide) ?_
  refine lv_iload hx hb d_Main_bytesAt_13 (lv_at hl 0 rfl) ?_
  refine lv_bipush (v := 8) hx hb d_Main_bytesAt_15 (by decide) ?_
  refine lv_icmp_ge (tgt := 46) hx hb d_Main_bytesAt_17 (by decide) (fun c17 => absurd c17 (by decide)) (fun _ => ?_)
  refine lv_lload hx hb d_Main_bytesAt_20 (lv_at hl 1 rfl) ?_
  refine lv_bipush (v := 8) hx hb d_Main_bytesAt_22 (by decide) ?_
  refine lv_lshl (v := 0) hx hb d_Main_bytesAt_24 (by decide) ?_
  refine lv_aload_n hx hb d_Main_bytesAt_25 rfl (lv_at hl 3 rfl) ?_
  refine va_get (D := (dC, dI)) (ci := 0) (v := .ref m_shown) (C := R_Main) (T := F_Main) (N := 18) hx hb hwd i_Main hown hK hP 0 rfl rfl 12 (by decide) (hwd _ wd_4_138) (fun _ h9 => h9) rfl d_Main_bytesAt_26 ?_
  refine lv_lload_n hx hb d_Main_bytesAt_29 rfl (lv_at hl 2 rfl) ?_
  refine lv_iload hx hb d_Main_bytesAt_30 (lv_at hl 0 rfl) ?_
  refine lv_i2l (v := 6) hx hb d_Main_bytesAt_32 (by decide) ?_
  refine lv_ladd hx hb d_Main_bytesAt_33 ?_
  have hPc := hP.sub (ws' := [(m_shown, .inr (7, [.ref sb, .ref stb, .int 0, .int 0, .int slk]))]) [1] rfl
  have hDc := hD.sub (ws' := [(m_shown, .inr (7, [.ref sb, .ref stb, .int 0, .int 0, .int slk]))]) [1] (by decide) rfl
  have hKc := hK.sub (tys' := []) [] rfl
  have hFc := va_free (wc := [(m_shown, .inr (7, [.ref sb, .ref stb, .int 0, .int 0, .int slk]))]) hD hS hA [1] rfl
  refine va_calll (va_runV (As := [.long ((8 * k.toInt64) + 6)]) (rest := [.long 0]) ⟨hx, hb, hml, hown, hwd⟩ (c_byteAt_0 l dC dI tt m_shown sb stb 0 slk ((8 * k.toInt64) + 6) H.size ) (cwV 1 hwd (gV gd_OutFile_byteAt wd_5_136 wd_5_137 wd_5_138 wd_1_13) rfl rfl rfl (by decide +kernel) ⟨Nat.le_of_ble_eq_true rfl, Nat.le_of_ble_eq_true rfl⟩) ⟨fun a U g mk q => by obtain ⟨q0, q1, qP, qK, qD, qF⟩ := q; exact ⟨q0, q1, qP, va_K.moved (u := U) (U := U.calling g mk a) (Vm.Alike.refl U.vm) qK, qD, SF.same (u := U) (U := U.calling g mk a) rfl qF⟩, va_recv hKc hPc (ci := 7) (q0 := 0) rfl rfl, fun U hU hW => ⟨rfl, by rw [hU], by rw [hU]; exact hPc, va_K.moved hW.alike hKc, hDc.weaken (fun _ _ _ _ => trivial), by rw [hU]; exact SF.narrow (SF.moved hW (SF.kept hF (fun a h1 h2 => hS.2.1 a h1 h2))) hFc⟩⟩ rfl rfl hl.1 rfl (lv_room (Nat.le_of_ble_eq_true rfl)) d_Main_bytesAt_34 ⟨Nat.le_of_ble_eq_true rfl, Nat.le_of_ble_eq_true rfl⟩) hS (fun q _ h => hFc q h) hFc ?_
  clear hPc hDc hKc hS
  intro r_19 u_20 t H1 locs ht hvm hw hB hz1 hk1 hS
  obtain ⟨hP1, hK1, hD1⟩ := hB
  rw [ht] at hP1
  have hK1 := va_K.moved hvm.symm hK1
  try dsimp only at hw
  have hJ := va_join (wr := [(h0, .inr (0, [.int m_dpi, .ref m_tape, .ref m_page, .ref m_sheet, .ref m_fonts, .ref m_macros, .ref m_raster, .ref m_interpreter, .ref m_picture, .ref m_coder, .ref m_reader, .ref m_file, .ref m_shown, .int m_taped, .int m_fault, .int m_ended, .int m_overruns, .int m_pictures]))]) (w1 := [(m_shown, .inr (7, [.ref sb, .ref stb, .int 0, .int 0, .int slk]))]) hP hD [1] [0] rfl rfl (by decide) (by decide) hk1 hFc hP1 hD1
  clear hP hD hk1 hFc hP1 hD1 hz1
  obtain ⟨hP, hD⟩ := hJ
  clear hK1 ht hvm
  generalize H1 = H at hP hS ⊢
  replace hP : va_P (dC, dI) vcl [(h0, .inr (0, [.int m_dpi, .ref m_tape, .ref m_page, .ref m_sheet, .ref m_fonts, .ref m_macros, .ref m_raster, .ref m_interpreter, .ref m_picture, .ref m_coder, .ref m_reader, .ref m_file, .ref m_shown, .int m_taped, .int m_fault, .int m_ended, .int m_overruns, .int m_pictures])), (m_shown, .inr (7, [.ref sb, .ref stb, .int 0, .int 0, .int slk]))] H := hP
  replace hD : va_D A [(h0, .inr (0, [.int m_dpi, .ref m_tape, .ref m_page, .ref m_sheet, .ref m_fonts, .ref m_macros, .ref m_raster, .ref m_interpreter, .ref m_picture, .ref m_coder, .ref m_reader, .ref m_file, .ref m_shown, .int m_taped, .int m_fault, .int m_ended, .int m_overruns, .int m_pictures])), (m_shown, .inr (7, [.ref sb, .ref stb, .int 0, .int 0, .int slk]))] := hD
  obtain rfl := hw
  refine lv_lor hx hb d_Main_bytesAt_37 ?_
  refine lv_topl (fun y_21 ey_21 => ?_)
  obtain rfl : y_21 = (0 : Int64) := ey_21.trans (by decide)
  refine lv_lstore (lv' := [(4, .long 0), (6, .int 6), (2, .long (8 * k.toInt64)), (0, .ref h0), (1, .int k)]) hx hb d_Main_bytesAt_38 hl (by decide) rfl ?_
  clear hl
  intro ls hl
  refine lv_iinc (v := 7) (lv' := [(6, .int 7), (4, .long 0), (2, .long (8 * k.toInt64)), (0, .ref h0), (1, .int k)]) hx hb d_Main_bytesAt_40 hl (k := 1) rfl (by decide) (by decide) rfl ?_
  clear hl
  intro ls hl
  refine lv_goto (tgt := 13) hx hb d_Main_bytesAt_43 (by decide) ?_
  refine lv_iload hx hb d_Main_bytesAt_13 (lv_at hl 0 rfl) ?_
  refine lv_bipush (v := 8) hx hb d_Main_bytesAt_15 (by decide) ?_
  refine lv_icmp_ge (tgt := 46) hx hb d_Main_bytesAt_17 (by decide) (fun c17 => absurd c17 (by decide)) (fun _ => ?_)
  refine lv_lload hx hb d_Main_bytesAt_20 (lv_at hl 1 rfl) ?_
  refine lv_bipush (v := 8) hx hb d_Main_bytesAt_22 (by decide) ?_
  refine lv_lshl (v := 0) hx hb d_Main_bytesAt_24 (by decide) ?_
  refine lv_aload_n hx hb d_Main_bytesAt_25 rfl (lv_at hl 3 rfl) ?_
  refine va_get (D := (dC, dI)) (ci := 0) (v := .ref m_shown) (C := R_Main) (T := F_Main) (N := 18) hx hb hwd i_Main hown hK hP 0 rfl rfl 12 (by decide) (hwd _ wd_4_138) (fun _ h9 => h9) rfl d_Main_bytesAt_26 ?_
  refine lv_lload_n hx hb d_Main_bytesAt_29 rfl (lv_at hl 2 rfl) ?_
  refine lv_iload hx hb d_Main_bytesAt_30 (lv_at hl 0 rfl) ?_
  refine lv_i2l (v := 7) hx hb d_Main_bytesAt_32 (by decide) ?_
  refine lv_ladd hx hb d_Main_bytesAt_33 ?_
  have hPc := hP.sub (ws' := [(m_shown, .inr (7, [.ref sb, .ref stb, .int 0, .int 0, .int slk]))]) [1] rfl
  have hDc := hD.sub (ws' := [(m_shown, .inr (7, [.ref sb, .ref stb, .int 0, .int 0, .int slk]))]) [1] (by decide) rfl
  have hKc := hK.sub (tys' := []) [] rfl
  have hFc := va_free (wc := [(m_shown, .inr (7, [.ref sb, .ref stb, .int 0, .int 0, .int slk]))]) hD hS hA [1] rfl
  refine va_calll (va_runV (As := [.long ((8 * k.toInt64) + 7)]) (rest := [.long 0]) ⟨hx, hb, hml, hown, hwd⟩ (c_byteAt_0 l dC dI tt m_shown sb stb 0 slk ((8 * k.toInt64) + 7) H.size ) (cwV 1 hwd (gV gd_OutFile_byteAt wd_5_136 wd_5_137 wd_5_138 wd_1_13) rfl rfl rfl (by decide +kernel) ⟨Nat.le_of_ble_eq_true rfl, Nat.le_of_ble_eq_true rfl⟩) ⟨fun a U g mk q => by obtain ⟨q0, q1, qP, qK, qD, qF⟩ := q; exact ⟨q0, q1, qP, va_K.moved (u := U) (U := U.calling g mk a) (Vm.Alike.refl U.vm) qK, qD, SF.same (u := U) (U := U.calling g mk a) rfl qF⟩, va_recv hKc hPc (ci := 7) (q0 := 0) rfl rfl, fun U hU hW => ⟨rfl, by rw [hU], by rw [hU]; exact hPc, va_K.moved hW.alike hKc, hDc.weaken (fun _ _ _ _ => trivial), by rw [hU]; exact SF.narrow (SF.moved hW (SF.kept hF (fun a h1 h2 => hS.2.1 a h1 h2))) hFc⟩⟩ rfl rfl hl.1 rfl (lv_room (Nat.le_of_ble_eq_true rfl)) d_Main_bytesAt_34 ⟨Nat.le_of_ble_eq_true rfl, Nat.le_of_ble_eq_true rfl⟩) hS (fun q _ h => hFc q h) hFc ?_
  clear hPc hDc hKc hS
  intro r_22 u_23 t H1 locs ht hvm hw hB hz1 hk1 hS
  obtain ⟨hP1, hK1, hD1⟩ := hB
  rw [ht] at hP1
  have hK1 := va_K.moved hvm.symm hK1
  try dsimp only at hw
  have hJ := va_join (wr := [(h0, .inr (0, [.int m_dpi, .ref m_tape, .ref m_page, .ref m_sheet, .ref m_fonts, .ref m_macros, .ref m_raster, .ref m_interpreter, .ref m_picture, .ref m_coder, .ref m_reader, .ref m_file, .ref m_shown, .int m_taped, .int m_fault, .int m_ended, .int m_overruns, .int m_pictures]))]) (w1 := [(m_shown, .inr (7, [.ref sb, .ref stb, .int 0, .int 0, .int slk]))]) hP hD [1] [0] rfl rfl (by decide) (by decide) hk1 hFc hP1 hD1
  clear hP hD hk1 hFc hP1 hD1 hz1
  obtain ⟨hP, hD⟩ := hJ
  clear hK1 ht hvm
  generalize H1 = H at hP hS ⊢
  replace hP : va_P (dC, dI) vcl [(h0, .inr (0, [.int m_dpi, .ref m_tape, .ref m_page, .ref m_sheet, .ref m_fonts, .ref m_macros, .ref m_raster, .ref m_interpreter, .ref m_picture, .ref m_coder, .ref m_reader, .ref m_file, .ref m_shown, .int m_taped, .int m_fault, .int m_ended, .int m_overruns, .int m_pictures])), (m_shown, .inr (7, [.ref sb, .ref stb, .int 0, .int 0, .int slk]))] H := hP
  replace hD : va_D A [(h0, .inr (0, [.int m_dpi, .ref m_tape, .ref m_page, .ref m_sheet, .ref m_fonts, .ref m_macros, .ref m_raster, .ref m_interpreter, .ref m_picture, .ref m_coder, .ref m_reader, .ref m_file, .ref m_shown, .int m_taped, .int m_fault, .int m_ended, .int m_overruns, .int m_pictures])), (m_shown, .inr (7, [.ref sb, .ref stb, .int 0, .int 0, .int slk]))] := hD
  obtain rfl := hw
  refine lv_lor hx hb d_Main_bytesAt_37 ?_
  refine lv_topl (fun y_24 ey_24 => ?_)
  obtain rfl : y_24 = (0 : Int64) := ey_24.trans (by decide)
  refine lv_lstore (lv' := [(4, .long 0), (6, .int 7), (2, .long (8 * k.toInt64)), (0, .ref h0), (1, .int k)]) hx hb d_Main_bytesAt_38 hl (by decide) rfl ?_
  clear hl
  intro ls hl
  refine lv_iinc (v := 8) (lv' := [(6, .int 8), (4, .long 0), (2, .long (8 * k.toInt64)), (0, .ref h0), (1, .int k)]) hx hb d_Main_bytesAt_40 hl (k := 1) rfl (by decide) (by decide) rfl ?_
  clear hl
  intro ls hl
  refine lv_goto (tgt := 13) hx hb d_Main_bytesAt_43 (by decide) ?_
  refine lv_iload hx hb d_Main_bytesAt_13 (lv_at hl 0 rfl) ?_
  refine lv_bipush (v := 8) hx hb d_Main_bytesAt_15 (by decide) ?_
  refine lv_icmp_ge (tgt := 46) hx hb d_Main_bytesAt_17 (by decide) (fun _ => ?_) (fun c17 => absurd (by decide) c17)
  refine lv_lload hx hb d_Main_bytesAt_46 (lv_at hl 1 rfl) ?_
  have hP9 := hP.sub (ws' := [(h0, .inr (0, [.int m_dpi, .ref m_tape, .ref m_page, .ref m_sheet, .ref m_fonts, .ref m_macros, .ref m_raster, .ref m_interpreter, .ref m_picture, .ref m_coder, .ref m_reader, .ref m_file, .ref m_shown, .int m_taped, .int m_fault, .int m_ended, .int m_overruns, .int m_pictures])), (m_shown, .inr (7, [.ref sb, .ref stb, .int 0, .int 0, .int slk]))]) [0, 1] rfl
  have hD9 := hD.sub (ws' := [(h0, .inr (0, [.int m_dpi, .ref m_tape, .ref m_page, .ref m_sheet, .ref m_fonts, .ref m_macros, .ref m_raster, .ref m_interpreter, .ref m_picture, .ref m_coder, .ref m_reader, .ref m_file, .ref m_shown, .int m_taped, .int m_fault, .int m_ended, .int m_overruns, .int m_pictures])), (m_shown, .inr (7, [.ref sb, .ref stb, .int 0, .int 0, .int slk]))]) [0, 1] (by decide) rfl
  have hK9 := hK.sub (tys' := []) [] rfl
  exact W.lret (v := 0) hx hb hr (fun t ht hW => ⟨⟨0, (), rfl, (show (0 : Int64) = 0 from (by first | exact trivial | rfl | simp [*])), by rw [ht]; exact hP9, va_K.moved hW.alike hK9, hD9⟩, hS.F ht⟩) hS.2.2 d_Main_bytesAt_48

abbrev at_c_printed_0 (dC : Nat → ClassId) (dI : Nat → Nat → Nat) (h0 : Nat) (m_dpi : Int32) (m_tape : Nat) (m_page : Nat) (m_sheet : Nat) (m_fonts : Nat) (m_macros : Nat) (m_raster : Nat) (m_interpreter : Nat) (m_picture : Nat) (m_coder : Nat) (m_reader : Nat) (m_file : Nat) (m_shown : Nat) (m_taped : Int32) (m_fault : Int32) (m_ended : Int32) (m_overruns : Int32) (m_pictures : Int32) (sb : Nat) (stb : Nat) (slk : Int32) (pp : Int32) (y : Int32) (k : Int32) (A : Nat → Prop) (u : Unit) (t : State) : Prop := match u with
  | _ => va_P (dC, dI) vcl [(h0, .inr (0, [.int m_dpi, .ref m_tape, .ref m_page, .ref m_sheet, .ref m_fonts, .ref m_macros, .ref m_raster, .ref m_interpreter, .ref m_picture, .ref m_coder, .ref m_reader, .ref m_file, .ref m_shown, .int m_taped, .int m_fault, .int m_ended, .int m_overruns, .int m_pictures])), (m_shown, .inr (7, [.ref sb, .ref stb, .int 0, .int 0, .int slk]))] t.heap ∧ va_K (dC, dI) vcl [] t ∧ va_D A [(h0, .inr (0, [.int m_dpi, .ref m_tape, .ref m_page, .ref m_sheet, .ref m_fonts, .ref m_macros, .ref m_raster, .ref m_interpreter, .ref m_picture, .ref m_coder, .ref m_reader, .ref m_file, .ref m_shown, .int m_taped, .int m_fault, .int m_ended, .int m_overruns, .int m_pictures])), (m_shown, .inr (7, [.ref sb, .ref stb, .int 0, .int 0, .int slk]))]
abbrev po_c_printed_0 (h0 : Nat) (m_dpi : Int32) (m_tape : Nat) (m_page : Nat) (m_sheet : Nat) (m_fonts : Nat) (m_macros : Nat) (m_raster : Nat) (m_interpreter : Nat) (m_picture : Nat) (m_coder : Nat) (m_reader : Nat) (m_file : Nat) (m_shown : Nat) (m_taped : Int32) (m_fault : Int32) (m_ended : Int32) (m_overruns : Int32) (m_pictures : Int32) (sb : Nat) (stb : Nat) (slk : Int32) (pp : Int32) (y : Int32) (k : Int32) (r : Int64) (u : Unit) : Prop := match u with
  | _ => r = 0
abbrev q_c_printed_0 (dC : Nat → ClassId) (dI : Nat → Nat → Nat) (h0 : Nat) (m_dpi : Int32) (m_tape : Nat) (m_page : Nat) (m_sheet : Nat) (m_fonts : Nat) (m_macros : Nat) (m_raster : Nat) (m_interpreter : Nat) (m_picture : Nat) (m_coder : Nat) (m_reader : Nat) (m_file : Nat) (m_shown : Nat) (m_taped : Int32) (m_fault : Int32) (m_ended : Int32) (m_overruns : Int32) (m_pictures : Int32) (sb : Nat) (stb : Nat) (slk : Int32) (pp : Int32) (y : Int32) (k : Int32) (A : Nat → Prop) : Array Value → State → Outcome → State → Prop := va_Ql (po_c_printed_0 h0 m_dpi m_tape m_page m_sheet m_fonts m_macros m_raster m_interpreter m_picture m_coder m_reader m_file m_shown m_taped m_fault m_ended m_overruns m_pictures sb stb slk pp y k) (at_c_printed_0 dC dI h0 m_dpi m_tape m_page m_sheet m_fonts m_macros m_raster m_interpreter m_picture m_coder m_reader m_file m_shown m_taped m_fault m_ended m_overruns m_pictures sb stb slk pp y k A) A
abbrev rm_c_printed_0 : Room := { frames := 0, cells := 0, slots := 0, locals := 0 }
set_option maxHeartbeats 4000000 in
set_option maxRecDepth 100000 in
theorem c_printed_0 (l : Launch) (dC : Nat → ClassId) (dI : Nat → Nat → Nat) (tt : Nat → Nat) (h0 : Nat) (m_dpi : Int32) (m_tape : Nat) (m_page : Nat) (m_sheet : Nat) (m_fonts : Nat) (m_macros : Nat) (m_raster : Nat) (m_interpreter : Nat) (m_picture : Nat) (m_coder : Nat) (m_reader : Nat) (m_file : Nat) (m_shown : Nat) (m_taped : Int32) (m_fault : Int32) (m_ended : Int32) (m_overruns : Int32) (m_pictures : Int32) (sb : Nat) (stb : Nat) (slk : Int32) (pp : Int32) (y : Int32) (k : Int32) (sz : Nat)  : Met l y_Main_printed w_Main_printed rm_c_printed_0 (va_Pc [.ref h0, .int pp, .int y, .int k] (fun U => U.heap.size = sz ∧ va_P (dC, dI) vcl [(h0, .inr (0, [.int m_dpi, .ref m_tape, .ref m_page, .ref m_sheet, .ref m_fonts, .ref m_macros, .ref m_raster, .ref m_interpreter, .ref m_picture, .ref m_coder, .ref m_reader, .ref m_file, .ref m_shown, .int m_taped, .int m_fault, .int m_ended, .int m_overruns, .int m_pictures])), (m_shown, .inr (7, [.ref sb, .ref stb, .int 0, .int 0, .int slk]))] U.heap ∧ va_K (dC, dI) vcl [] U ∧ va_D (fun _ => True) [(h0, .inr (0, [.int m_dpi, .ref m_tape, .ref m_page, .ref m_sheet, .ref m_fonts, .ref m_macros, .ref m_raster, .ref m_interpreter, .ref m_picture, .ref m_coder, .ref m_reader, .ref m_file, .ref m_shown, .int m_taped, .int m_fault, .int m_ended, .int m_overruns, .int m_pictures])), (m_shown, .inr (7, [.ref sb, .ref stb, .int 0, .int 0, .int slk]))] ∧ SF tt (va_A [(h0, .inr (0, [.int m_dpi, .ref m_tape, .ref m_page, .ref m_sheet, .ref m_fonts, .ref m_macros, .ref m_raster, .ref m_interpreter, .ref m_picture, .ref m_coder, .ref m_reader, .ref m_file, .ref m_shown, .int m_taped, .int m_fault, .int m_ended, .int m_overruns, .int m_pictures])), (m_shown, .inr (7, [.ref sb, .ref stb, .int 0, .int 0, .int slk]))] sz) U U.heap)) (q_c_printed_0 dC dI h0 m_dpi m_tape m_page m_sheet m_fonts m_macros m_raster m_interpreter m_picture m_coder m_reader m_file m_shown m_taped m_fault m_ended m_overruns m_pictures sb stb slk pp y k (va_A [(h0, .inr (0, [.int m_dpi, .ref m_tape, .ref m_page, .ref m_sheet, .ref m_fonts, .ref m_macros, .ref m_raster, .ref m_interpreter, .ref m_picture, .ref m_coder, .ref m_reader, .ref m_file, .ref m_shown, .int m_taped, .int m_fault, .int m_ended, .int m_overruns, .int m_pictures])), (m_shown, .inr (7, [.ref sb, .ref stb, .int 0, .int 0, .int slk]))] sz)) 0 0 (va_A [(h0, .inr (0, [.int m_dpi, .ref m_tape, .ref m_page, .ref m_sheet, .ref m_fonts, .ref m_macros, .ref m_raster, .ref m_interpreter, .ref m_picture, .ref m_coder, .ref m_reader, .ref m_file, .ref m_shown, .int m_taped, .int m_fault, .int m_ended, .int m_overruns, .int m_pictures])), (m_shown, .inr (7, [.ref sb, .ref stb, .int 0, .int 0, .int slk]))] sz) := by
  refine Met.ofW (cc := b_Main_printed) (maxL := 6) (ret := (some .long)) (by decide) rfl ?_
  intro p e s m args below meth c s₁ B hml hv
  obtain ⟨rfl, hsz, hP, hK, hD0, hF⟩ := hv
  have hx := B.exec
  have hb := B.bytes
  have hr := B.returns
  have hwd : ∀ w ∈ gT, w.before _ s = true := fun w h => atoms_spec (ws := w_Main_printed) B.pre w (List.mem_cons_of_mem _ h)
  have hown : s.vm.findClass R_Main = some m.cls := findClass_of_methodNamed B.named
  have hlocks := B.notSynchronized
  subst hsz
  have hD := hD0.self (sz := s.heap.size)
  generalize hAe : va_A [(h0, .inr (0, [.int m_dpi, .ref m_tape, .ref m_page, .ref m_sheet, .ref m_fonts, .ref m_macros, .ref m_raster, .ref m_interpreter, .ref m_picture, .ref m_coder, .ref m_reader, .ref m_file, .ref m_shown, .int m_taped, .int m_fault, .int m_ended, .int m_overruns, .int m_pictures])), (m_shown, .inr (7, [.ref sb, .ref stb, .int 0, .int 0, .int slk]))] s.heap.size = A at hD hF ⊢
  have hA : ∀ q : Nat, s.heap.size ≤ q → A q := fun q h => by rw [← hAe]; exact Or.inr h
  have hS : va_S A s.heap s.heap [] := va_S.rf
  have hP : va_P (dC, dI) vcl [(h0, .inr (0, [.int m_dpi, .ref m_tape, .ref m_page, .ref m_sheet, .ref m_fonts, .ref m_macros, .ref m_raster, .ref m_interpreter, .ref m_picture, .ref m_coder, .ref m_reader, .ref m_file, .ref m_shown, .int m_taped, .int m_fault, .int m_ended, .int m_overruns, .int m_pictures])), (m_shown, .inr (7, [.ref sb, .ref stb, .int 0, .int 0, .int slk]))] s.heap := hP
  have hl := lv_entry ([.ref h0, .int pp, .int y, .int k]) (n := 6) (Nat.le_of_ble_eq_true rfl)
  rw [lg_entry_eq]
  generalize (lg_sl ([.ref h0, .int pp, .int y, .int k]) ++ List.replicate (6 - (lg_sl ([.ref h0, .int pp, .int y, .int k])).length) Slot.unset).toArray = ls at hl ⊢
  have hl : lv_has ls 6 [(0, .ref h0), (1, .int pp), (2, .int y), (3, .int k)] := hl
  refine lv_iload_n hx hb d_Main_printed_0 rfl (lv_at hl 1 rfl) ?_
  refine lv_if_lt (tgt := 32) hx hb d_Main_printed_1 (by decide) (fun c1 => ?_) (fun c1 => ?_)
  · refine lv_lconst (v := 0) hx hb d_Main_printed_32 (by decide) ?_
    have hP9 := hP.sub (ws' := [(h0, .inr (0, [.int m_dpi, .ref m_tape, .ref m_page, .ref m_sheet, .ref m_fonts, .ref m_macros, .ref m_raster, .ref m_interpreter, .ref m_picture, .ref m_coder, .ref m_reader, .ref m_file, .ref m_shown, .int m_taped, .int m_fault, .int m_ended, .int m_overruns, .int m_pictures])), (m_shown, .inr (7, [.ref sb, .ref stb, .int 0, .int 0, .int slk]))]) [0, 1] rfl
    have hD9 := hD.sub (ws' := [(h0, .inr (0, [.int m_dpi, .ref m_tape, .ref m_page, .ref m_sheet, .ref m_fonts, .ref m_macros, .ref m_raster, .ref m_interpreter, .ref m_picture, .ref m_coder, .ref m_reader, .ref m_file, .ref m_shown, .int m_taped, .int m_fault, .int m_ended, .int m_overruns, .int m_pictures])), (m_shown, .inr (7, [.ref sb, .ref stb, .int 0, .int 0, .int slk]))]) [0, 1] (by decide) rfl
    have hK9 := hK.sub (tys' := []) [] rfl
    exact W.lret (v := 0) hx hb hr (fun t ht hW => ⟨⟨0, (), rfl, (show (0 : Int64) = 0 from (by first | exact trivial | rfl | simp [*])), by rw [ht]; exact hP9, va_K.moved hW.alike hK9, hD9⟩, hS.F ht⟩) hS.2.2 d_Main_printed_33
  · refine lv_iload_n hx hb d_Main_printed_4 rfl (lv_at hl 1 rfl) ?_
    refine lv_aload_n hx hb d_Main_printed_5 rfl (lv_at hl 0 rfl) ?_
    refine va_get (D := (dC, dI)) (ci := 0) (v := .ref m_shown) (C := R_Main) (T := F_Main) (N := 18) hx hb hwd i_Main hown hK hP 0 rfl rfl 12 (by decide) (hwd _ wd_4_138) (fun _ h9 => h9) rfl d_Main_printed_6 ?_
    refine va_get (D := (dC, dI)) (ci := 7) (v := .int 0) (C := R_OutFile) (T := F_OutFile) (N := 5) hx hb hwd i_OutFile hown hK hP 1 rfl rfl 3 (by decide) (hwd _ wd_3_222) (fun _ h9 => h9) rfl d_Main_printed_9 ?_
    refine lv_icmp_ge (tgt := 32) hx hb d_Main_printed_12 (by decide) (fun c12 => ?_) (fun c12 => absurd (Int32.not_lt.mp c1) c12)
    refine lv_lconst (v := 0) hx hb d_Main_printed_32 (by decide) ?_
    have hP9 := hP.sub (ws' := [(h0, .inr (0, [.int m_dpi, .ref m_tape, .ref m_page, .ref m_sheet, .ref m_fonts, .ref m_macros, .ref m_raster, .ref m_interpreter, .ref m_picture, .ref m_coder, .ref m_reader, .ref m_file, .ref m_shown, .int m_taped, .int m_fault, .int m_ended, .int m_overruns, .int m_pictures])), (m_shown, .inr (7, [.ref sb, .ref stb, .int 0, .int 0, .int slk]))]) [0, 1] rfl
    have hD9 := hD.sub (ws' := [(h0, .inr (0, [.int m_dpi, .ref m_tape, .ref m_page, .ref m_sheet, .ref m_fonts, .ref m_macros, .ref m_raster, .ref m_interpreter, .ref m_picture, .ref m_coder, .ref m_reader, .ref m_file, .ref m_shown, .int m_taped, .int m_fault, .int m_ended, .int m_overruns, .int m_pictures])), (m_shown, .inr (7, [.ref sb, .ref stb, .int 0, .int 0, .int slk]))]) [0, 1] (by decide) rfl
    have hK9 := hK.sub (tys' := []) [] rfl
    exact W.lret (v := 0) hx hb hr (fun t ht hW => ⟨⟨0, (), rfl, (show (0 : Int64) = 0 from (by first | exact trivial | rfl | simp [*])), by rw [ht]; exact hP9, va_K.moved hW.alike hK9, hD9⟩, hS.F ht⟩) hS.2.2 d_Main_printed_33

abbrev at_c_chosenSlot_0 (dC : Nat → ClassId) (dI : Nat → Nat → Nat) (h0 : Nat) (s_ids : Nat) (s_attributes : Nat) (s_permanent : Nat) (s_fonts : Int32) (s_glyphs : Nat) (s_glyphCount : Int32) (s_dots : Nat) (s_used : Int32) (s_wishes : Nat) (s_pins : Nat) (s_id : Int32) (s_code : Int32) (s_chosen : Nat) (s_chosenKnown : Int32) (s_left : Nat) (s_coming : Nat) (cc : ClassId) (ch : Nat → Int32) (ci : ClassId) (fi : Nat → Int32) (A : Nat → Prop) (u : Unit) (t : State) : Prop := match u with
  | _ => va_P (dC, dI) vcl [(h0, .inr (3, [.ref s_ids, .ref s_attributes, .ref s_permanent, .int s_fonts, .ref s_glyphs, .int s_glyphCount, .ref s_dots, .int s_used, .ref s_wishes, .ref s_pins, .int s_id, .int s_code, .ref s_chosen, .int s_chosenKnown, .ref s_left, .ref s_coming])), (s_chosen, .inl (cc, 2, .inl ch)), (s_ids, .inl (ci, 32, .inl fi))] t.heap ∧ va_K (dC, dI) vcl [(cc, .int), (ci, .int)] t ∧ va_D A [(h0, .inr (3, [.ref s_ids, .ref s_attributes, .ref s_permanent, .int s_fonts, .ref s_glyphs, .int s_glyphCount, .ref s_dots, .int s_used, .ref s_wishes, .ref s_pins, .int s_id, .int s_code, .ref s_chosen, .int s_chosenKnown, .ref s_left, .ref s_coming])), (s_chosen, .inl (cc, 2, .inl ch)), (s_ids, .inl (ci, 32, .inl fi))]
abbrev po_c_chosenSlot_0 (h0 : Nat) (s_ids : Nat) (s_attributes : Nat) (s_permanent : Nat) (s_fonts : Int32) (s_glyphs : Nat) (s_glyphCount : Int32) (s_dots : Nat) (s_used : Int32) (s_wishes : Nat) (s_pins : Nat) (s_id : Int32) (s_code : Int32) (s_chosen : Nat) (s_chosenKnown : Int32) (s_left : Nat) (s_coming : Nat) (cc : ClassId) (ch : Nat → Int32) (ci : ClassId) (fi : Nat → Int32) (r : Int32) (u : Unit) : Prop := match u with
  | _ => r = (-1)
abbrev q_c_chosenSlot_0 (dC : Nat → ClassId) (dI : Nat → Nat → Nat) (h0 : Nat) (s_ids : Nat) (s_attributes : Nat) (s_permanent : Nat) (s_fonts : Int32) (s_glyphs : Nat) (s_glyphCount : Int32) (s_dots : Nat) (s_used : Int32) (s_wishes : Nat) (s_pins : Nat) (s_id : Int32) (s_code : Int32) (s_chosen : Nat) (s_chosenKnown : Int32) (s_left : Nat) (s_coming : Nat) (cc : ClassId) (ch : Nat → Int32) (ci : ClassId) (fi : Nat → Int32) (A : Nat → Prop) : Array Value → State → Outcome → State → Prop := va_Qi (po_c_chosenSlot_0 h0 s_ids s_attributes s_permanent s_fonts s_glyphs s_glyphCount s_dots s_used s_wishes s_pins s_id s_code s_chosen s_chosenKnown s_left s_coming cc ch ci fi) (at_c_chosenSlot_0 dC dI h0 s_ids s_attributes s_permanent s_fonts s_glyphs s_glyphCount s_dots s_used s_wishes s_pins s_id s_code s_chosen s_chosenKnown s_left s_coming cc ch ci fi A) A
abbrev rm_c_chosenSlot_0 : Room := { frames := 0, cells := 0, slots := 0, locals := 0 }
set_option maxHeartbeats 4000000 in
set_option maxRecDepth 100000 in
theorem c_chosenSlot_0 (l : Launch) (dC : Nat → ClassId) (dI : Nat → Nat → Nat) (tt : Nat → Nat) (h0 : Nat) (s_ids : Nat) (s_attributes : Nat) (s_permanent : Nat) (s_fonts : Int32) (s_glyphs : Nat) (s_glyphCount : Int32) (s_dots : Nat) (s_used : Int32) (s_wishes : Nat) (s_pins : Nat) (s_id : Int32) (s_code : Int32) (s_chosen : Nat) (s_chosenKnown : Int32) (s_left : Nat) (s_coming : Nat) (cc : ClassId) (ch : Nat → Int32) (ci : ClassId) (fi : Nat → Int32) (sz : Nat) (hc : ch 0 = -1) : Met l y_FontShelf_chosenSlot w_FontShelf_chosenSlot rm_c_chosenSlot_0 (va_Pc [.ref h0, .int 0] (fun U => U.heap.size = sz ∧ va_P (dC, dI) vcl [(h0, .inr (3, [.ref s_ids, .ref s_attributes, .ref s_permanent, .int s_fonts, .ref s_glyphs, .int s_glyphCount, .ref s_dots, .int s_used, .ref s_wishes, .ref s_pins, .int s_id, .int s_code, .ref s_chosen, .int s_chosenKnown, .ref s_left, .ref s_coming])), (s_chosen, .inl (cc, 2, .inl ch)), (s_ids, .inl (ci, 32, .inl fi))] U.heap ∧ va_K (dC, dI) vcl [(cc, .int), (ci, .int)] U ∧ va_D (fun _ => True) [(h0, .inr (3, [.ref s_ids, .ref s_attributes, .ref s_permanent, .int s_fonts, .ref s_glyphs, .int s_glyphCount, .ref s_dots, .int s_used, .ref s_wishes, .ref s_pins, .int s_id, .int s_code, .ref s_chosen, .int s_chosenKnown, .ref s_left, .ref s_coming])), (s_chosen, .inl (cc, 2, .inl ch)), (s_ids, .inl (ci, 32, .inl fi))] ∧ SF tt (va_A [(h0, .inr (3, [.ref s_ids, .ref s_attributes, .ref s_permanent, .int s_fonts, .ref s_glyphs, .int s_glyphCount, .ref s_dots, .int s_used, .ref s_wishes, .ref s_pins, .int s_id, .int s_code, .ref s_chosen, .int s_chosenKnown, .ref s_left, .ref s_coming])), (s_chosen, .inl (cc, 2, .inl ch)), (s_ids, .inl (ci, 32, .inl fi))] sz) U U.heap)) (q_c_chosenSlot_0 dC dI h0 s_ids s_attributes s_permanent s_fonts s_glyphs s_glyphCount s_dots s_used s_wishes s_pins s_id s_code s_chosen s_chosenKnown s_left s_coming cc ch ci fi (va_A [(h0, .inr (3, [.ref s_ids, .ref s_attributes, .ref s_permanent, .int s_fonts, .ref s_glyphs, .int s_glyphCount, .ref s_dots, .int s_used, .ref s_wishes, .ref s_pins, .int s_id, .int s_code, .ref s_chosen, .int s_chosenKnown, .ref s_left, .ref s_coming])), (s_chosen, .inl (cc, 2, .inl ch)), (s_ids, .inl (ci, 32, .inl fi))] sz)) 0 0 (va_A [(h0, .inr (3, [.ref s_ids, .ref s_attributes, .ref s_permanent, .int s_fonts, .ref s_glyphs, .int s_glyphCount, .ref s_dots, .int s_used, .ref s_wishes, .ref s_pins, .int s_id, .int s_code, .ref s_chosen, .int s_chosenKnown, .ref s_left, .ref s_coming])), (s_chosen, .inl (cc, 2, .inl ch)), (s_ids, .inl (ci, 32, .inl fi))] sz) := by
  refine Met.ofW (cc := b_FontShelf_chosenSlot) (maxL := 3) (ret := (some .int)) (by decide) rfl ?_
  intro p e s m args below meth c s₁ B hml hv
  obtain ⟨rfl, hsz, hP, hK, hD0, hF⟩ := hv
  have hx := B.exec
  have hb := B.bytes
  have hr := B.returns
  have hwd : ∀ w ∈ gT, w.before _ s = true := fun w h => atoms_spec (ws := w_FontShelf_chosenSlot) B.pre w (List.mem_cons_of_mem _ h)
  have hown : s.vm.findClass R_FontShelf = some m.cls := findClass_of_methodNamed B.named
  have hlocks := B.notSynchronized
  subst hsz
  have hD := hD0.self (sz := s.heap.size)
  generalize hAe : va_A [(h0, .inr (3, [.ref s_ids, .ref s_attributes, .ref s_permanent, .int s_fonts, .ref s_glyphs, .int s_glyphCount, .ref s_dots, .int s_used, .ref s_wishes, .ref s_pins, .int s_id, .int s_code, .ref s_chosen, .int s_chosenKnown, .ref s_left, .ref s_coming])), (s_chosen, .inl (cc, 2, .inl ch)), (s_ids, .inl (ci, 32, .inl fi))] s.heap.size = A at hD hF ⊢
  have hA : ∀ q : Nat, s.heap.size ≤ q → A q := fun q h => by rw [← hAe]; exact Or.inr h
  have hS : va_S A s.heap s.heap [] := va_S.rf
  have hP : va_P (dC, dI) vcl [(h0, .inr (3, [.ref s_ids, .ref s_attributes, .ref s_permanent, .int s_fonts, .ref s_glyphs, .int s_glyphCount, .ref s_dots, .int s_used, .ref s_wishes, .ref s_pins, .int s_id, .int s_code, .ref s_chosen, .int s_chosenKnown, .ref s_left, .ref s_coming])), (s_chosen, .inl (cc, 2, .inl ch)), (s_ids, .inl (ci, 32, .inl fi))] s.heap := hP
  have hl := lv_entry ([.ref h0, .int 0]) (n := 3) (Nat.le_of_ble_eq_true rfl)
  rw [lg_entry_eq]
  generalize (lg_sl ([.ref h0, .int 0]) ++ List.replicate (3 - (lg_sl ([.ref h0, .int 0])).length) Slot.unset).toArray = ls at hl ⊢
  have hl : lv_has ls 3 [(0, .ref h0), (1, .int 0)] := hl
  refine lv_iload_n hx hb d_FontShelf_chosenSlot_0 rfl (lv_at hl 1 rfl) ?_
  refine lv_if_lt (tgt := 22) hx hb d_FontShelf_chosenSlot_1 (by decide) (fun c1 => absurd c1 (by decide)) (fun _ => ?_)
  refine lv_iload_n hx hb d_FontShelf_chosenSlot_4 rfl (lv_at hl 1 rfl) ?_
  refine lv_aload_n hx hb d_FontShelf_chosenSlot_5 rfl (lv_at hl 0 rfl) ?_
  refine va_get (D := (dC, dI)) (ci := 3) (v := .ref s_chosen) (C := R_FontShelf) (T := F_FontShelf) (N := 16) hx hb hwd i_FontShelf hown hK hP 0 rfl rfl 12 (by decide) (hwd _ wd_2_113) (fun _ h9 => h9) rfl d_FontShelf_chosenSlot_6 ?_
  refine va_alen (v := 2) hx hb hK hP 1 0 rfl rfl rfl d_FontShelf_chosenSlot_9 ?_
  refine lv_icmp_ge (tgt := 22) hx hb d_FontShelf_chosenSlot_10 (by decide) (fun c10 => absurd c10 (by decide)) (fun _ => ?_)
  refine lv_aload_n hx hb d_FontShelf_chosenSlot_13 rfl (lv_at hl 0 rfl) ?_
  refine va_get (D := (dC, dI)) (ci := 3) (v := .ref s_chosen) (C := R_FontShelf) (T := F_FontShelf) (N := 16) hx hb hwd i_FontShelf hown hK hP 0 rfl rfl 12 (by decide) (hwd _ wd_2_113) (fun _ h9 => h9) rfl d_FontShelf_chosenSlot_14 ?_
  refine lv_iload_n hx hb d_FontShelf_chosenSlot_17 rfl (lv_at hl 1 rfl) ?_
  refine va_iald hx hb hK hP 1 0 rfl rfl (show ¬ ((0 : Int32) < 0 ∨ 2 ≤ (0 : Int32).toNatClampNeg) by decide) d_FontShelf_chosenSlot_18 ?_
  refine lv_topi (fun y_1 ey_1 => ?_)
  obtain rfl : y_1 = ch 0 := ey_1.trans (by rw [show (0 : Int32).toNatClampNeg = 0 by decide])
  refine lv_topi (fun y_2 ey_2 => ?_)
  obtain rfl : y_2 = (-1) := ey_2.trans (hc)
  refine lv_goto (tgt := 23) hx hb d_FontShelf_chosenSlot_19 (by decide) ?_
  refine lv_istore_n (lv' := [(2, .int (-1)), (0, .ref h0), (1, .int 0)]) hx hb d_FontShelf_chosenSlot_23 rfl hl (by decide) rfl ?_
  clear hl
  intro ls hl
  refine lv_iload_n hx hb d_FontShelf_chosenSlot_24 rfl (lv_at hl 0 rfl) ?_
  refine lv_aload_n hx hb d_FontShelf_chosenSlot_25 rfl (lv_at hl 1 rfl) ?_
  refine va_get (D := (dC, dI)) (ci := 3) (v := .ref s_ids) (C := R_FontShelf) (T := F_FontShelf) (N := 16) hx hb hwd i_FontShelf hown hK hP 0 rfl rfl 0 (by decide) (hwd _ wd_2_98) (fun _ h9 => h9) rfl d_FontShelf_chosenSlot_26 ?_
  refine va_alen (v := 32) hx hb hK hP 2 1 rfl rfl rfl d_FontShelf_chosenSlot_29 ?_
  refine lv_icmp_ge (tgt := 37) hx hb d_FontShelf_chosenSlot_30 (by decide) (fun c30 => absurd c30 (by decide)) (fun _ => ?_)
  refine lv_iload_n hx hb d_FontShelf_chosenSlot_33 rfl (lv_at hl 0 rfl) ?_
  refine lv_goto (tgt := 38) hx hb d_FontShelf_chosenSlot_34 (by decide) ?_
  have hP9 := hP.sub (ws' := [(h0, .inr (3, [.ref s_ids, .ref s_attributes, .ref s_permanent, .int s_fonts, .ref s_glyphs, .int s_glyphCount, .ref s_dots, .int s_used, .ref s_wishes, .ref s_pins, .int s_id, .int s_code, .ref s_chosen, .int s_chosenKnown, .ref s_left, .ref s_coming])), (s_chosen, .inl (cc, 2, .inl ch)), (s_ids, .inl (ci, 32, .inl fi))]) [0, 1, 2] rfl
  have hD9 := hD.sub (ws' := [(h0, .inr (3, [.ref s_ids, .ref s_attributes, .ref s_permanent, .int s_fonts, .ref s_glyphs, .int s_glyphCount, .ref s_dots, .int s_used, .ref s_wishes, .ref s_pins, .int s_id, .int s_code, .ref s_chosen, .int s_chosenKnown, .ref s_left, .ref s_coming])), (s_chosen, .inl (cc, 2, .inl ch)), (s_ids, .inl (ci, 32, .inl fi))]) [0, 1, 2] (by decide) rfl
  have hK9 := hK.sub (tys' := [(cc, .int), (ci, .int)]) [0, 1] rfl
  exact W.iret (v := (-1)) hx hb hr (fun t ht hW => ⟨⟨(-1), (), rfl, (show ((-1) : Int32) = (-1) from (by first | exact trivial | rfl | simp [*])), by rw [ht]; exact hP9, va_K.moved hW.alike hK9, hD9⟩, hS.F ht⟩) hS.2.2 d_FontShelf_chosenSlot_38

abbrev at_c_chosenId_0 (dC : Nat → ClassId) (dI : Nat → Nat → Nat) (h0 : Nat) (s_ids : Nat) (s_attributes : Nat) (s_permanent : Nat) (s_fonts : Int32) (s_glyphs : Nat) (s_glyphCount : Int32) (s_dots : Nat) (s_used : Int32) (s_wishes : Nat) (s_pins : Nat) (s_id : Int32) (s_code : Int32) (s_chosen : Nat) (s_chosenKnown : Int32) (s_left : Nat) (s_coming : Nat) (cc : ClassId) (ch : Nat → Int32) (ci : ClassId) (fi : Nat → Int32) (A : Nat → Prop) (u : Unit) (t : State) : Prop := match u with
  | _ => va_P (dC, dI) vcl [(h0, .inr (3, [.ref s_ids, .ref s_attributes, .ref s_permanent, .int s_fonts, .ref s_glyphs, .int s_glyphCount, .ref s_dots, .int s_used, .ref s_wishes, .ref s_pins, .int s_id, .int s_code, .ref s_chosen, .int s_chosenKnown, .ref s_left, .ref s_coming])), (s_chosen, .inl (cc, 2, .inl ch)), (s_ids, .inl (ci, 32, .inl fi))] t.heap ∧ va_K (dC, dI) vcl [(cc, .int), (ci, .int)] t ∧ va_D A [(h0, .inr (3, [.ref s_ids, .ref s_attributes, .ref s_permanent, .int s_fonts, .ref s_glyphs, .int s_glyphCount, .ref s_dots, .int s_used, .ref s_wishes, .ref s_pins, .int s_id, .int s_code, .ref s_chosen, .int s_chosenKnown, .ref s_left, .ref s_coming])), (s_chosen, .inl (cc, 2, .inl ch)), (s_ids, .inl (ci, 32, .inl fi))]
abbrev po_c_chosenId_0 (h0 : Nat) (s_ids : Nat) (s_attributes : Nat) (s_permanent : Nat) (s_fonts : Int32) (s_glyphs : Nat) (s_glyphCount : Int32) (s_dots : Nat) (s_used : Int32) (s_wishes : Nat) (s_pins : Nat) (s_id : Int32) (s_code : Int32) (s_chosen : Nat) (s_chosenKnown : Int32) (s_left : Nat) (s_coming : Nat) (cc : ClassId) (ch : Nat → Int32) (ci : ClassId) (fi : Nat → Int32) (r : Int32) (u : Unit) : Prop := match u with
  | _ => r = (-1)
abbrev q_c_chosenId_0 (dC : Nat → ClassId) (dI : Nat → Nat → Nat) (h0 : Nat) (s_ids : Nat) (s_attributes : Nat) (s_permanent : Nat) (s_fonts : Int32) (s_glyphs : Nat) (s_glyphCount : Int32) (s_dots : Nat) (s_used : Int32) (s_wishes : Nat) (s_pins : Nat) (s_id : Int32) (s_code : Int32) (s_chosen : Nat) (s_chosenKnown : Int32) (s_left : Nat) (s_coming : Nat) (cc : ClassId) (ch : Nat → Int32) (ci : ClassId) (fi : Nat → Int32) (A : Nat → Prop) : Array Value → State → Outcome → State → Prop := va_Qi (po_c_chosenId_0 h0 s_ids s_attributes s_permanent s_fonts s_glyphs s_glyphCount s_dots s_used s_wishes s_pins s_id s_code s_chosen s_chosenKnown s_left s_coming cc ch ci fi) (at_c_chosenId_0 dC dI h0 s_ids s_attributes s_permanent s_fonts s_glyphs s_glyphCount s_dots s_used s_wishes s_pins s_id s_code s_chosen s_chosenKnown s_left s_coming cc ch ci fi A) A
abbrev rm_c_chosenId_0 : Room := { frames := 1, cells := 0, slots := 0, locals := 22 }
set_option maxHeartbeats 4000000 in
set_option maxRecDepth 100000 in
theorem c_chosenId_0 (l : Launch) (dC : Nat → ClassId) (dI : Nat → Nat → Nat) (tt : Nat → Nat) (h0 : Nat) (s_ids : Nat) (s_attributes : Nat) (s_permanent : Nat) (s_fonts : Int32) (s_glyphs : Nat) (s_glyphCount : Int32) (s_dots : Nat) (s_used : Int32) (s_wishes : Nat) (s_pins : Nat) (s_id : Int32) (s_code : Int32) (s_chosen : Nat) (s_chosenKnown : Int32) (s_left : Nat) (s_coming : Nat) (cc : ClassId) (ch : Nat → Int32) (ci : ClassId) (fi : Nat → Int32) (sz : Nat) (hc : ch 0 = -1) : Met l y_FontShelf_chosenId w_FontShelf_chosenId rm_c_chosenId_0 (va_Pc [.ref h0, .int 0] (fun U => U.heap.size = sz ∧ va_P (dC, dI) vcl [(h0, .inr (3, [.ref s_ids, .ref s_attributes, .ref s_permanent, .int s_fonts, .ref s_glyphs, .int s_glyphCount, .ref s_dots, .int s_used, .ref s_wishes, .ref s_pins, .int s_id, .int s_code, .ref s_chosen, .int s_chosenKnown, .ref s_left, .ref s_coming])), (s_chosen, .inl (cc, 2, .inl ch)), (s_ids, .inl (ci, 32, .inl fi))] U.heap ∧ va_K (dC, dI) vcl [(cc, .int), (ci, .int)] U ∧ va_D (fun _ => True) [(h0, .inr (3, [.ref s_ids, .ref s_attributes, .ref s_permanent, .int s_fonts, .ref s_glyphs, .int s_glyphCount, .ref s_dots, .int s_used, .ref s_wishes, .ref s_pins, .int s_id, .int s_code, .ref s_chosen, .int s_chosenKnown, .ref s_left, .ref s_coming])), (s_chosen, .inl (cc, 2, .inl ch)), (s_ids, .inl (ci, 32, .inl fi))] ∧ SF tt (va_A [(h0, .inr (3, [.ref s_ids, .ref s_attributes, .ref s_permanent, .int s_fonts, .ref s_glyphs, .int s_glyphCount, .ref s_dots, .int s_used, .ref s_wishes, .ref s_pins, .int s_id, .int s_code, .ref s_chosen, .int s_chosenKnown, .ref s_left, .ref s_coming])), (s_chosen, .inl (cc, 2, .inl ch)), (s_ids, .inl (ci, 32, .inl fi))] sz) U U.heap)) (q_c_chosenId_0 dC dI h0 s_ids s_attributes s_permanent s_fonts s_glyphs s_glyphCount s_dots s_used s_wishes s_pins s_id s_code s_chosen s_chosenKnown s_left s_coming cc ch ci fi (va_A [(h0, .inr (3, [.ref s_ids, .ref s_attributes, .ref s_permanent, .int s_fonts, .ref s_glyphs, .int s_glyphCount, .ref s_dots, .int s_used, .ref s_wishes, .ref s_pins, .int s_id, .int s_code, .ref s_chosen, .int s_chosenKnown, .ref s_left, .ref s_coming])), (s_chosen, .inl (cc, 2, .inl ch)), (s_ids, .inl (ci, 32, .inl fi))] sz)) 0 0 (va_A [(h0, .inr (3, [.ref s_ids, .ref s_attributes, .ref s_permanent, .int s_fonts, .ref s_glyphs, .int s_glyphCount, .ref s_dots, .int s_used, .ref s_wishes, .ref s_pins, .int s_id, .int s_code, .ref s_chosen, .int s_chosenKnown, .ref s_left, .ref s_coming])), (s_chosen, .inl (cc, 2, .inl ch)), (s_ids, .inl (ci, 32, .inl fi))] sz) := by
  refine Met.ofW (cc := b_FontShelf_chosenId) (maxL := 3) (ret := (some .int)) (by decide) rfl ?_
  intro p e s m args below meth c s₁ B hml hv
  obtain ⟨rfl, hsz, hP, hK, hD0, hF⟩ := hv
  have hx := B.exec
  have hb := B.bytes
  have hr := B.returns
  have hwd : ∀ w ∈ gT, w.before _ s = true := fun w h => atoms_spec (ws := w_FontShelf_chosenId) B.pre w (List.mem_cons_of_mem _ h)
  have hown : s.vm.findClass R_FontShelf = some m.cls := findClass_of_methodNamed B.named
  have hlocks := B.notSynchronized
  subst hsz
  have hD := hD0.self (sz := s.heap.size)
  generalize hAe : va_A [(h0, .inr (3, [.ref s_ids, .ref s_attributes, .ref s_permanent, .int s_fonts, .ref s_glyphs, .int s_glyphCount, .ref s_dots, .int s_used, .ref s_wishes, .ref s_pins, .int s_id, .int s_code, .ref s_chosen, .int s_chosenKnown, .ref s_left, .ref s_coming])), (s_chosen, .inl (cc, 2, .inl ch)), (s_ids, .inl (ci, 32, .inl fi))] s.heap.size = A at hD hF ⊢
  have hA : ∀ q : Nat, s.heap.size ≤ q → A q := fun q h => by rw [← hAe]; exact Or.inr h
  have hS : va_S A s.heap s.heap [] := va_S.rf
  have hP : va_P (dC, dI) vcl [(h0, .inr (3, [.ref s_ids, .ref s_attributes, .ref s_permanent, .int s_fonts, .ref s_glyphs, .int s_glyphCount, .ref s_dots, .int s_used, .ref s_wishes, .ref s_pins, .int s_id, .int s_code, .ref s_chosen, .int s_chosenKnown, .ref s_left, .ref s_coming])), (s_chosen, .inl (cc, 2, .inl ch)), (s_ids, .inl (ci, 32, .inl fi))] s.heap := hP
  have hl := lv_entry ([.ref h0, .int 0]) (n := 3) (Nat.le_of_ble_eq_true rfl)
  rw [lg_entry_eq]
  generalize (lg_sl ([.ref h0, .int 0]) ++ List.replicate (3 - (lg_sl ([.ref h0, .int 0])).length) Slot.unset).toArray = ls at hl ⊢
  have hl : lv_has ls 3 [(0, .ref h0), (1, .int 0)] := hl
  refine lv_aload_n hx hb d_FontShelf_chosenId_0 rfl (lv_at hl 0 rfl) ?_
  refine lv_iload_n hx hb d_FontShelf_chosenId_1 rfl (lv_at hl 1 rfl) ?_
  have hPc := hP.sub (ws' := [(h0, .inr (3, [.ref s_ids, .ref s_attributes, .ref s_permanent, .int s_fonts, .ref s_glyphs, .int s_glyphCount, .ref s_dots, .int s_used, .ref s_wishes, .ref s_pins, .int s_id, .int s_code, .ref s_chosen, .int s_chosenKnown, .ref s_left, .ref s_coming])), (s_chosen, .inl (cc, 2, .inl ch)), (s_ids, .inl (ci, 32, .inl fi))]) [0, 1, 2] rfl
  have hDc := hD.sub (ws' := [(h0, .inr (3, [.ref s_ids, .ref s_attributes, .ref s_permanent, .int s_fonts, .ref s_glyphs, .int s_glyphCount, .ref s_dots, .int s_used, .ref s_wishes, .ref s_pins, .int s_id, .int s_code, .ref s_chosen, .int s_chosenKnown, .ref s_left, .ref s_coming])), (s_chosen, .inl (cc, 2, .inl ch)), (s_ids, .inl (ci, 32, .inl fi))]) [0, 1, 2] (by decide) rfl
  have hKc := hK.sub (tys' := [(cc, .int), (ci, .int)]) [0, 1] rfl
  have hFc := va_free (wc := [(h0, .inr (3, [.ref s_ids, .ref s_attributes, .ref s_permanent, .int s_fonts, .ref s_glyphs, .int s_glyphCount, .ref s_dots, .int s_used, .ref s_wishes, .ref s_pins, .int s_id, .int s_code, .ref s_chosen, .int s_chosenKnown, .ref s_left, .ref s_coming])), (s_chosen, .inl (cc, 2, .inl ch)), (s_ids, .inl (ci, 32, .inl fi))]) hD hS hA [0, 1, 2] rfl
  refine va_calli (va_runV (As := [.int 0]) (rest := []) ⟨hx, hb, hml, hown, hwd⟩ (c_chosenSlot_0 l dC dI tt h0 s_ids s_attributes s_permanent s_fonts s_glyphs s_glyphCount s_dots s_used s_wishes s_pins s_id s_code s_chosen s_chosenKnown s_left s_coming cc ch ci fi s.heap.size (hc)) (cwV 1 hwd (gV gd_FontShelf_chosenSlot wd_5_210 wd_5_212 ws_47 wd_1_5) rfl rfl rfl (by decide +kernel) ⟨Nat.le_of_ble_eq_true rfl, Nat.le_of_ble_eq_true rfl⟩) ⟨fun a U g mk q => by obtain ⟨q0, q1, qP, qK, qD, qF⟩ := q; exact ⟨q0, q1, qP, va_K.moved (u := U) (U := U.calling g mk a) (Vm.Alike.refl U.vm) qK, qD, SF.same (u := U) (U := U.calling g mk a) rfl qF⟩, va_recv hKc hPc (ci := 3) (q0 := 0) rfl rfl, fun U hU hW => ⟨rfl, by rw [hU], by rw [hU]; exact hPc, va_K.moved hW.alike hKc, hDc.weaken (fun _ _ _ _ => trivial), by rw [hU]; exact SF.narrow (SF.moved hW (SF.kept hF (fun a h1 h2 => hS.2.1 a h1 h2))) hFc⟩⟩ rfl rfl hl.1 rfl (lv_room (Nat.le_of_ble_eq_true rfl)) d_FontShelf_chosenId_2 ⟨Nat.le_of_ble_eq_true rfl, Nat.le_of_ble_eq_true rfl⟩) hS (fun q _ h => hFc q h) hFc ?_
  clear hPc hDc hKc hS
  intro r_1 u_2 t H1 locs ht hvm hw hB hz1 hk1 hS
  obtain ⟨hP1, hK1, hD1⟩ := hB
  rw [ht] at hP1
  have hK1 := va_K.moved hvm.symm hK1
  try dsimp only at hw
  have hJ := va_join (wr := []) (w1 := [(h0, .inr (3, [.ref s_ids, .ref s_attributes, .ref s_permanent, .int s_fonts, .ref s_glyphs, .int s_glyphCount, .ref s_dots, .int s_used, .ref s_wishes, .ref s_pins, .int s_id, .int s_code, .ref s_chosen, .int s_chosenKnown, .ref s_left, .ref s_coming])), (s_chosen, .inl (cc, 2, .inl ch)), (s_ids, .inl (ci, 32, .inl fi))]) hP hD [0, 1, 2] [] rfl rfl (by decide) (by decide) hk1 hFc hP1 hD1
  clear hP hD hk1 hFc hP1 hD1 hz1
  obtain ⟨hP, hD⟩ := hJ
  clear hK1 ht hvm
  generalize H1 = H at hP hS ⊢
  replace hP : va_P (dC, dI) vcl [(h0, .inr (3, [.ref s_ids, .ref s_attributes, .ref s_permanent, .int s_fonts, .ref s_glyphs, .int s_glyphCount, .ref s_dots, .int s_used, .ref s_wishes, .ref s_pins, .int s_id, .int s_code, .ref s_chosen, .int s_chosenKnown, .ref s_left, .ref s_coming])), (s_chosen, .inl (cc, 2, .inl ch)), (s_ids, .inl (ci, 32, .inl fi))] H := hP
  replace hD : va_D A [(h0, .inr (3, [.ref s_ids, .ref s_attributes, .ref s_permanent, .int s_fonts, .ref s_glyphs, .int s_glyphCount, .ref s_dots, .int s_used, .ref s_wishes, .ref s_pins, .int s_id, .int s_code, .ref s_chosen, .int s_chosenKnown, .ref s_left, .ref s_coming])), (s_chosen, .inl (cc, 2, .inl ch)), (s_ids, .inl (ci, 32, .inl fi))] := hD
  obtain rfl := hw
  refine lv_istore_n (lv' := [(2, .int (-1)), (0, .ref h0), (1, .int 0)]) hx hb d_FontShelf_chosenId_5 rfl hl (by decide) rfl ?_
  clear hl
  intro ls hl
  refine lv_iload_n hx hb d_FontShelf_chosenId_6 rfl (lv_at hl 0 rfl) ?_
  refine lv_if_lt (tgt := 28) hx hb d_FontShelf_chosenId_7 (by decide) (fun _ => ?_) (fun c7 => absurd (by decide) c7)
  refine lv_iconst (v := (-1)) hx hb d_FontShelf_chosenId_28 (by decide) ?_
  have hP9 := hP.sub (ws' := [(h0, .inr (3, [.ref s_ids, .ref s_attributes, .ref s_permanent, .int s_fonts, .ref s_glyphs, .int s_glyphCount, .ref s_dots, .int s_used, .ref s_wishes, .ref s_pins, .int s_id, .int s_code, .ref s_chosen, .int s_chosenKnown, .ref s_left, .ref s_coming])), (s_chosen, .inl (cc, 2, .inl ch)), (s_ids, .inl (ci, 32, .inl fi))]) [0, 1, 2] rfl
  have hD9 := hD.sub (ws' := [(h0, .inr (3, [.ref s_ids, .ref s_attributes, .ref s_permanent, .int s_fonts, .ref s_glyphs, .int s_glyphCount, .ref s_dots, .int s_used, .ref s_wishes, .ref s_pins, .int s_id, .int s_code, .ref s_chosen, .int s_chosenKnown, .ref s_left, .ref s_coming])), (s_chosen, .inl (cc, 2, .inl ch)), (s_ids, .inl (ci, 32, .inl fi))]) [0, 1, 2] (by decide) rfl
  have hK9 := hK.sub (tys' := [(cc, .int), (ci, .int)]) [0, 1] rfl
  exact W.iret (v := (-1)) hx hb hr (fun t ht hW => ⟨⟨(-1), (), rfl, (show ((-1) : Int32) = (-1) from (by first | exact trivial | rfl | simp [*])), by rw [ht]; exact hP9, va_K.moved hW.alike hK9, hD9⟩, hS.F ht⟩) hS.2.2 d_FontShelf_chosenId_29

abbrev at_c_chosenSlot_1 (dC : Nat → ClassId) (dI : Nat → Nat → Nat) (h0 : Nat) (s_ids : Nat) (s_attributes : Nat) (s_permanent : Nat) (s_fonts : Int32) (s_glyphs : Nat) (s_glyphCount : Int32) (s_dots : Nat) (s_used : Int32) (s_wishes : Nat) (s_pins : Nat) (s_id : Int32) (s_code : Int32) (s_chosen : Nat) (s_chosenKnown : Int32) (s_left : Nat) (s_coming : Nat) (cc : ClassId) (ch : Nat → Int32) (ci : ClassId) (fi : Nat → Int32) (A : Nat → Prop) (u : Unit) (t : State) : Prop := match u with
  | _ => va_P (dC, dI) vcl [(h0, .inr (3, [.ref s_ids, .ref s_attributes, .ref s_permanent, .int s_fonts, .ref s_glyphs, .int s_glyphCount, .ref s_dots, .int s_used, .ref s_wishes, .ref s_pins, .int s_id, .int s_code, .ref s_chosen, .int s_chosenKnown, .ref s_left, .ref s_coming])), (s_chosen, .inl (cc, 2, .inl ch)), (s_ids, .inl (ci, 32, .inl fi))] t.heap ∧ va_K (dC, dI) vcl [(cc, .int), (ci, .int)] t ∧ va_D A [(h0, .inr (3, [.ref s_ids, .ref s_attributes, .ref s_permanent, .int s_fonts, .ref s_glyphs, .int s_glyphCount, .ref s_dots, .int s_used, .ref s_wishes, .ref s_pins, .int s_id, .int s_code, .ref s_chosen, .int s_chosenKnown, .ref s_left, .ref s_coming])), (s_chosen, .inl (cc, 2, .inl ch)), (s_ids, .inl (ci, 32, .inl fi))]
abbrev po_c_chosenSlot_1 (h0 : Nat) (s_ids : Nat) (s_attributes : Nat) (s_permanent : Nat) (s_fonts : Int32) (s_glyphs : Nat) (s_glyphCount : Int32) (s_dots : Nat) (s_used : Int32) (s_wishes : Nat) (s_pins : Nat) (s_id : Int32) (s_code : Int32) (s_chosen : Nat) (s_chosenKnown : Int32) (s_left : Nat) (s_coming : Nat) (cc : ClassId) (ch : Nat → Int32) (ci : ClassId) (fi : Nat → Int32) (r : Int32) (u : Unit) : Prop := match u with
  | _ => r = (-1)
abbrev q_c_chosenSlot_1 (dC : Nat → ClassId) (dI : Nat → Nat → Nat) (h0 : Nat) (s_ids : Nat) (s_attributes : Nat) (s_permanent : Nat) (s_fonts : Int32) (s_glyphs : Nat) (s_glyphCount : Int32) (s_dots : Nat) (s_used : Int32) (s_wishes : Nat) (s_pins : Nat) (s_id : Int32) (s_code : Int32) (s_chosen : Nat) (s_chosenKnown : Int32) (s_left : Nat) (s_coming : Nat) (cc : ClassId) (ch : Nat → Int32) (ci : ClassId) (fi : Nat → Int32) (A : Nat → Prop) : Array Value → State → Outcome → State → Prop := va_Qi (po_c_chosenSlot_1 h0 s_ids s_attributes s_permanent s_fonts s_glyphs s_glyphCount s_dots s_used s_wishes s_pins s_id s_code s_chosen s_chosenKnown s_left s_coming cc ch ci fi) (at_c_chosenSlot_1 dC dI h0 s_ids s_attributes s_permanent s_fonts s_glyphs s_glyphCount s_dots s_used s_wishes s_pins s_id s_code s_chosen s_chosenKnown s_left s_coming cc ch ci fi A) A
abbrev rm_c_chosenSlot_1 : Room := { frames := 0, cells := 0, slots := 0, locals := 0 }
set_option maxHeartbeats 4000000 in
set_option maxRecDepth 100000 in
theorem c_chosenSlot_1 (l : Launch) (dC : Nat → ClassId) (dI : Nat → Nat → Nat) (tt : Nat → Nat) (h0 : Nat) (s_ids : Nat) (s_attributes : Nat) (s_permanent : Nat) (s_fonts : Int32) (s_glyphs : Nat) (s_glyphCount : Int32) (s_dots : Nat) (s_used : Int32) (s_wishes : Nat) (s_pins : Nat) (s_id : Int32) (s_code : Int32) (s_chosen : Nat) (s_chosenKnown : Int32) (s_left : Nat) (s_coming : Nat) (cc : ClassId) (ch : Nat → Int32) (ci : ClassId) (fi : Nat → Int32) (sz : Nat) (hc : ch 1 = -1) : Met l y_FontShelf_chosenSlot w_FontShelf_chosenSlot rm_c_chosenSlot_1 (va_Pc [.ref h0, .int 1] (fun U => U.heap.size = sz ∧ va_P (dC, dI) vcl [(h0, .inr (3, [.ref s_ids, .ref s_attributes, .ref s_permanent, .int s_fonts, .ref s_glyphs, .int s_glyphCount, .ref s_dots, .int s_used, .ref s_wishes, .ref s_pins, .int s_id, .int s_code, .ref s_chosen, .int s_chosenKnown, .ref s_left, .ref s_coming])), (s_chosen, .inl (cc, 2, .inl ch)), (s_ids, .inl (ci, 32, .inl fi))] U.heap ∧ va_K (dC, dI) vcl [(cc, .int), (ci, .int)] U ∧ va_D (fun _ => True) [(h0, .inr (3, [.ref s_ids, .ref s_attributes, .ref s_permanent, .int s_fonts, .ref s_glyphs, .int s_glyphCount, .ref s_dots, .int s_used, .ref s_wishes, .ref s_pins, .int s_id, .int s_code, .ref s_chosen, .int s_chosenKnown, .ref s_left, .ref s_coming])), (s_chosen, .inl (cc, 2, .inl ch)), (s_ids, .inl (ci, 32, .inl fi))] ∧ SF tt (va_A [(h0, .inr (3, [.ref s_ids, .ref s_attributes, .ref s_permanent, .int s_fonts, .ref s_glyphs, .int s_glyphCount, .ref s_dots, .int s_used, .ref s_wishes, .ref s_pins, .int s_id, .int s_code, .ref s_chosen, .int s_chosenKnown, .ref s_left, .ref s_coming])), (s_chosen, .inl (cc, 2, .inl ch)), (s_ids, .inl (ci, 32, .inl fi))] sz) U U.heap)) (q_c_chosenSlot_1 dC dI h0 s_ids s_attributes s_permanent s_fonts s_glyphs s_glyphCount s_dots s_used s_wishes s_pins s_id s_code s_chosen s_chosenKnown s_left s_coming cc ch ci fi (va_A [(h0, .inr (3, [.ref s_ids, .ref s_attributes, .ref s_permanent, .int s_fonts, .ref s_glyphs, .int s_glyphCount, .ref s_dots, .int s_used, .ref s_wishes, .ref s_pins, .int s_id, .int s_code, .ref s_chosen, .int s_chosenKnown, .ref s_left, .ref s_coming])), (s_chosen, .inl (cc, 2, .inl ch)), (s_ids, .inl (ci, 32, .inl fi))] sz)) 0 0 (va_A [(h0, .inr (3, [.ref s_ids, .ref s_attributes, .ref s_permanent, .int s_fonts, .ref s_glyphs, .int s_glyphCount, .ref s_dots, .int s_used, .ref s_wishes, .ref s_pins, .int s_id, .int s_code, .ref s_chosen, .int s_chosenKnown, .ref s_left, .ref s_coming])), (s_chosen, .inl (cc, 2, .inl ch)), (s_ids, .inl (ci, 32, .inl fi))] sz) := by
  refine Met.ofW (cc := b_FontShelf_chosenSlot) (maxL := 3) (ret := (some .int)) (by decide) rfl ?_
  intro p e s m args below meth c s₁ B hml hv
  obtain ⟨rfl, hsz, hP, hK, hD0, hF⟩ := hv
  have hx := B.exec
  have hb := B.bytes
  have hr := B.returns
  have hwd : ∀ w ∈ gT, w.before _ s = true := fun w h => atoms_spec (ws := w_FontShelf_chosenSlot) B.pre w (List.mem_cons_of_mem _ h)
  have hown : s.vm.findClass R_FontShelf = some m.cls := findClass_of_methodNamed B.named
  have hlocks := B.notSynchronized
  subst hsz
  have hD := hD0.self (sz := s.heap.size)
  generalize hAe : va_A [(h0, .inr (3, [.ref s_ids, .ref s_attributes, .ref s_permanent, .int s_fonts, .ref s_glyphs, .int s_glyphCount, .ref s_dots, .int s_used, .ref s_wishes, .ref s_pins, .int s_id, .int s_code, .ref s_chosen, .int s_chosenKnown, .ref s_left, .ref s_coming])), (s_chosen, .inl (cc, 2, .inl ch)), (s_ids, .inl (ci, 32, .inl fi))] s.heap.size = A at hD hF ⊢
  have hA : ∀ q : Nat, s.heap.size ≤ q → A q := fun q h => by rw [← hAe]; exact Or.inr h
  have hS : va_S A s.heap s.heap [] := va_S.rf
  have hP : va_P (dC, dI) vcl [(h0, .inr (3, [.ref s_ids, .ref s_attributes, .ref s_permanent, .int s_fonts, .ref s_glyphs, .int s_glyphCount, .ref s_dots, .int s_used, .ref s_wishes, .ref s_pins, .int s_id, .int s_code, .ref s_chosen, .int s_chosenKnown, .ref s_left, .ref s_coming])), (s_chosen, .inl (cc, 2, .inl ch)), (s_ids, .inl (ci, 32, .inl fi))] s.heap := hP
  have hl := lv_entry ([.ref h0, .int 1]) (n := 3) (Nat.le_of_ble_eq_true rfl)
  rw [lg_entry_eq]
  generalize (lg_sl ([.ref h0, .int 1]) ++ List.replicate (3 - (lg_sl ([.ref h0, .int 1])).length) Slot.unset).toArray = ls at hl ⊢
  have hl : lv_has ls 3 [(0, .ref h0), (1, .int 1)] := hl
  refine lv_iload_n hx hb d_FontShelf_chosenSlot_0 rfl (lv_at hl 1 rfl) ?_
  refine lv_if_lt (tgt := 22) hx hb d_FontShelf_chosenSlot_1 (by decide) (fun c1 => absurd c1 (by decide)) (fun _ => ?_)
  refine lv_iload_n hx hb d_FontShelf_chosenSlot_4 rfl (lv_at hl 1 rfl) ?_
  refine lv_aload_n hx hb d_FontShelf_chosenSlot_5 rfl (lv_at hl 0 rfl) ?_
  refine va_get (D := (dC, dI)) (ci := 3) (v := .ref s_chosen) (C := R_FontShelf) (T := F_FontShelf) (N := 16) hx hb hwd i_FontShelf hown hK hP 0 rfl rfl 12 (by decide) (hwd _ wd_2_113) (fun _ h9 => h9) rfl d_FontShelf_chosenSlot_6 ?_
  refine va_alen (v := 2) hx hb hK hP 1 0 rfl rfl rfl d_FontShelf_chosenSlot_9 ?_
  refine lv_icmp_ge (tgt := 22) hx hb d_FontShelf_chosenSlot_10 (by decide) (fun c10 => absurd c10 (by decide)) (fun _ => ?_)
  refine lv_aload_n hx hb d_FontShelf_chosenSlot_13 rfl (lv_at hl 0 rfl) ?_
  refine va_get (D := (dC, dI)) (ci := 3) (v := .ref s_chosen) (C := R_FontShelf) (T := F_FontShelf) (N := 16) hx hb hwd i_FontShelf hown hK hP 0 rfl rfl 12 (by decide) (hwd _ wd_2_113) (fun _ h9 => h9) rfl d_FontShelf_chosenSlot_14 ?_
  refine lv_iload_n hx hb d_FontShelf_chosenSlot_17 rfl (lv_at hl 1 rfl) ?_
  refine va_iald hx hb hK hP 1 0 rfl rfl (show ¬ ((1 : Int32) < 0 ∨ 2 ≤ (1 : Int32).toNatClampNeg) by decide) d_FontShelf_chosenSlot_18 ?_
  refine lv_topi (fun y_1 ey_1 => ?_)
  obtain rfl : y_1 = ch 1 := ey_1.trans (by rw [show (1 : Int32).toNatClampNeg = 1 by decide])
  refine lv_topi (fun y_2 ey_2 => ?_)
  obtain rfl : y_2 = (-1) := ey_2.trans (hc)
  refine lv_goto (tgt := 23) hx hb d_FontShelf_chosenSlot_19 (by decide) ?_
  refine lv_istore_n (lv' := [(2, .int (-1)), (0, .ref h0), (1, .int 1)]) hx hb d_FontShelf_chosenSlot_23 rfl hl (by decide) rfl ?_
  clear hl
  intro ls hl
  refine lv_iload_n hx hb d_FontShelf_chosenSlot_24 rfl (lv_at hl 0 rfl) ?_
  refine lv_aload_n hx hb d_FontShelf_chosenSlot_25 rfl (lv_at hl 1 rfl) ?_
  refine va_get (D := (dC, dI)) (ci := 3) (v := .ref s_ids) (C := R_FontShelf) (T := F_FontShelf) (N := 16) hx hb hwd i_FontShelf hown hK hP 0 rfl rfl 0 (by decide) (hwd _ wd_2_98) (fun _ h9 => h9) rfl d_FontShelf_chosenSlot_26 ?_
  refine va_alen (v := 32) hx hb hK hP 2 1 rfl rfl rfl d_FontShelf_chosenSlot_29 ?_
  refine lv_icmp_ge (tgt := 37) hx hb d_FontShelf_chosenSlot_30 (by decide) (fun c30 => absurd c30 (by decide)) (fun _ => ?_)
  refine lv_iload_n hx hb d_FontShelf_chosenSlot_33 rfl (lv_at hl 0 rfl) ?_
  refine lv_goto (tgt := 38) hx hb d_FontShelf_chosenSlot_34 (by decide) ?_
  have hP9 := hP.sub (ws' := [(h0, .inr (3, [.ref s_ids, .ref s_attributes, .ref s_permanent, .int s_fonts, .ref s_glyphs, .int s_glyphCount, .ref s_dots, .int s_used, .ref s_wishes, .ref s_pins, .int s_id, .int s_code, .ref s_chosen, .int s_chosenKnown, .ref s_left, .ref s_coming])), (s_chosen, .inl (cc, 2, .inl ch)), (s_ids, .inl (ci, 32, .inl fi))]) [0, 1, 2] rfl
  have hD9 := hD.sub (ws' := [(h0, .inr (3, [.ref s_ids, .ref s_attributes, .ref s_permanent, .int s_fonts, .ref s_glyphs, .int s_glyphCount, .ref s_dots, .int s_used, .ref s_wishes, .ref s_pins, .int s_id, .int s_code, .ref s_chosen, .int s_chosenKnown, .ref s_left, .ref s_coming])), (s_chosen, .inl (cc, 2, .inl ch)), (s_ids, .inl (ci, 32, .inl fi))]) [0, 1, 2] (by decide) rfl
  have hK9 := hK.sub (tys' := [(cc, .int), (ci, .int)]) [0, 1] rfl
  exact W.iret (v := (-1)) hx hb hr (fun t ht hW => ⟨⟨(-1), (), rfl, (show ((-1) : Int32) = (-1) from (by first | exact trivial | rfl | simp [*])), by rw [ht]; exact hP9, va_K.moved hW.alike hK9, hD9⟩, hS.F ht⟩) hS.2.2 d_FontShelf_chosenSlot_38

abbrev at_c_chosenId_1 (dC : Nat → ClassId) (dI : Nat → Nat → Nat) (h0 : Nat) (s_ids : Nat) (s_attributes : Nat) (s_permanent : Nat) (s_fonts : Int32) (s_glyphs : Nat) (s_glyphCount : Int32) (s_dots : Nat) (s_used : Int32) (s_wishes : Nat) (s_pins : Nat) (s_id : Int32) (s_code : Int32) (s_chosen : Nat) (s_chosenKnown : Int32) (s_left : Nat) (s_coming : Nat) (cc : ClassId) (ch : Nat → Int32) (ci : ClassId) (fi : Nat → Int32) (A : Nat → Prop) (u : Unit) (t : State) : Prop := match u with
  | _ => va_P (dC, dI) vcl [(h0, .inr (3, [.ref s_ids, .ref s_attributes, .ref s_permanent, .int s_fonts, .ref s_glyphs, .int s_glyphCount, .ref s_dots, .int s_used, .ref s_wishes, .ref s_pins, .int s_id, .int s_code, .ref s_chosen, .int s_chosenKnown, .ref s_left, .ref s_coming])), (s_chosen, .inl (cc, 2, .inl ch)), (s_ids, .inl (ci, 32, .inl fi))] t.heap ∧ va_K (dC, dI) vcl [(cc, .int), (ci, .int)] t ∧ va_D A [(h0, .inr (3, [.ref s_ids, .ref s_attributes, .ref s_permanent, .int s_fonts, .ref s_glyphs, .int s_glyphCount, .ref s_dots, .int s_used, .ref s_wishes, .ref s_pins, .int s_id, .int s_code, .ref s_chosen, .int s_chosenKnown, .ref s_left, .ref s_coming])), (s_chosen, .inl (cc, 2, .inl ch)), (s_ids, .inl (ci, 32, .inl fi))]
abbrev po_c_chosenId_1 (h0 : Nat) (s_ids : Nat) (s_attributes : Nat) (s_permanent : Nat) (s_fonts : Int32) (s_glyphs : Nat) (s_glyphCount : Int32) (s_dots : Nat) (s_used : Int32) (s_wishes : Nat) (s_pins : Nat) (s_id : Int32) (s_code : Int32) (s_chosen : Nat) (s_chosenKnown : Int32) (s_left : Nat) (s_coming : Nat) (cc : ClassId) (ch : Nat → Int32) (ci : ClassId) (fi : Nat → Int32) (r : Int32) (u : Unit) : Prop := match u with
  | _ => r = (-1)
abbrev q_c_chosenId_1 (dC : Nat → ClassId) (dI : Nat → Nat → Nat) (h0 : Nat) (s_ids : Nat) (s_attributes : Nat) (s_permanent : Nat) (s_fonts : Int32) (s_glyphs : Nat) (s_glyphCount : Int32) (s_dots : Nat) (s_used : Int32) (s_wishes : Nat) (s_pins : Nat) (s_id : Int32) (s_code : Int32) (s_chosen : Nat) (s_chosenKnown : Int32) (s_left : Nat) (s_coming : Nat) (cc : ClassId) (ch : Nat → Int32) (ci : ClassId) (fi : Nat → Int32) (A : Nat → Prop) : Array Value → State → Outcome → State → Prop := va_Qi (po_c_chosenId_1 h0 s_ids s_attributes s_permanent s_fonts s_glyphs s_glyphCount s_dots s_used s_wishes s_pins s_id s_code s_chosen s_chosenKnown s_left s_coming cc ch ci fi) (at_c_chosenId_1 dC dI h0 s_ids s_attributes s_permanent s_fonts s_glyphs s_glyphCount s_dots s_used s_wishes s_pins s_id s_code s_chosen s_chosenKnown s_left s_coming cc ch ci fi A) A
abbrev rm_c_chosenId_1 : Room := { frames := 1, cells := 0, slots := 0, locals := 22 }
set_option maxHeartbeats 4000000 in
set_option maxRecDepth 100000 in
theorem c_chosenId_1 (l : Launch) (dC : Nat → ClassId) (dI : Nat → Nat → Nat) (tt : Nat → Nat) (h0 : Nat) (s_ids : Nat) (s_attributes : Nat) (s_permanent : Nat) (s_fonts : Int32) (s_glyphs : Nat) (s_glyphCount : Int32) (s_dots : Nat) (s_used : Int32) (s_wishes : Nat) (s_pins : Nat) (s_id : Int32) (s_code : Int32) (s_chosen : Nat) (s_chosenKnown : Int32) (s_left : Nat) (s_coming : Nat) (cc : ClassId) (ch : Nat → Int32) (ci : ClassId) (fi : Nat → Int32) (sz : Nat) (hc : ch 1 = -1) : Met l y_FontShelf_chosenId w_FontShelf_chosenId rm_c_chosenId_1 (va_Pc [.ref h0, .int 1] (fun U => U.heap.size = sz ∧ va_P (dC, dI) vcl [(h0, .inr (3, [.ref s_ids, .ref s_attributes, .ref s_permanent, .int s_fonts, .ref s_glyphs, .int s_glyphCount, .ref s_dots, .int s_used, .ref s_wishes, .ref s_pins, .int s_id, .int s_code, .ref s_chosen, .int s_chosenKnown, .ref s_left, .ref s_coming])), (s_chosen, .inl (cc, 2, .inl ch)), (s_ids, .inl (ci, 32, .inl fi))] U.heap ∧ va_K (dC, dI) vcl [(cc, .int), (ci, .int)] U ∧ va_D (fun _ => True) [(h0, .inr (3, [.ref s_ids, .ref s_attributes, .ref s_permanent, .int s_fonts, .ref s_glyphs, .int s_glyphCount, .ref s_dots, .int s_used, .ref s_wishes, .ref s_pins, .int s_id, .int s_code, .ref s_chosen, .int s_chosenKnown, .ref s_left, .ref s_coming])), (s_chosen, .inl (cc, 2, .inl ch)), (s_ids, .inl (ci, 32, .inl fi))] ∧ SF tt (va_A [(h0, .inr (3, [.ref s_ids, .ref s_attributes, .ref s_permanent, .int s_fonts, .ref s_glyphs, .int s_glyphCount, .ref s_dots, .int s_used, .ref s_wishes, .ref s_pins, .int s_id, .int s_code, .ref s_chosen, .int s_chosenKnown, .ref s_left, .ref s_coming])), (s_chosen, .inl (cc, 2, .inl ch)), (s_ids, .inl (ci, 32, .inl fi))] sz) U U.heap)) (q_c_chosenId_1 dC dI h0 s_ids s_attributes s_permanent s_fonts s_glyphs s_glyphCount s_dots s_used s_wishes s_pins s_id s_code s_chosen s_chosenKnown s_left s_coming cc ch ci fi (va_A [(h0, .inr (3, [.ref s_ids, .ref s_attributes, .ref s_permanent, .int s_fonts, .ref s_glyphs, .int s_glyphCount, .ref s_dots, .int s_used, .ref s_wishes, .ref s_pins, .int s_id, .int s_code, .ref s_chosen, .int s_chosenKnown, .ref s_left, .ref s_coming])), (s_chosen, .inl (cc, 2, .inl ch)), (s_ids, .inl (ci, 32, .inl fi))] sz)) 0 0 (va_A [(h0, .inr (3, [.ref s_ids, .ref s_attributes, .ref s_permanent, .int s_fonts, .ref s_glyphs, .int s_glyphCount, .ref s_dots, .int s_used, .ref s_wishes, .ref s_pins, .int s_id, .int s_code, .ref s_chosen, .int s_chosenKnown, .ref s_left, .ref s_coming])), (s_chosen, .inl (cc, 2, .inl ch)), (s_ids, .inl (ci, 32, .inl fi))] sz) := by
  refine Met.ofW (cc := b_FontShelf_chosenId) (maxL := 3) (ret := (some .int)) (by decide) rfl ?_
  intro p e s m args below meth c s₁ B hml hv
  obtain ⟨rfl, hsz, hP, hK, hD0, hF⟩ := hv
  have hx := B.exec
  have hb := B.bytes
  have hr := B.returns
  have hwd : ∀ w ∈ gT, w.before _ s = true := fun w h => atoms_spec (ws := w_FontShelf_chosenId) B.pre w (List.mem_cons_of_mem _ h)
  have hown : s.vm.findClass R_FontShelf = some m.cls := findClass_of_methodNamed B.named
  have hlocks := B.notSynchronized
  subst hsz
  have hD := hD0.self (sz := s.heap.size)
  generalize hAe : va_A [(h0, .inr (3, [.ref s_ids, .ref s_attributes, .ref s_permanent, .int s_fonts, .ref s_glyphs, .int s_glyphCount, .ref s_dots, .int s_used, .ref s_wishes, .ref s_pins, .int s_id, .int s_code, .ref s_chosen, .int s_chosenKnown, .ref s_left, .ref s_coming])), (s_chosen, .inl (cc, 2, .inl ch)), (s_ids, .inl (ci, 32, .inl fi))] s.heap.size = A at hD hF ⊢
  have hA : ∀ q : Nat, s.heap.size ≤ q → A q := fun q h => by rw [← hAe]; exact Or.inr h
  have hS : va_S A s.heap s.heap [] := va_S.rf
  have hP : va_P (dC, dI) vcl [(h0, .inr (3, [.ref s_ids, .ref s_attributes, .ref s_permanent, .int s_fonts, .ref s_glyphs, .int s_glyphCount, .ref s_dots, .int s_used, .ref s_wishes, .ref s_pins, .int s_id, .int s_code, .ref s_chosen, .int s_chosenKnown, .ref s_left, .ref s_coming])), (s_chosen, .inl (cc, 2, .inl ch)), (s_ids, .inl (ci, 32, .inl fi))] s.heap := hP
  have hl := lv_entry ([.ref h0, .int 1]) (n := 3) (Nat.le_of_ble_eq_true rfl)
  rw [lg_entry_eq]
  generalize (lg_sl ([.ref h0, .int 1]) ++ List.replicate (3 - (lg_sl ([.ref h0, .int 1])).length) Slot.unset).toArray = ls at hl ⊢
  have hl : lv_has ls 3 [(0, .ref h0), (1, .int 1)] := hl
  refine lv_aload_n hx hb d_FontShelf_chosenId_0 rfl (lv_at hl 0 rfl) ?_
  refine lv_iload_n hx hb d_FontShelf_chosenId_1 rfl (lv_at hl 1 rfl) ?_
  have hPc := hP.sub (ws' := [(h0, .inr (3, [.ref s_ids, .ref s_attributes, .ref s_permanent, .int s_fonts, .ref s_glyphs, .int s_glyphCount, .ref s_dots, .int s_used, .ref s_wishes, .ref s_pins, .int s_id, .int s_code, .ref s_chosen, .int s_chosenKnown, .ref s_left, .ref s_coming])), (s_chosen, .inl (cc, 2, .inl ch)), (s_ids, .inl (ci, 32, .inl fi))]) [0, 1, 2] rfl
  have hDc := hD.sub (ws' := [(h0, .inr (3, [.ref s_ids, .ref s_attributes, .ref s_permanent, .int s_fonts, .ref s_glyphs, .int s_glyphCount, .ref s_dots, .int s_used, .ref s_wishes, .ref s_pins, .int s_id, .int s_code, .ref s_chosen, .int s_chosenKnown, .ref s_left, .ref s_coming])), (s_chosen, .inl (cc, 2, .inl ch)), (s_ids, .inl (ci, 32, .inl fi))]) [0, 1, 2] (by decide) rfl
  have hKc := hK.sub (tys' := [(cc, .int), (ci, .int)]) [0, 1] rfl
  have hFc := va_free (wc := [(h0, .inr (3, [.ref s_ids, .ref s_attributes, .ref s_permanent, .int s_fonts, .ref s_glyphs, .int s_glyphCount, .ref s_dots, .int s_used, .ref s_wishes, .ref s_pins, .int s_id, .int s_code, .ref s_chosen, .int s_chosenKnown, .ref s_left, .ref s_coming])), (s_chosen, .inl (cc, 2, .inl ch)), (s_ids, .inl (ci, 32, .inl fi))]) hD hS hA [0, 1, 2] rfl
  refine va_calli (va_runV (As := [.int 1]) (rest := []) ⟨hx, hb, hml, hown, hwd⟩ (c_chosenSlot_1 l dC dI tt h0 s_ids s_attributes s_permanent s_fonts s_glyphs s_glyphCount s_dots s_used s_wishes s_pins s_id s_code s_chosen s_chosenKnown s_left s_coming cc ch ci fi s.heap.size (hc)) (cwV 1 hwd (gV gd_FontShelf_chosenSlot wd_5_210 wd_5_212 ws_47 wd_1_5) rfl rfl rfl (by decide +kernel) ⟨Nat.le_of_ble_eq_true rfl, Nat.le_of_ble_eq_true rfl⟩) ⟨fun a U g mk q => by obtain ⟨q0, q1, qP, qK, qD, qF⟩ := q; exact ⟨q0, q1, qP, va_K.moved (u := U) (U := U.calling g mk a) (Vm.Alike.refl U.vm) qK, qD, SF.same (u := U) (U := U.calling g mk a) rfl qF⟩, va_recv hKc hPc (ci := 3) (q0 := 0) rfl rfl, fun U hU hW => ⟨rfl, by rw [hU], by rw [hU]; exact hPc, va_K.moved hW.alike hKc, hDc.weaken (fun _ _ _ _ => trivial), by rw [hU]; exact SF.narrow (SF.moved hW (SF.kept hF (fun a h1 h2 => hS.2.1 a h1 h2))) hFc⟩⟩ rfl rfl hl.1 rfl (lv_room (Nat.le_of_ble_eq_true rfl)) d_FontShelf_chosenId_2 ⟨Nat.le_of_ble_eq_true rfl, Nat.le_of_ble_eq_true rfl⟩) hS (fun q _ h => hFc q h) hFc ?_
  clear hPc hDc hKc hS
  intro r_1 u_2 t H1 locs ht hvm hw hB hz1 hk1 hS
  obtain ⟨hP1, hK1, hD1⟩ := hB
  rw [ht] at hP1
  have hK1 := va_K.moved hvm.symm hK1
  try dsimp only at hw
  have hJ := va_join (wr := []) (w1 := [(h0, .inr (3, [.ref s_ids, .ref s_attributes, .ref s_permanent, .int s_fonts, .ref s_glyphs, .int s_glyphCount, .ref s_dots, .int s_used, .ref s_wishes, .ref s_pins, .int s_id, .int s_code, .ref s_chosen, .int s_chosenKnown, .ref s_left, .ref s_coming])), (s_chosen, .inl (cc, 2, .inl ch)), (s_ids, .inl (ci, 32, .inl fi))]) hP hD [0, 1, 2] [] rfl rfl (by decide) (by decide) hk1 hFc hP1 hD1
  clear hP hD hk1 hFc hP1 hD1 hz1
  obtain ⟨hP, hD⟩ := hJ
  clear hK1 ht hvm
  generalize H1 = H at hP hS ⊢
  replace hP : va_P (dC, dI) vcl [(h0, .inr (3, [.ref s_ids, .ref s_attributes, .ref s_permanent, .int s_fonts, .ref s_glyphs, .int s_glyphCount, .ref s_dots, .int s_used, .ref s_wishes, .ref s_pins, .int s_id, .int s_code, .ref s_chosen, .int s_chosenKnown, .ref s_left, .ref s_coming])), (s_chosen, .inl (cc, 2, .inl ch)), (s_ids, .inl (ci, 32, .inl fi))] H := hP
  replace hD : va_D A [(h0, .inr (3, [.ref s_ids, .ref s_attributes, .ref s_permanent, .int s_fonts, .ref s_glyphs, .int s_glyphCount, .ref s_dots, .int s_used, .ref s_wishes, .ref s_pins, .int s_id, .int s_code, .ref s_chosen, .int s_chosenKnown, .ref s_left, .ref s_coming])), (s_chosen, .inl (cc, 2, .inl ch)), (s_ids, .inl (ci, 32, .inl fi))] := hD
  obtain rfl := hw
  refine lv_istore_n (lv' := [(2, .int (-1)), (0, .ref h0), (1, .int 1)]) hx hb d_FontShelf_chosenId_5 rfl hl (by decide) rfl ?_
  clear hl
  intro ls hl
  refine lv_iload_n hx hb d_FontShelf_chosenId_6 rfl (lv_at hl 0 rfl) ?_
  refine lv_if_lt (tgt := 28) hx hb d_FontShelf_chosenId_7 (by decide) (fun _ => ?_) (fun c7 => absurd (by decide) c7)
  refine lv_iconst (v := (-1)) hx hb d_FontShelf_chosenId_28 (by decide) ?_
  have hP9 := hP.sub (ws' := [(h0, .inr (3, [.ref s_ids, .ref s_attributes, .ref s_permanent, .int s_fonts, .ref s_glyphs, .int s_glyphCount, .ref s_dots, .int s_used, .ref s_wishes, .ref s_pins, .int s_id, .int s_code, .ref s_chosen, .int s_chosenKnown, .ref s_left, .ref s_coming])), (s_chosen, .inl (cc, 2, .inl ch)), (s_ids, .inl (ci, 32, .inl fi))]) [0, 1, 2] rfl
  have hD9 := hD.sub (ws' := [(h0, .inr (3, [.ref s_ids, .ref s_attributes, .ref s_permanent, .int s_fonts, .ref s_glyphs, .int s_glyphCount, .ref s_dots, .int s_used, .ref s_wishes, .ref s_pins, .int s_id, .int s_code, .ref s_chosen, .int s_chosenKnown, .ref s_left, .ref s_coming])), (s_chosen, .inl (cc, 2, .inl ch)), (s_ids, .inl (ci, 32, .inl fi))]) [0, 1, 2] (by decide) rfl
  have hK9 := hK.sub (tys' := [(cc, .int), (ci, .int)]) [0, 1] rfl
  exact W.iret (v := (-1)) hx hb hr (fun t ht hW => ⟨⟨(-1), (), rfl, (show ((-1) : Int32) = (-1) from (by first | exact trivial | rfl | simp [*])), by rw [ht]; exact hP9, va_K.moved hW.alike hK9, hD9⟩, hS.F ht⟩) hS.2.2 d_FontShelf_chosenId_29

def ssF (w : Int32) : Int32 := (if w = 12 then 0 else (if w = 13 then 0 else (if w = 14 then (-1) else (if w = 15 then (-1) else (if w = 16 then 0 else (if w = 17 then 0 else (if w = 18 then 0 else (if w = 19 then 0 else (if w = 20 then 0 else (if w = 21 then (-1) else (-1)))))))))))
def stF (d y w : Int32) : Int32 := (if w = 0 then d else (if w = 1 then 0 else (if w = 2 then 0 else (if w = 3 then 0 else (if w = 4 then 0 else (if w = 5 then 0 else (if w = 6 then 0 else (if w = 7 then 0 else (if w = 8 then y else (if w = 9 then 2 else (if w = 10 then 0 else (if w = 11 then 0 else (if w = 12 then 0 else (if w = 13 then 0 else (if w = 14 then (-1) else (if w = 15 then (-1) else (if w = 16 then 0 else (if w = 17 then 0 else (if w = 18 then 0 else (if w = 19 then 0 else (if w = 20 then 0 else (if w = 21 then (-1) else (if w = 22 then 0 else (if w = 23 then 0 else (if w = 24 then 0 else (if w = 25 then 0 else (-1)))))))))))))))))))))))))))

abbrev at_c_storeStatus_0 (dC : Nat → ClassId) (dI : Nat → Nat → Nat) (h0 : Nat) (m_dpi : Int32) (m_tape : Nat) (m_page : Nat) (m_sheet : Nat) (m_fonts : Nat) (m_macros : Nat) (m_raster : Nat) (m_interpreter : Nat) (m_picture : Nat) (m_coder : Nat) (m_reader : Nat) (m_file : Nat) (m_shown : Nat) (m_pictures : Int32) (s_ids : Nat) (s_attributes : Nat) (s_permanent : Nat) (s_glyphs : Nat) (s_dots : Nat) (s_used : Int32) (s_wishes : Nat) (s_pins : Nat) (s_id : Int32) (s_code : Int32) (s_chosen : Nat) (s_chosenKnown : Int32) (s_left : Nat) (s_coming : Nat) (a_ids : Nat) (a_places : Nat) (a_lengths : Nat) (a_permanent : Nat) (a_bytes : Nat) (a_id : Int32) (a_readingId : Int32) (a_collected : Nat) (a_collectedCount : Int32) (a_matched : Int32) (a_saidActs : Nat) (a_saidIds : Nat) (a_said : Int32) (r_dpi : Int32) (r_x : Int32) (r_y : Int32) (r_scale : Int32) (r_row : Int32) (r_width : Int32) (r_height : Int32) (r_rowBytes : Int32) (r_seed : Nat) (r_resolution : Int32) (r_method : Int32) (r_nextWidth : Int32) (r_nextHeight : Int32) (cc : ClassId) (ch : Nat → Int32) (ci : ClassId) (fi : Nat → Int32) (x : Int32) (A : Nat → Prop) (u : Unit) (t : State) : Prop := match u with
  | _ => va_P (dC, dI) vcl [(h0, .inr (0, [.int m_dpi, .ref m_tape, .ref m_page, .ref m_sheet, .ref m_fonts, .ref m_macros, .ref m_raster, .ref m_interpreter, .ref m_picture, .ref m_coder, .ref m_reader, .ref m_file, .ref m_shown, .int 0, .int 0, .int 0, .int 0, .int m_pictures])), (m_fonts, .inr (3, [.ref s_ids, .ref s_attributes, .ref s_permanent, .int 0, .ref s_glyphs, .int 0, .ref s_dots, .int s_used, .ref s_wishes, .ref s_pins, .int s_id, .int s_code, .ref s_chosen, .int s_chosenKnown, .ref s_left, .ref s_coming])), (s_chosen, .inl (cc, 2, .inl ch)), (s_ids, .inl (ci, 32, .inl fi)), (m_macros, .inr (6, [.ref a_ids, .ref a_places, .ref a_lengths, .ref a_permanent, .int 0, .ref a_bytes, .int 0, .int 0, .int a_id, .int 0, .int a_readingId, .ref a_collected, .int a_collectedCount, .int a_matched, .ref a_saidActs, .ref a_saidIds, .int a_said])), (m_raster, .inr (11, [.int r_dpi, .int 0, .int r_x, .int r_y, .int r_scale, .int r_row, .int r_width, .int r_height, .int r_rowBytes, .ref r_seed, .int r_resolution, .int r_method, .int r_nextWidth, .int r_nextHeight]))] t.heap ∧ va_K (dC, dI) vcl [(cc, .int), (ci, .int)] t ∧ va_D A [(h0, .inr (0, [.int m_dpi, .ref m_tape, .ref m_page, .ref m_sheet, .ref m_fonts, .ref m_macros, .ref m_raster, .ref m_interpreter, .ref m_picture, .ref m_coder, .ref m_reader, .ref m_file, .ref m_shown, .int 0, .int 0, .int 0, .int 0, .int m_pictures])), (m_fonts, .inr (3, [.ref s_ids, .ref s_attributes, .ref s_permanent, .int 0, .ref s_glyphs, .int 0, .ref s_dots, .int s_used, .ref s_wishes, .ref s_pins, .int s_id, .int s_code, .ref s_chosen, .int s_chosenKnown, .ref s_left, .ref s_coming])), (s_chosen, .inl (cc, 2, .inl ch)), (s_ids, .inl (ci, 32, .inl fi)), (m_macros, .inr (6, [.ref a_ids, .ref a_places, .ref a_lengths, .ref a_permanent, .int 0, .ref a_bytes, .int 0, .int 0, .int a_id, .int 0, .int a_readingId, .ref a_collected, .int a_collectedCount, .int a_matched, .ref a_saidActs, .ref a_saidIds, .int a_said])), (m_raster, .inr (11, [.int r_dpi, .int 0, .int r_x, .int r_y, .int r_scale, .int r_row, .int r_width, .int r_height, .int r_rowBytes, .ref r_seed, .int r_resolution, .int r_method, .int r_nextWidth, .int r_nextHeight]))]
abbrev po_c_storeStatus_0 (h0 : Nat) (m_dpi : Int32) (m_tape : Nat) (m_page : Nat) (m_sheet : Nat) (m_fonts : Nat) (m_macros : Nat) (m_raster : Nat) (m_interpreter : Nat) (m_picture : Nat) (m_coder : Nat) (m_reader : Nat) (m_file : Nat) (m_shown : Nat) (m_pictures : Int32) (s_ids : Nat) (s_attributes : Nat) (s_permanent : Nat) (s_glyphs : Nat) (s_dots : Nat) (s_used : Int32) (s_wishes : Nat) (s_pins : Nat) (s_id : Int32) (s_code : Int32) (s_chosen : Nat) (s_chosenKnown : Int32) (s_left : Nat) (s_coming : Nat) (a_ids : Nat) (a_places : Nat) (a_lengths : Nat) (a_permanent : Nat) (a_bytes : Nat) (a_id : Int32) (a_readingId : Int32) (a_collected : Nat) (a_collectedCount : Int32) (a_matched : Int32) (a_saidActs : Nat) (a_saidIds : Nat) (a_said : Int32) (r_dpi : Int32) (r_x : Int32) (r_y : Int32) (r_scale : Int32) (r_row : Int32) (r_width : Int32) (r_height : Int32) (r_rowBytes : Int32) (r_seed : Nat) (r_resolution : Int32) (r_method : Int32) (r_nextWidth : Int32) (r_nextHeight : Int32) (cc : ClassId) (ch : Nat → Int32) (ci : ClassId) (fi : Nat → Int32) (x : Int32) (r : Int32) (u : Unit) : Prop := match u with
  | _ => r = ssF x
abbrev q_c_storeStatus_0 (dC : Nat → ClassId) (dI : Nat → Nat → Nat) (h0 : Nat) (m_dpi : Int32) (m_tape : Nat) (m_page : Nat) (m_sheet : Nat) (m_fonts : Nat) (m_macros : Nat) (m_raster : Nat) (m_interpreter : Nat) (m_picture : Nat) (m_coder : Nat) (m_reader : Nat) (m_file : Nat) (m_shown : Nat) (m_pictures : Int32) (s_ids : Nat) (s_attributes : Nat) (s_permanent : Nat) (s_glyphs : Nat) (s_dots : Nat) (s_used : Int32) (s_wishes : Nat) (s_pins : Nat) (s_id : Int32) (s_code : Int32) (s_chosen : Nat) (s_chosenKnown : Int32) (s_left : Nat) (s_coming : Nat) (a_ids : Nat) (a_places : Nat) (a_lengths : Nat) (a_permanent : Nat) (a_bytes : Nat) (a_id : Int32) (a_readingId : Int32) (a_collected : Nat) (a_collectedCount : Int32) (a_matched : Int32) (a_saidActs : Nat) (a_saidIds : Nat) (a_said : Int32) (r_dpi : Int32) (r_x : Int32) (r_y : Int32) (r_scale : Int32) (r_row : Int32) (r_width : Int32) (r_height : Int32) (r_rowBytes : Int32) (r_seed : Nat) (r_resolution : Int32) (r_method : Int32) (r_nextWidth : Int32) (r_nextHeight : Int32) (cc : ClassId) (ch : Nat → Int32) (ci : ClassId) (fi : Nat → Int32) (x : Int32) (A : Nat → Prop) : Array Value → State → Outcome → State → Prop := va_Qi (po_c_storeStatus_0 h0 m_dpi m_tape m_page m_sheet m_fonts m_macros m_raster m_interpreter m_picture m_coder m_reader m_file m_shown m_pictures s_ids s_attributes s_permanent s_glyphs s_dots s_used s_wishes s_pins s_id s_code s_chosen s_chosenKnown s_left s_coming a_ids a_places a_lengths a_permanent a_bytes a_id a_readingId a_collected a_collectedCount a_matched a_saidActs a_saidIds a_said r_dpi r_x r_y r_scale r_row r_width r_height r_rowBytes r_seed r_resolution r_method r_nextWidth r_nextHeight cc ch ci fi x) (at_c_storeStatus_0 dC dI h0 m_dpi m_tape m_page m_sheet m_fonts m_macros m_raster m_interpreter m_picture m_coder m_reader m_file m_shown m_pictures s_ids s_attributes s_permanent s_glyphs s_dots s_used s_wishes s_pins s_id s_code s_chosen s_chosenKnown s_left s_coming a_ids a_places a_lengths a_permanent a_bytes a_id a_readingId a_collected a_collectedCount a_matched a_saidActs a_saidIds a_said r_dpi r_x r_y r_scale r_row r_width r_height r_rowBytes r_seed r_resolution r_method r_nextWidth r_nextHeight cc ch ci fi x A) A
abbrev rm_c_storeStatus_0 : Room := { frames := 2, cells := 0, slots := 0, locals := 44 }
set_option maxHeartbeats 4000000 in
set_option maxRecDepth 100000 in
theorem c_storeStatus_0 (l : Launch) (dC : Nat → ClassId) (dI : Nat → Nat → Nat) (tt : Nat → Nat) (h0 : Nat) (m_dpi : Int32) (m_tape : Nat) (m_page : Nat) (m_sheet : Nat) (m_fonts : Nat) (m_macros : Nat) (m_raster : Nat) (m_interpreter : Nat) (m_picture : Nat) (m_coder : Nat) (m_reader : Nat) (m_file : Nat) (m_shown : Nat) (m_pictures : Int32) (s_ids : Nat) (s_attributes : Nat) (s_permanent : Nat) (s_glyphs : Nat) (s_dots : Nat) (s_used : Int32) (s_wishes : Nat) (s_pins : Nat) (s_id : Int32) (s_code : Int32) (s_chosen : Nat) (s_chosenKnown : Int32) (s_left : Nat) (s_coming : Nat) (a_ids : Nat) (a_places : Nat) (a_lengths : Nat) (a_permanent : Nat) (a_bytes : Nat) (a_id : Int32) (a_readingId : Int32) (a_collected : Nat) (a_collectedCount : Int32) (a_matched : Int32) (a_saidActs : Nat) (a_saidIds : Nat) (a_said : Int32) (r_dpi : Int32) (r_x : Int32) (r_y : Int32) (r_scale : Int32) (r_row : Int32) (r_width : Int32) (r_height : Int32) (r_rowBytes : Int32) (r_seed : Nat) (r_resolution : Int32) (r_method : Int32) (r_nextWidth : Int32) (r_nextHeight : Int32) (cc : ClassId) (ch : Nat → Int32) (ci : ClassId) (fi : Nat → Int32) (x : Int32) (sz : Nat) (hc0 : ch 0 = -1) (hc1 : ch 1 = -1) : Met l y_Main_storeStatus w_Main_storeStatus rm_c_storeStatus_0 (va_Pc [.ref h0, .int x] (fun U => U.heap.size = sz ∧ va_P (dC, dI) vcl [(h0, .inr (0, [.int m_dpi, .ref m_tape, .ref m_page, .ref m_sheet, .ref m_fonts, .ref m_macros, .ref m_raster, .ref m_interpreter, .ref m_picture, .ref m_coder, .ref m_reader, .ref m_file, .ref m_shown, .int 0, .int 0, .int 0, .int 0, .int m_pictures])), (m_fonts, .inr (3, [.ref s_ids, .ref s_attributes, .ref s_permanent, .int 0, .ref s_glyphs, .int 0, .ref s_dots, .int s_used, .ref s_wishes, .ref s_pins, .int s_id, .int s_code, .ref s_chosen, .int s_chosenKnown, .ref s_left, .ref s_coming])), (s_chosen, .inl (cc, 2, .inl ch)), (s_ids, .inl (ci, 32, .inl fi)), (m_macros, .inr (6, [.ref a_ids, .ref a_places, .ref a_lengths, .ref a_permanent, .int 0, .ref a_bytes, .int 0, .int 0, .int a_id, .int 0, .int a_readingId, .ref a_collected, .int a_collectedCount, .int a_matched, .ref a_saidActs, .ref a_saidIds, .int a_said])), (m_raster, .inr (11, [.int r_dpi, .int 0, .int r_x, .int r_y, .int r_scale, .int r_row, .int r_width, .int r_height, .int r_rowBytes, .ref r_seed, .int r_resolution, .int r_method, .int r_nextWidth, .int r_nextHeight]))] U.heap ∧ va_K (dC, dI) vcl [(cc, .int), (ci, .int)] U ∧ va_D (fun _ => True) [(h0, .inr (0, [.int m_dpi, .ref m_tape, .ref m_page, .ref m_sheet, .ref m_fonts, .ref m_macros, .ref m_raster, .ref m_interpreter, .ref m_picture, .ref m_coder, .ref m_reader, .ref m_file, .ref m_shown, .int 0, .int 0, .int 0, .int 0, .int m_pictures])), (m_fonts, .inr (3, [.ref s_ids, .ref s_attributes, .ref s_permanent, .int 0, .ref s_glyphs, .int 0, .ref s_dots, .int s_used, .ref s_wishes, .ref s_pins, .int s_id, .int s_code, .ref s_chosen, .int s_chosenKnown, .ref s_left, .ref s_coming])), (s_chosen, .inl (cc, 2, .inl ch)), (s_ids, .inl (ci, 32, .inl fi)), (m_macros, .inr (6, [.ref a_ids, .ref a_places, .ref a_lengths, .ref a_permanent, .int 0, .ref a_bytes, .int 0, .int 0, .int a_id, .int 0, .int a_readingId, .ref a_collected, .int a_collectedCount, .int a_matched, .ref a_saidActs, .ref a_saidIds, .int a_said])), (m_raster, .inr (11, [.int r_dpi, .int 0, .int r_x, .int r_y, .int r_scale, .int r_row, .int r_width, .int r_height, .int r_rowBytes, .ref r_seed, .int r_resolution, .int r_method, .int r_nextWidth, .int r_nextHeight]))] ∧ SF tt (va_A [(h0, .inr (0, [.int m_dpi, .ref m_tape, .ref m_page, .ref m_sheet, .ref m_fonts, .ref m_macros, .ref m_raster, .ref m_interpreter, .ref m_picture, .ref m_coder, .ref m_reader, .ref m_file, .ref m_shown, .int 0, .int 0, .int 0, .int 0, .int m_pictures])), (m_fonts, .inr (3, [.ref s_ids, .ref s_attributes, .ref s_permanent, .int 0, .ref s_glyphs, .int 0, .ref s_dots, .int s_used, .ref s_wishes, .ref s_pins, .int s_id, .int s_code, .ref s_chosen, .int s_chosenKnown, .ref s_left, .ref s_coming])), (s_chosen, .inl (cc, 2, .inl ch)), (s_ids, .inl (ci, 32, .inl fi)), (m_macros, .inr (6, [.ref a_ids, .ref a_places, .ref a_lengths, .ref a_permanent, .int 0, .ref a_bytes, .int 0, .int 0, .int a_id, .int 0, .int a_readingId, .ref a_collected, .int a_collectedCount, .int a_matched, .ref a_saidActs, .ref a_saidIds, .int a_said])), (m_raster, .inr (11, [.int r_dpi, .int 0, .int r_x, .int r_y, .int r_scale, .int r_row, .int r_width, .int r_height, .int r_rowBytes, .ref r_seed, .int r_resolution, .int r_method, .int r_nextWidth, .int r_nextHeight]))] sz) U U.heap)) (q_c_storeStatus_0 dC dI h0 m_dpi m_tape m_page m_sheet m_fonts m_macros m_raster m_interpreter m_picture m_coder m_reader m_file m_shown m_pictures s_ids s_attributes s_permanent s_glyphs s_dots s_used s_wishes s_pins s_id s_code s_chosen s_chosenKnown s_left s_coming a_ids a_places a_lengths a_permanent a_bytes a_id a_readingId a_collected a_collectedCount a_matched a_saidActs a_saidIds a_said r_dpi r_x r_y r_scale r_row r_width r_height r_rowBytes r_seed r_resolution r_method r_nextWidth r_nextHeight cc ch ci fi x (va_A [(h0, .inr (0, [.int m_dpi, .ref m_tape, .ref m_page, .ref m_sheet, .ref m_fonts, .ref m_macros, .ref m_raster, .ref m_interpreter, .ref m_picture, .ref m_coder, .ref m_reader, .ref m_file, .ref m_shown, .int 0, .int 0, .int 0, .int 0, .int m_pictures])), (m_fonts, .inr (3, [.ref s_ids, .ref s_attributes, .ref s_permanent, .int 0, .ref s_glyphs, .int 0, .ref s_dots, .int s_used, .ref s_wishes, .ref s_pins, .int s_id, .int s_code, .ref s_chosen, .int s_chosenKnown, .ref s_left, .ref s_coming])), (s_chosen, .inl (cc, 2, .inl ch)), (s_ids, .inl (ci, 32, .inl fi)), (m_macros, .inr (6, [.ref a_ids, .ref a_places, .ref a_lengths, .ref a_permanent, .int 0, .ref a_bytes, .int 0, .int 0, .int a_id, .int 0, .int a_readingId, .ref a_collected, .int a_collectedCount, .int a_matched, .ref a_saidActs, .ref a_saidIds, .int a_said])), (m_raster, .inr (11, [.int r_dpi, .int 0, .int r_x, .int r_y, .int r_scale, .int r_row, .int r_width, .int r_height, .int r_rowBytes, .ref r_seed, .int r_resolution, .int r_method, .int r_nextWidth, .int r_nextHeight]))] sz)) 0 0 (va_A [(h0, .inr (0, [.int m_dpi, .ref m_tape, .ref m_page, .ref m_sheet, .ref m_fonts, .ref m_macros, .ref m_raster, .ref m_interpreter, .ref m_picture, .ref m_coder, .ref m_reader, .ref m_file, .ref m_shown, .int 0, .int 0, .int 0, .int 0, .int m_pictures])), (m_fonts, .inr (3, [.ref s_ids, .ref s_attributes, .ref s_permanent, .int 0, .ref s_glyphs, .int 0, .ref s_dots, .int s_used, .ref s_wishes, .ref s_pins, .int s_id, .int s_code, .ref s_chosen, .int s_chosenKnown, .ref s_left, .ref s_coming])), (s_chosen, .inl (cc, 2, .inl ch)), (s_ids, .inl (ci, 32, .inl fi)), (m_macros, .inr (6, [.ref a_ids, .ref a_places, .ref a_lengths, .ref a_permanent, .int 0, .ref a_bytes, .int 0, .int 0, .int a_id, .int 0, .int a_readingId, .ref a_collected, .int a_collectedCount, .int a_matched, .ref a_saidActs, .ref a_saidIds, .int a_said])), (m_raster, .inr (11, [.int r_dpi, .int 0, .int r_x, .int r_y, .int r_scale, .int r_row, .int r_width, .int r_height, .int r_rowBytes, .ref r_seed, .int r_resolution, .int r_method, .int r_nextWidth, .int r_nextHeight]))] sz) := by
  refine Met.ofW (cc := b_Main_storeStatus) (maxL := 2) (ret := (some .int)) (by decide) rfl ?_
  intro p e s m args below meth c s₁ B hml hv
  obtain ⟨rfl, hsz, hP, hK, hD0, hF⟩ := hv
  have hx := B.exec
  have hb := B.bytes
  have hr := B.returns
  have hwd : ∀ w ∈ gT, w.before _ s = true := fun w h => atoms_spec (ws := w_Main_storeStatus) B.pre w (List.mem_cons_of_mem _ h)
  have hown : s.vm.findClass R_Main = some m.cls := findClass_of_methodNamed B.named
  have hlocks := B.notSynchronized
  subst hsz
  have hD := hD0.self (sz := s.heap.size)
  generalize hAe : va_A [(h0, .inr (0, [.int m_dpi, .ref m_tape, .ref m_page, .ref m_sheet, .ref m_fonts, .ref m_macros, .ref m_raster, .ref m_interpreter, .ref m_picture, .ref m_coder, .ref m_reader, .ref m_file, .ref m_shown, .int 0, .int 0, .int 0, .int 0, .int m_pictures])), (m_fonts, .inr (3, [.ref s_ids, .ref s_attributes, .ref s_permanent, .int 0, .ref s_glyphs, .int 0, .ref s_dots, .int s_used, .ref s_wishes, .ref s_pins, .int s_id, .int s_code, .ref s_chosen, .int s_chosenKnown, .ref s_left, .ref s_coming])), (s_chosen, .inl (cc, 2, .inl ch)), (s_ids, .inl (ci, 32, .inl fi)), (m_macros, .inr (6, [.ref a_ids, .ref a_places, .ref a_lengths, .ref a_permanent, .int 0, .ref a_bytes, .int 0, .int 0, .int a_id, .int 0, .int a_readingId, .ref a_collected, .int a_collectedCount, .int a_matched, .ref a_saidActs, .ref a_saidIds, .int a_said])), (m_raster, .inr (11, [.int r_dpi, .int 0, .int r_x, .int r_y, .int r_scale, .int r_row, .int r_width, .int r_height, .int r_rowBytes, .ref r_seed, .int r_resolution, .int r_method, .int r_nextWidth, .int r_nextHeight]))] s.heap.size = A at hD hF ⊢
  have hA : ∀ q : Nat, s.heap.size ≤ q → A q := fun q h => by rw [← hAe]; exact Or.inr h
  have hS : va_S A s.heap s.heap [] := va_S.rf
  have hP : va_P (dC, dI) vcl [(h0, .inr (0, [.int m_dpi, .ref m_tape, .ref m_page, .ref m_sheet, .ref m_fonts, .ref m_macros, .ref m_raster, .ref m_interpreter, .ref m_picture, .ref m_coder, .ref m_reader, .ref m_file, .ref m_shown, .int 0, .int 0, .int 0, .int 0, .int m_pictures])), (m_fonts, .inr (3, [.ref s_ids, .ref s_attributes, .ref s_permanent, .int 0, .ref s_glyphs, .int 0, .ref s_dots, .int s_used, .ref s_wishes, .ref s_pins, .int s_id, .int s_code, .ref s_chosen, .int s_chosenKnown, .ref s_left, .ref s_coming])), (s_chosen, .inl (cc, 2, .inl ch)), (s_ids, .inl (ci, 32, .inl fi)), (m_macros, .inr (6, [.ref a_ids, .ref a_places, .ref a_lengths, .ref a_permanent, .int 0, .ref a_bytes, .int 0, .int 0, .int a_id, .int 0, .int a_readingId, .ref a_collected, .int a_collectedCount, .int a_matched, .ref a_saidActs, .ref a_saidIds, .int a_said])), (m_raster, .inr (11, [.int r_dpi, .int 0, .int r_x, .int r_y, .int r_scale, .int r_row, .int r_width, .int r_height, .int r_rowBytes, .ref r_seed, .int r_resolution, .int r_method, .int r_nextWidth, .int r_nextHeight]))] s.heap := hP
  have hl := lv_entry ([.ref h0, .int x]) (n := 2) (Nat.le_of_ble_eq_true rfl)
  rw [lg_entry_eq]
  generalize (lg_sl ([.ref h0, .int x]) ++ List.replicate (2 - (lg_sl ([.ref h0, .int x])).length) Slot.unset).toArray = ls at hl ⊢
  have hl : lv_has ls 2 [(0, .ref h0), (1, .int x)] := hl
  refine lv_iload_n hx hb d_Main_storeStatus_0 rfl (lv_at hl 1 rfl) ?_
  by_cases w1_0 : x = 12
  · refine lv_tableIn (tgt := 56) hx hb d_Main_storeStatus_1 (by rw [w1_0]; decide) (by rw [w1_0]; decide) (by rw [w1_0]; rfl) (by decide) ?_
    refine lv_aload_n hx hb d_Main_storeStatus_56 rfl (lv_at hl 0 rfl) ?_
    refine va_get (D := (dC, dI)) (ci := 0) (v := .ref m_fonts) (C := R_Main) (T := F_Main) (N := 18) hx hb hwd i_Main hown hK hP 0 rfl rfl 4 (by decide) (hwd _ wd_4_130) (fun _ h9 => h9) rfl d_Main_storeStatus_57 ?_
    refine va_get (D := (dC, dI)) (ci := 3) (v := .int 0) (C := R_FontShelf) (T := F_FontShelf) (N := 16) hx hb hwd i_FontShelf hown hK hP 1 rfl rfl 3 (by decide) (hwd _ wd_2_102) (fun _ h9 => h9) rfl d_Main_storeStatus_60 ?_
    have hP9 := hP.sub (ws' := [(h0, .inr (0, [.int m_dpi, .ref m_tape, .ref m_page, .ref m_sheet, .ref m_fonts, .ref m_macros, .ref m_raster, .ref m_interpreter, .ref m_picture, .ref m_coder, .ref m_reader, .ref m_file, .ref m_shown, .int 0, .int 0, .int 0, .int 0, .int m_pictures])), (m_fonts, .inr (3, [.ref s_ids, .ref s_attributes, .ref s_permanent, .int 0, .ref s_glyphs, .int 0, .ref s_dots, .int s_used, .ref s_wishes, .ref s_pins, .int s_id, .int s_code, .ref s_chosen, .int s_chosenKnown, .ref s_left, .ref s_coming])), (s_chosen, .inl (cc, 2, .inl ch)), (s_ids, .inl (ci, 32, .inl fi)), (m_macros, .inr (6, [.ref a_ids, .ref a_places, .ref a_lengths, .ref a_permanent, .int 0, .ref a_bytes, .int 0, .int 0, .int a_id, .int 0, .int a_readingId, .ref a_collected, .int a_collectedCount, .int a_matched, .ref a_saidActs, .ref a_saidIds, .int a_said])), (m_raster, .inr (11, [.int r_dpi, .int 0, .int r_x, .int r_y, .int r_scale, .int r_row, .int r_width, .int r_height, .int r_rowBytes, .ref r_seed, .int r_resolution, .int r_method, .int r_nextWidth, .int r_nextHeight]))]) [0, 1, 2, 3, 4, 5] rfl
    have hD9 := hD.sub (ws' := [(h0, .inr (0, [.int m_dpi, .ref m_tape, .ref m_page, .ref m_sheet, .ref m_fonts, .ref m_macros, .ref m_raster, .ref m_interpreter, .ref m_picture, .ref m_coder, .ref m_reader, .ref m_file, .ref m_shown, .int 0, .int 0, .int 0, .int 0, .int m_pictures])), (m_fonts, .inr (3, [.ref s_ids, .ref s_attributes, .ref s_permanent, .int 0, .ref s_glyphs, .int 0, .ref s_dots, .int s_used, .ref s_wishes, .ref s_pins, .int s_id, .int s_code, .ref s_chosen, .int s_chosenKnown, .ref s_left, .ref s_coming])), (s_chosen, .inl (cc, 2, .inl ch)), (s_ids, .inl (ci, 32, .inl fi)), (m_macros, .inr (6, [.ref a_ids, .ref a_places, .ref a_lengths, .ref a_permanent, .int 0, .ref a_bytes, .int 0, .int 0, .int a_id, .int 0, .int a_readingId, .ref a_collected, .int a_collectedCount, .int a_matched, .ref a_saidActs, .ref a_saidIds, .int a_said])), (m_raster, .inr (11, [.int r_dpi, .int 0, .int r_x, .int r_y, .int r_scale, .int r_row, .int r_width, .int r_height, .int r_rowBytes, .ref r_seed, .int r_resolution, .int r_method, .int r_nextWidth, .int r_nextHeight]))]) [0, 1, 2, 3, 4, 5] (by decide) rfl
    have hK9 := hK.sub (tys' := [(cc, .int), (ci, .int)]) [0, 1] rfl
    exact W.iret (v := 0) hx hb hr (fun t ht hW => ⟨⟨0, (), rfl, (show (0 : Int32) = ssF x from (by first | (rw [w1_0]; rfl) | (rw [w1_1]; rfl) | (rw [w1_2]; rfl) | (rw [w1_3]; rfl) | (rw [w1_4]; rfl) | (rw [w1_5]; rfl) | (rw [w1_6]; rfl) | (rw [w1_7]; rfl) | (rw [w1_8]; rfl) | (rw [w1_9]; rfl) | (unfold ssF; rw [if_neg w1_0, if_neg w1_1, if_neg w1_2, if_neg w1_3, if_neg w1_4, if_neg w1_5, if_neg w1_6, if_neg w1_7, if_neg w1_8, if_neg w1_9]))), by rw [ht]; exact hP9, va_K.moved hW.alike hK9, hD9⟩, hS.F ht⟩) hS.2.2 d_Main_storeStatus_63
  by_cases w1_1 : x = 13
  · refine lv_tableIn (tgt := 64) hx hb d_Main_storeStatus_1 (by rw [w1_1]; decide) (by rw [w1_1]; decide) (by rw [w1_1]; rfl) (by decide) ?_
    refine lv_aload_n hx hb d_Main_storeStatus_64 rfl (lv_at hl 0 rfl) ?_
    refine va_get (D := (dC, dI)) (ci := 0) (v := .ref m_fonts) (C := R_Main) (T := F_Main) (N := 18) hx hb hwd i_Main hown hK hP 0 rfl rfl 4 (by decide) (hwd _ wd_4_130) (fun _ h9 => h9) rfl d_Main_storeStatus_65 ?_
    refine va_get (D := (dC, dI)) (ci := 3) (v := .int 0) (C := R_FontShelf) (T := F_FontShelf) (N := 16) hx hb hwd i_FontShelf hown hK hP 1 rfl rfl 5 (by decide) (hwd _ wd_2_105) (fun _ h9 => h9) rfl d_Main_storeStatus_68 ?_
    have hP9 := hP.sub (ws' := [(h0, .inr (0, [.int m_dpi, .ref m_tape, .ref m_page, .ref m_sheet, .ref m_fonts, .ref m_macros, .ref m_raster, .ref m_interpreter, .ref m_picture, .ref m_coder, .ref m_reader, .ref m_file, .ref m_shown, .int 0, .int 0, .int 0, .int 0, .int m_pictures])), (m_fonts, .inr (3, [.ref s_ids, .ref s_attributes, .ref s_permanent, .int 0, .ref s_glyphs, .int 0, .ref s_dots, .int s_used, .ref s_wishes, .ref s_pins, .int s_id, .int s_code, .ref s_chosen, .int s_chosenKnown, .ref s_left, .ref s_coming])), (s_chosen, .inl (cc, 2, .inl ch)), (s_ids, .inl (ci, 32, .inl fi)), (m_macros, .inr (6, [.ref a_ids, .ref a_places, .ref a_lengths, .ref a_permanent, .int 0, .ref a_bytes, .int 0, .int 0, .int a_id, .int 0, .int a_readingId, .ref a_collected, .int a_collectedCount, .int a_matched, .ref a_saidActs, .ref a_saidIds, .int a_said])), (m_raster, .inr (11, [.int r_dpi, .int 0, .int r_x, .int r_y, .int r_scale, .int r_row, .int r_width, .int r_height, .int r_rowBytes, .ref r_seed, .int r_resolution, .int r_method, .int r_nextWidth, .int r_nextHeight]))]) [0, 1, 2, 3, 4, 5] rfl
    have hD9 := hD.sub (ws' := [(h0, .inr (0, [.int m_dpi, .ref m_tape, .ref m_page, .ref m_sheet, .ref m_fonts, .ref m_macros, .ref m_raster, .ref m_interpreter, .ref m_picture, .ref m_coder, .ref m_reader, .ref m_file, .ref m_shown, .int 0, .int 0, .int 0, .int 0, .int m_pictures])), (m_fonts, .inr (3, [.ref s_ids, .ref s_attributes, .ref s_permanent, .int 0, .ref s_glyphs, .int 0, .ref s_dots, .int s_used, .ref s_wishes, .ref s_pins, .int s_id, .int s_code, .ref s_chosen, .int s_chosenKnown, .ref s_left, .ref s_coming])), (s_chosen, .inl (cc, 2, .inl ch)), (s_ids, .inl (ci, 32, .inl fi)), (m_macros, .inr (6, [.ref a_ids, .ref a_places, .ref a_lengths, .ref a_permanent, .int 0, .ref a_bytes, .int 0, .int 0, .int a_id, .int 0, .int a_readingId, .ref a_collected, .int a_collectedCount, .int a_matched, .ref a_saidActs, .ref a_saidIds, .int a_said])), (m_raster, .inr (11, [.int r_dpi, .int 0, .int r_x, .int r_y, .int r_scale, .int r_row, .int r_width, .int r_height, .int r_rowBytes, .ref r_seed, .int r_resolution, .int r_method, .int r_nextWidth, .int r_nextHeight]))]) [0, 1, 2, 3, 4, 5] (by decide) rfl
    have hK9 := hK.sub (tys' := [(cc, .int), (ci, .int)]) [0, 1] rfl
    exact W.iret (v := 0) hx hb hr (fun t ht hW => ⟨⟨0, (), rfl, (show (0 : Int32) = ssF x from (by first | (rw [w1_0]; rfl) | (rw [w1_1]; rfl) | (rw [w1_2]; rfl) | (rw [w1_3]; rfl) | (rw [w1_4]; rfl) | (rw [w1_5]; rfl) | (rw [w1_6]; rfl) | (rw [w1_7]; rfl) | (rw [w1_8]; rfl) | (rw [w1_9]; rfl) | (unfold ssF; rw [if_neg w1_0, if_neg w1_1, if_neg w1_2, if_neg w1_3, if_neg w1_4, if_neg w1_5, if_neg w1_6, if_neg w1_7, if_neg w1_8, if_neg w1_9]))), by rw [ht]; exact hP9, va_K.moved hW.alike hK9, hD9⟩, hS.F ht⟩) hS.2.2 d_Main_storeStatus_71
  by_cases w1_2 : x = 14
  · refine lv_tableIn (tgt := 72) hx hb d_Main_storeStatus_1 (by rw [w1_2]; decide) (by rw [w1_2]; decide) (by rw [w1_2]; rfl) (by decide) ?_
    refine lv_aload_n hx hb d_Main_storeStatus_72 rfl (lv_at hl 0 rfl) ?_
    refine va_get (D := (dC, dI)) (ci := 0) (v := .ref m_fonts) (C := R_Main) (T := F_Main) (N := 18) hx hb hwd i_Main hown hK hP 0 rfl rfl 4 (by decide) (hwd _ wd_4_130) (fun _ h9 => h9) rfl d_Main_storeStatus_73 ?_
    refine lv_iconst (v := 0) hx hb d_Main_storeStatus_76 (by decide) ?_
    have hPc := hP.sub (ws' := [(m_fonts, .inr (3, [.ref s_ids, .ref s_attributes, .ref s_permanent, .int 0, .ref s_glyphs, .int 0, .ref s_dots, .int s_used, .ref s_wishes, .ref s_pins, .int s_id, .int s_code, .ref s_chosen, .int s_chosenKnown, .ref s_left, .ref s_coming])), (s_chosen, .inl (cc, 2, .inl ch)), (s_ids, .inl (ci, 32, .inl fi))]) [1, 2, 3] rfl
    have hDc := hD.sub (ws' := [(m_fonts, .inr (3, [.ref s_ids, .ref s_attributes, .ref s_permanent, .int 0, .ref s_glyphs, .int 0, .ref s_dots, .int s_used, .ref s_wishes, .ref s_pins, .int s_id, .int s_code, .ref s_chosen, .int s_chosenKnown, .ref s_left, .ref s_coming])), (s_chosen, .inl (cc, 2, .inl ch)), (s_ids, .inl (ci, 32, .inl fi))]) [1, 2, 3] (by decide) rfl
    have hKc := hK.sub (tys' := [(cc, .int), (ci, .int)]) [0, 1] rfl
    have hFc := va_free (wc := [(m_fonts, .inr (3, [.ref s_ids, .ref s_attributes, .ref s_permanent, .int 0, .ref s_glyphs, .int 0, .ref s_dots, .int s_used, .ref s_wishes, .ref s_pins, .int s_id, .int s_code, .ref s_chosen, .int s_chosenKnown, .ref s_left, .ref s_coming])), (s_chosen, .inl (cc, 2, .inl ch)), (s_ids, .inl (ci, 32, .inl fi))]) hD hS hA [1, 2, 3] rfl
    refine va_calli (va_runV (As := [.int 0]) (rest := []) ⟨hx, hb, hml, hown, hwd⟩ (c_chosenId_0 l dC dI tt m_fonts s_ids s_attributes s_permanent 0 s_glyphs 0 s_dots s_used s_wishes s_pins s_id s_code s_chosen s_chosenKnown s_left s_coming cc ch ci fi s.heap.size (hc0)) (cwV 1 hwd (gV gd_FontShelf_chosenId wd_5_206 wd_5_207 wd_5_208 wd_1_5) rfl rfl rfl (by decide +kernel) ⟨Nat.le_of_ble_eq_true rfl, Nat.le_of_ble_eq_true rfl⟩) ⟨fun a U g mk q => by obtain ⟨q0, q1, qP, qK, qD, qF⟩ := q; exact ⟨q0, q1, qP, va_K.moved (u := U) (U := U.calling g mk a) (Vm.Alike.refl U.vm) qK, qD, SF.same (u := U) (U := U.calling g mk a) rfl qF⟩, va_recv hKc hPc (ci := 3) (q0 := 0) rfl rfl, fun U hU hW => ⟨rfl, by rw [hU], by rw [hU]; exact hPc, va_K.moved hW.alike hKc, hDc.weaken (fun _ _ _ _ => trivial), by rw [hU]; exact SF.narrow (SF.moved hW (SF.kept hF (fun a h1 h2 => hS.2.1 a h1 h2))) hFc⟩⟩ rfl rfl hl.1 rfl (lv_room (Nat.le_of_ble_eq_true rfl)) d_Main_storeStatus_77 ⟨Nat.le_of_ble_eq_true rfl, Nat.le_of_ble_eq_true rfl⟩) hS (fun q _ h => hFc q h) hFc ?_
    clear hPc hDc hKc hS
    intro r_1 u_2 t H1 locs ht hvm hw hB hz1 hk1 hS
    obtain ⟨hP1, hK1, hD1⟩ := hB
    rw [ht] at hP1
    have hK1 := va_K.moved hvm.symm hK1
    try dsimp only at hw
    have hJ := va_join (wr := [(h0, .inr (0, [.int m_dpi, .ref m_tape, .ref m_page, .ref m_sheet, .ref m_fonts, .ref m_macros, .ref m_raster, .ref m_interpreter, .ref m_picture, .ref m_coder, .ref m_reader, .ref m_file, .ref m_shown, .int 0, .int 0, .int 0, .int 0, .int m_pictures])), (m_macros, .inr (6, [.ref a_ids, .ref a_places, .ref a_lengths, .ref a_permanent, .int 0, .ref a_bytes, .int 0, .int 0, .int a_id, .int 0, .int a_readingId, .ref a_collected, .int a_collectedCount, .int a_matched, .ref a_saidActs, .ref a_saidIds, .int a_said])), (m_raster, .inr (11, [.int r_dpi, .int 0, .int r_x, .int r_y, .int r_scale, .int r_row, .int r_width, .int r_height, .int r_rowBytes, .ref r_seed, .int r_resolution, .int r_method, .int r_nextWidth, .int r_nextHeight]))]) (w1 := [(m_fonts, .inr (3, [.ref s_ids, .ref s_attributes, .ref s_permanent, .int 0, .ref s_glyphs, .int 0, .ref s_dots, .int s_used, .ref s_wishes, .ref s_pins, .int s_id, .int s_code, .ref s_chosen, .int s_chosenKnown, .ref s_left, .ref s_coming])), (s_chosen, .inl (cc, 2, .inl ch)), (s_ids, .inl (ci, 32, .inl fi))]) hP hD [1, 2, 3] [0, 4, 5] rfl rfl (by decide) (by decide) hk1 hFc hP1 hD1
    clear hP hD hk1 hFc hP1 hD1 hz1
    obtain ⟨hP, hD⟩ := hJ
    clear hK1 ht hvm
    generalize H1 = H at hP hS ⊢
    replace hP : va_P (dC, dI) vcl [(h0, .inr (0, [.int m_dpi, .ref m_tape, .ref m_page, .ref m_sheet, .ref m_fonts, .ref m_macros, .ref m_raster, .ref m_interpreter, .ref m_picture, .ref m_coder, .ref m_reader, .ref m_file, .ref m_shown, .int 0, .int 0, .int 0, .int 0, .int m_pictures])), (m_macros, .inr (6, [.ref a_ids, .ref a_places, .ref a_lengths, .ref a_permanent, .int 0, .ref a_bytes, .int 0, .int 0, .int a_id, .int 0, .int a_readingId, .ref a_collected, .int a_collectedCount, .int a_matched, .ref a_saidActs, .ref a_saidIds, .int a_said])), (m_raster, .inr (11, [.int r_dpi, .int 0, .int r_x, .int r_y, .int r_scale, .int r_row, .int r_width, .int r_height, .int r_rowBytes, .ref r_seed, .int r_resolution, .int r_method, .int r_nextWidth, .int r_nextHeight])), (m_fonts, .inr (3, [.ref s_ids, .ref s_attributes, .ref s_permanent, .int 0, .ref s_glyphs, .int 0, .ref s_dots, .int s_used, .ref s_wishes, .ref s_pins, .int s_id, .int s_code, .ref s_chosen, .int s_chosenKnown, .ref s_left, .ref s_coming])), (s_chosen, .inl (cc, 2, .inl ch)), (s_ids, .inl (ci, 32, .inl fi))] H := hP
    replace hD : va_D A [(h0, .inr (0, [.int m_dpi, .ref m_tape, .ref m_page, .ref m_sheet, .ref m_fonts, .ref m_macros, .ref m_raster, .ref m_interpreter, .ref m_picture, .ref m_coder, .ref m_reader, .ref m_file, .ref m_shown, .int 0, .int 0, .int 0, .int 0, .int m_pictures])), (m_macros, .inr (6, [.ref a_ids, .ref a_places, .ref a_lengths, .ref a_permanent, .int 0, .ref a_bytes, .int 0, .int 0, .int a_id, .int 0, .int a_readingId, .ref a_collected, .int a_collectedCount, .int a_matched, .ref a_saidActs, .ref a_saidIds, .int a_said])), (m_raster, .inr (11, [.int r_dpi, .int 0, .int r_x, .int r_y, .int r_scale, .int r_row, .int r_width, .int r_height, .int r_rowBytes, .ref r_seed, .int r_resolution, .int r_method, .int r_nextWidth, .int r_nextHeight])), (m_fonts, .inr (3, [.ref s_ids, .ref s_attributes, .ref s_permanent, .int 0, .ref s_glyphs, .int 0, .ref s_dots, .int s_used, .ref s_wishes, .ref s_pins, .int s_id, .int s_code, .ref s_chosen, .int s_chosenKnown, .ref s_left, .ref s_coming])), (s_chosen, .inl (cc, 2, .inl ch)), (s_ids, .inl (ci, 32, .inl fi))] := hD
    obtain rfl := hw
    have hP9 := hP.sub (ws' := [(h0, .inr (0, [.int m_dpi, .ref m_tape, .ref m_page, .ref m_sheet, .ref m_fonts, .ref m_macros, .ref m_raster, .ref m_interpreter, .ref m_picture, .ref m_coder, .ref m_reader, .ref m_file, .ref m_shown, .int 0, .int 0, .int 0, .int 0, .int m_pictures])), (m_fonts, .inr (3, [.ref s_ids, .ref s_attributes, .ref s_permanent, .int 0, .ref s_glyphs, .int 0, .ref s_dots, .int s_used, .ref s_wishes, .ref s_pins, .int s_id, .int s_code, .ref s_chosen, .int s_chosenKnown, .ref s_left, .ref s_coming])), (s_chosen, .inl (cc, 2, .inl ch)), (s_ids, .inl (ci, 32, .inl fi)), (m_macros, .inr (6, [.ref a_ids, .ref a_places, .ref a_lengths, .ref a_permanent, .int 0, .ref a_bytes, .int 0, .int 0, .int a_id, .int 0, .int a_readingId, .ref a_collected, .int a_collectedCount, .int a_matched, .ref a_saidActs, .ref a_saidIds, .int a_said])), (m_raster, .inr (11, [.int r_dpi, .int 0, .int r_x, .int r_y, .int r_scale, .int r_row, .int r_width, .int r_height, .int r_rowBytes, .ref r_seed, .int r_resolution, .int r_method, .int r_nextWidth, .int r_nextHeight]))]) [0, 3, 4, 5, 1, 2] rfl
    have hD9 := hD.sub (ws' := [(h0, .inr (0, [.int m_dpi, .ref m_tape, .ref m_page, .ref m_sheet, .ref m_fonts, .ref m_macros, .ref m_raster, .ref m_interpreter, .ref m_picture, .ref m_coder, .ref m_reader, .ref m_file, .ref m_shown, .int 0, .int 0, .int 0, .int 0, .int m_pictures])), (m_fonts, .inr (3, [.ref s_ids, .ref s_attributes, .ref s_permanent, .int 0, .ref s_glyphs, .int 0, .ref s_dots, .int s_used, .ref s_wishes, .ref s_pins, .int s_id, .int s_code, .ref s_chosen, .int s_chosenKnown, .ref s_left, .ref s_coming])), (s_chosen, .inl (cc, 2, .inl ch)), (s_ids, .inl (ci, 32, .inl fi)), (m_macros, .inr (6, [.ref a_ids, .ref a_places, .ref a_lengths, .ref a_permanent, .int 0, .ref a_bytes, .int 0, .int 0, .int a_id, .int 0, .int a_readingId, .ref a_collected, .int a_collectedCount, .int a_matched, .ref a_saidActs, .ref a_saidIds, .int a_said])), (m_raster, .inr (11, [.int r_dpi, .int 0, .int r_x, .int r_y, .int r_scale, .int r_row, .int r_width, .int r_height, .int r_rowBytes, .ref r_seed, .int r_resolution, .int r_method, .int r_nextWidth, .int r_nextHeight]))]) [0, 3, 4, 5, 1, 2] (by decide) rfl
    have hK9 := hK.sub (tys' := [(cc, .int), (ci, .int)]) [0, 1] rfl
    exact W.iret (v := (-1)) hx hb hr (fun t ht hW => ⟨⟨(-1), (), rfl, (show ((-1) : Int32) = ssF x from (by first | (rw [w1_0]; rfl) | (rw [w1_1]; rfl) | (rw [w1_2]; rfl) | (rw [w1_3]; rfl) | (rw [w1_4]; rfl) | (rw [w1_5]; rfl) | (rw [w1_6]; rfl) | (rw [w1_7]; rfl) | (rw [w1_8]; rfl) | (rw [w1_9]; rfl) | (unfold ssF; rw [if_neg w1_0, if_neg w1_1, if_neg w1_2, if_neg w1_3, if_neg w1_4, if_neg w1_5, if_neg w1_6, if_neg w1_7, if_neg w1_8, if_neg w1_9]))), by rw [ht]; exact hP9, va_K.moved hW.alike hK9, hD9⟩, hS.F ht⟩) hS.2.2 d_Main_storeStatus_80
  by_cases w1_3 : x = 15
  · refine lv_tableIn (tgt := 81) hx hb d_Main_storeStatus_1 (by rw [w1_3]; decide) (by rw [w1_3]; decide) (by rw [w1_3]; rfl) (by decide) ?_
    refine lv_aload_n hx hb d_Main_storeStatus_81 rfl (lv_at hl 0 rfl) ?_
    refine va_get (D := (dC, dI)) (ci := 0) (v := .ref m_fonts) (C := R_Main) (T := F_Main) (N := 18) hx hb hwd i_Main hown hK hP 0 rfl rfl 4 (by decide) (hwd _ wd_4_130) (fun _ h9 => h9) rfl d_Main_storeStatus_82 ?_
    refine lv_iconst (v := 1) hx hb d_Main_storeStatus_85 (by decide) ?_
    have hPc := hP.sub (ws' := [(m_fonts, .inr (3, [.ref s_ids, .ref s_attributes, .ref s_permanent, .int 0, .ref s_glyphs, .int 0, .ref s_dots, .int s_used, .ref s_wishes, .ref s_pins, .int s_id, .int s_code, .ref s_chosen, .int s_chosenKnown, .ref s_left, .ref s_coming])), (s_chosen, .inl (cc, 2, .inl ch)), (s_ids, .inl (ci, 32, .inl fi))]) [1, 2, 3] rfl
    have hDc := hD.sub (ws' := [(m_fonts, .inr (3, [.ref s_ids, .ref s_attributes, .ref s_permanent, .int 0, .ref s_glyphs, .int 0, .ref s_dots, .int s_used, .ref s_wishes, .ref s_pins, .int s_id, .int s_code, .ref s_chosen, .int s_chosenKnown, .ref s_left, .ref s_coming])), (s_chosen, .inl (cc, 2, .inl ch)), (s_ids, .inl (ci, 32, .inl fi))]) [1, 2, 3] (by decide) rfl
    have hKc := hK.sub (tys' := [(cc, .int), (ci, .int)]) [0, 1] rfl
    have hFc := va_free (wc := [(m_fonts, .inr (3, [.ref s_ids, .ref s_attributes, .ref s_permanent, .int 0, .ref s_glyphs, .int 0, .ref s_dots, .int s_used, .ref s_wishes, .ref s_pins, .int s_id, .int s_code, .ref s_chosen, .int s_chosenKnown, .ref s_left, .ref s_coming])), (s_chosen, .inl (cc, 2, .inl ch)), (s_ids, .inl (ci, 32, .inl fi))]) hD hS hA [1, 2, 3] rfl
    refine va_calli (va_runV (As := [.int 1]) (rest := []) ⟨hx, hb, hml, hown, hwd⟩ (c_chosenId_1 l dC dI tt m_fonts s_ids s_attributes s_permanent 0 s_glyphs 0 s_dots s_used s_wishes s_pins s_id s_code s_chosen s_chosenKnown s_left s_coming cc ch ci fi s.heap.size (hc1)) (cwV 1 hwd (gV gd_FontShelf_chosenId wd_5_206 wd_5_207 wd_5_208 wd_1_5) rfl rfl rfl (by decide +kernel) ⟨Nat.le_of_ble_eq_true rfl, Nat.le_of_ble_eq_true rfl⟩) ⟨fun a U g mk q => by obtain ⟨q0, q1, qP, qK, qD, qF⟩ := q; exact ⟨q0, q1, qP, va_K.moved (u := U) (U := U.calling g mk a) (Vm.Alike.refl U.vm) qK, qD, SF.same (u := U) (U := U.calling g mk a) rfl qF⟩, va_recv hKc hPc (ci := 3) (q0 := 0) rfl rfl, fun U hU hW => ⟨rfl, by rw [hU], by rw [hU]; exact hPc, va_K.moved hW.alike hKc, hDc.weaken (fun _ _ _ _ => trivial), by rw [hU]; exact SF.narrow (SF.moved hW (SF.kept hF (fun a h1 h2 => hS.2.1 a h1 h2))) hFc⟩⟩ rfl rfl hl.1 rfl (lv_room (Nat.le_of_ble_eq_true rfl)) d_Main_storeStatus_86 ⟨Nat.le_of_ble_eq_true rfl, Nat.le_of_ble_eq_true rfl⟩) hS (fun q _ h => hFc q h) hFc ?_
    clear hPc hDc hKc hS
    intro r_3 u_4 t H1 locs ht hvm hw hB hz1 hk1 hS
    obtain ⟨hP1, hK1, hD1⟩ := hB
    rw [ht] at hP1
    have hK1 := va_K.moved hvm.symm hK1
    try dsimp only at hw
    have hJ := va_join (wr := [(h0, .inr (0, [.int m_dpi, .ref m_tape, .ref m_page, .ref m_sheet, .ref m_fonts, .ref m_macros, .ref m_raster, .ref m_interpreter, .ref m_picture, .ref m_coder, .ref m_reader, .ref m_file, .ref m_shown, .int 0, .int 0, .int 0, .int 0, .int m_pictures])), (m_macros, .inr (6, [.ref a_ids, .ref a_places, .ref a_lengths, .ref a_permanent, .int 0, .ref a_bytes, .int 0, .int 0, .int a_id, .int 0, .int a_readingId, .ref a_collected, .int a_collectedCount, .int a_matched, .ref a_saidActs, .ref a_saidIds, .int a_said])), (m_raster, .inr (11, [.int r_dpi, .int 0, .int r_x, .int r_y, .int r_scale, .int r_row, .int r_width, .int r_height, .int r_rowBytes, .ref r_seed, .int r_resolution, .int r_method, .int r_nextWidth, .int r_nextHeight]))]) (w1 := [(m_fonts, .inr (3, [.ref s_ids, .ref s_attributes, .ref s_permanent, .int 0, .ref s_glyphs, .int 0, .ref s_dots, .int s_used, .ref s_wishes, .ref s_pins, .int s_id, .int s_code, .ref s_chosen, .int s_chosenKnown, .ref s_left, .ref s_coming])), (s_chosen, .inl (cc, 2, .inl ch)), (s_ids, .inl (ci, 32, .inl fi))]) hP hD [1, 2, 3] [0, 4, 5] rfl rfl (by decide) (by decide) hk1 hFc hP1 hD1
    clear hP hD hk1 hFc hP1 hD1 hz1
    obtain ⟨hP, hD⟩ := hJ
    clear hK1 ht hvm
    generalize H1 = H at hP hS ⊢
    replace hP : va_P (dC, dI) vcl [(h0, .inr (0, [.int m_dpi, .ref m_tape, .ref m_page, .ref m_sheet, .ref m_fonts, .ref m_macros, .ref m_raster, .ref m_interpreter, .ref m_picture, .ref m_coder, .ref m_reader, .ref m_file, .ref m_shown, .int 0, .int 0, .int 0, .int 0, .int m_pictures])), (m_macros, .inr (6, [.ref a_ids, .ref a_places, .ref a_lengths, .ref a_permanent, .int 0, .ref a_bytes, .int 0, .int 0, .int a_id, .int 0, .int a_readingId, .ref a_collected, .int a_collectedCount, .int a_matched, .ref a_saidActs, .ref a_saidIds, .int a_said])), (m_raster, .inr (11, [.int r_dpi, .int 0, .int r_x, .int r_y, .int r_scale, .int r_row, .int r_width, .int r_height, .int r_rowBytes, .ref r_seed, .int r_resolution, .int r_method, .int r_nextWidth, .int r_nextHeight])), (m_fonts, .inr (3, [.ref s_ids, .ref s_attributes, .ref s_permanent, .int 0, .ref s_glyphs, .int 0, .ref s_dots, .int s_used, .ref s_wishes, .ref s_pins, .int s_id, .int s_code, .ref s_chosen, .int s_chosenKnown, .ref s_left, .ref s_coming])), (s_chosen, .inl (cc, 2, .inl ch)), (s_ids, .inl (ci, 32, .inl fi))] H := hP
    replace hD : va_D A [(h0, .inr (0, [.int m_dpi, .ref m_tape, .ref m_page, .ref m_sheet, .ref m_fonts, .ref m_macros, .ref m_raster, .ref m_interpreter, .ref m_picture, .ref m_coder, .ref m_reader, .ref m_file, .ref m_shown, .int 0, .int 0, .int 0, .int 0, .int m_pictures])), (m_macros, .inr (6, [.ref a_ids, .ref a_places, .ref a_lengths, .ref a_permanent, .int 0, .ref a_bytes, .int 0, .int 0, .int a_id, .int 0, .int a_readingId, .ref a_collected, .int a_collectedCount, .int a_matched, .ref a_saidActs, .ref a_saidIds, .int a_said])), (m_raster, .inr (11, [.int r_dpi, .int 0, .int r_x, .int r_y, .int r_scale, .int r_row, .int r_width, .int r_height, .int r_rowBytes, .ref r_seed, .int r_resolution, .int r_method, .int r_nextWidth, .int r_nextHeight])), (m_fonts, .inr (3, [.ref s_ids, .ref s_attributes, .ref s_permanent, .int 0, .ref s_glyphs, .int 0, .ref s_dots, .int s_used, .ref s_wishes, .ref s_pins, .int s_id, .int s_code, .ref s_chosen, .int s_chosenKnown, .ref s_left, .ref s_coming])), (s_chosen, .inl (cc, 2, .inl ch)), (s_ids, .inl (ci, 32, .inl fi))] := hD
    obtain rfl := hw
    have hP9 := hP.sub (ws' := [(h0, .inr (0, [.int m_dpi, .ref m_tape, .ref m_page, .ref m_sheet, .ref m_fonts, .ref m_macros, .ref m_raster, .ref m_interpreter, .ref m_picture, .ref m_coder, .ref m_reader, .ref m_file, .ref m_shown, .int 0, .int 0, .int 0, .int 0, .int m_pictures])), (m_fonts, .inr (3, [.ref s_ids, .ref s_attributes, .ref s_permanent, .int 0, .ref s_glyphs, .int 0, .ref s_dots, .int s_used, .ref s_wishes, .ref s_pins, .int s_id, .int s_code, .ref s_chosen, .int s_chosenKnown, .ref s_left, .ref s_coming])), (s_chosen, .inl (cc, 2, .inl ch)), (s_ids, .inl (ci, 32, .inl fi)), (m_macros, .inr (6, [.ref a_ids, .ref a_places, .ref a_lengths, .ref a_permanent, .int 0, .ref a_bytes, .int 0, .int 0, .int a_id, .int 0, .int a_readingId, .ref a_collected, .int a_collectedCount, .int a_matched, .ref a_saidActs, .ref a_saidIds, .int a_said])), (m_raster, .inr (11, [.int r_dpi, .int 0, .int r_x, .int r_y, .int r_scale, .int r_row, .int r_width, .int r_height, .int r_rowBytes, .ref r_seed, .int r_resolution, .int r_method, .int r_nextWidth, .int r_nextHeight]))]) [0, 3, 4, 5, 1, 2] rfl
    have hD9 := hD.sub (ws' := [(h0, .inr (0, [.int m_dpi, .ref m_tape, .ref m_page, .ref m_sheet, .ref m_fonts, .ref m_macros, .ref m_raster, .ref m_interpreter, .ref m_picture, .ref m_coder, .ref m_reader, .ref m_file, .ref m_shown, .int 0, .int 0, .int 0, .int 0, .int m_pictures])), (m_fonts, .inr (3, [.ref s_ids, .ref s_attributes, .ref s_permanent, .int 0, .ref s_glyphs, .int 0, .ref s_dots, .int s_used, .ref s_wishes, .ref s_pins, .int s_id, .int s_code, .ref s_chosen, .int s_chosenKnown, .ref s_left, .ref s_coming])), (s_chosen, .inl (cc, 2, .inl ch)), (s_ids, .inl (ci, 32, .inl fi)), (m_macros, .inr (6, [.ref a_ids, .ref a_places, .ref a_lengths, .ref a_permanent, .int 0, .ref a_bytes, .int 0, .int 0, .int a_id, .int 0, .int a_readingId, .ref a_collected, .int a_collectedCount, .int a_matched, .ref a_saidActs, .ref a_saidIds, .int a_said])), (m_raster, .inr (11, [.int r_dpi, .int 0, .int r_x, .int r_y, .int r_scale, .int r_row, .int r_width, .int r_height, .int r_rowBytes, .ref r_seed, .int r_resolution, .int r_method, .int r_nextWidth, .int r_nextHeight]))]) [0, 3, 4, 5, 1, 2] (by decide) rfl
    have hK9 := hK.sub (tys' := [(cc, .int), (ci, .int)]) [0, 1] rfl
    exact W.iret (v := (-1)) hx hb hr (fun t ht hW => ⟨⟨(-1), (), rfl, (show ((-1) : Int32) = ssF x from (by first | (rw [w1_0]; rfl) | (rw [w1_1]; rfl) | (rw [w1_2]; rfl) | (rw [w1_3]; rfl) | (rw [w1_4]; rfl) | (rw [w1_5]; rfl) | (rw [w1_6]; rfl) | (rw [w1_7]; rfl) | (rw [w1_8]; rfl) | (rw [w1_9]; rfl) | (unfold ssF; rw [if_neg w1_0, if_neg w1_1, if_neg w1_2, if_neg w1_3, if_neg w1_4, if_neg w1_5, if_neg w1_6, if_neg w1_7, if_neg w1_8, if_neg w1_9]))), by rw [ht]; exact hP9, va_K.moved hW.alike hK9, hD9⟩, hS.F ht⟩) hS.2.2 d_Main_storeStatus_89
  by_cases w1_4 : x = 16
  · refine lv_tableIn (tgt := 90) hx hb d_Main_storeStatus_1 (by rw [w1_4]; decide) (by rw [w1_4]; decide) (by rw [w1_4]; rfl) (by decide) ?_
    refine lv_aload_n hx hb d_Main_storeStatus_90 rfl (lv_at hl 0 rfl) ?_
    refine va_get (D := (dC, dI)) (ci := 0) (v := .ref m_macros) (C := R_Main) (T := F_Main) (N := 18) hx hb hwd i_Main hown hK hP 0 rfl rfl 5 (by decide) (hwd _ wd_4_131) (fun _ h9 => h9) rfl d_Main_storeStatus_91 ?_
    refine va_get (D := (dC, dI)) (ci := 6) (v := .int 0) (C := R_Macros) (T := F_Macros) (N := 17) hx hb hwd i_Macros hown hK hP 4 rfl rfl 4 (by decide) (hwd _ wd_2_164) (fun _ h9 => h9) rfl d_Main_storeStatus_94 ?_
    have hP9 := hP.sub (ws' := [(h0, .inr (0, [.int m_dpi, .ref m_tape, .ref m_page, .ref m_sheet, .ref m_fonts, .ref m_macros, .ref m_raster, .ref m_interpreter, .ref m_picture, .ref m_coder, .ref m_reader, .ref m_file, .ref m_shown, .int 0, .int 0, .int 0, .int 0, .int m_pictures])), (m_fonts, .inr (3, [.ref s_ids, .ref s_attributes, .ref s_permanent, .int 0, .ref s_glyphs, .int 0, .ref s_dots, .int s_used, .ref s_wishes, .ref s_pins, .int s_id, .int s_code, .ref s_chosen, .int s_chosenKnown, .ref s_left, .ref s_coming])), (s_chosen, .inl (cc, 2, .inl ch)), (s_ids, .inl (ci, 32, .inl fi)), (m_macros, .inr (6, [.ref a_ids, .ref a_places, .ref a_lengths, .ref a_permanent, .int 0, .ref a_bytes, .int 0, .int 0, .int a_id, .int 0, .int a_readingId, .ref a_collected, .int a_collectedCount, .int a_matched, .ref a_saidActs, .ref a_saidIds, .int a_said])), (m_raster, .inr (11, [.int r_dpi, .int 0, .int r_x, .int r_y, .int r_scale, .int r_row, .int r_width, .int r_height, .int r_rowBytes, .ref r_seed, .int r_resolution, .int r_method, .int r_nextWidth, .int r_nextHeight]))]) [0, 1, 2, 3, 4, 5] rfl
    have hD9 := hD.sub (ws' := [(h0, .inr (0, [.int m_dpi, .ref m_tape, .ref m_page, .ref m_sheet, .ref m_fonts, .ref m_macros, .ref m_raster, .ref m_interpreter, .ref m_picture, .ref m_coder, .ref m_reader, .ref m_file, .ref m_shown, .int 0, .int 0, .int 0, .int 0, .int m_pictures])), (m_fonts, .inr (3, [.ref s_ids, .ref s_attributes, .ref s_permanent, .int 0, .ref s_glyphs, .int 0, .ref s_dots, .int s_used, .ref s_wishes, .ref s_pins, .int s_id, .int s_code, .ref s_chosen, .int s_chosenKnown, .ref s_left, .ref s_coming])), (s_chosen, .inl (cc, 2, .inl ch)), (s_ids, .inl (ci, 32, .inl fi)), (m_macros, .inr (6, [.ref a_ids, .ref a_places, .ref a_lengths, .ref a_permanent, .int 0, .ref a_bytes, .int 0, .int 0, .int a_id, .int 0, .int a_readingId, .ref a_collected, .int a_collectedCount, .int a_matched, .ref a_saidActs, .ref a_saidIds, .int a_said])), (m_raster, .inr (11, [.int r_dpi, .int 0, .int r_x, .int r_y, .int r_scale, .int r_row, .int r_width, .int r_height, .int r_rowBytes, .ref r_seed, .int r_resolution, .int r_method, .int r_nextWidth, .int r_nextHeight]))]) [0, 1, 2, 3, 4, 5] (by decide) rfl
    have hK9 := hK.sub (tys' := [(cc, .int), (ci, .int)]) [0, 1] rfl
    exact W.iret (v := 0) hx hb hr (fun t ht hW => ⟨⟨0, (), rfl, (show (0 : Int32) = ssF x from (by first | (rw [w1_0]; rfl) | (rw [w1_1]; rfl) | (rw [w1_2]; rfl) | (rw [w1_3]; rfl) | (rw [w1_4]; rfl) | (rw [w1_5]; rfl) | (rw [w1_6]; rfl) | (rw [w1_7]; rfl) | (rw [w1_8]; rfl) | (rw [w1_9]; rfl) | (unfold ssF; rw [if_neg w1_0, if_neg w1_1, if_neg w1_2, if_neg w1_3, if_neg w1_4, if_neg w1_5, if_neg w1_6, if_neg w1_7, if_neg w1_8, if_neg w1_9]))), by rw [ht]; exact hP9, va_K.moved hW.alike hK9, hD9⟩, hS.F ht⟩) hS.2.2 d_Main_storeStatus_97
  by_cases w1_5 : x = 17
  · refine lv_tableIn (tgt := 98) hx hb d_Main_storeStatus_1 (by rw [w1_5]; decide) (by rw [w1_5]; decide) (by rw [w1_5]; rfl) (by decide) ?_
    refine lv_aload_n hx hb d_Main_storeStatus_98 rfl (lv_at hl 0 rfl) ?_
    refine va_get (D := (dC, dI)) (ci := 0) (v := .ref m_macros) (C := R_Main) (T := F_Main) (N := 18) hx hb hwd i_Main hown hK hP 0 rfl rfl 5 (by decide) (hwd _ wd_4_131) (fun _ h9 => h9) rfl d_Main_storeStatus_99 ?_
    refine va_get (D := (dC, dI)) (ci := 6) (v := .int 0) (C := R_Macros) (T := F_Macros) (N := 17) hx hb hwd i_Macros hown hK hP 4 rfl rfl 6 (by decide) (hwd _ wd_2_167) (fun _ h9 => h9) rfl d_Main_storeStatus_102 ?_
    have hP9 := hP.sub (ws' := [(h0, .inr (0, [.int m_dpi, .ref m_tape, .ref m_page, .ref m_sheet, .ref m_fonts, .ref m_macros, .ref m_raster, .ref m_interpreter, .ref m_picture, .ref m_coder, .ref m_reader, .ref m_file, .ref m_shown, .int 0, .int 0, .int 0, .int 0, .int m_pictures])), (m_fonts, .inr (3, [.ref s_ids, .ref s_attributes, .ref s_permanent, .int 0, .ref s_glyphs, .int 0, .ref s_dots, .int s_used, .ref s_wishes, .ref s_pins, .int s_id, .int s_code, .ref s_chosen, .int s_chosenKnown, .ref s_left, .ref s_coming])), (s_chosen, .inl (cc, 2, .inl ch)), (s_ids, .inl (ci, 32, .inl fi)), (m_macros, .inr (6, [.ref a_ids, .ref a_places, .ref a_lengths, .ref a_permanent, .int 0, .ref a_bytes, .int 0, .int 0, .int a_id, .int 0, .int a_readingId, .ref a_collected, .int a_collectedCount, .int a_matched, .ref a_saidActs, .ref a_saidIds, .int a_said])), (m_raster, .inr (11, [.int r_dpi, .int 0, .int r_x, .int r_y, .int r_scale, .int r_row, .int r_width, .int r_height, .int r_rowBytes, .ref r_seed, .int r_resolution, .int r_method, .int r_nextWidth, .int r_nextHeight]))]) [0, 1, 2, 3, 4, 5] rfl
    have hD9 := hD.sub (ws' := [(h0, .inr (0, [.int m_dpi, .ref m_tape, .ref m_page, .ref m_sheet, .ref m_fonts, .ref m_macros, .ref m_raster, .ref m_interpreter, .ref m_picture, .ref m_coder, .ref m_reader, .ref m_file, .ref m_shown, .int 0, .int 0, .int 0, .int 0, .int m_pictures])), (m_fonts, .inr (3, [.ref s_ids, .ref s_attributes, .ref s_permanent, .int 0, .ref s_glyphs, .int 0, .ref s_dots, .int s_used, .ref s_wishes, .ref s_pins, .int s_id, .int s_code, .ref s_chosen, .int s_chosenKnown, .ref s_left, .ref s_coming])), (s_chosen, .inl (cc, 2, .inl ch)), (s_ids, .inl (ci, 32, .inl fi)), (m_macros, .inr (6, [.ref a_ids, .ref a_places, .ref a_lengths, .ref a_permanent, .int 0, .ref a_bytes, .int 0, .int 0, .int a_id, .int 0, .int a_readingId, .ref a_collected, .int a_collectedCount, .int a_matched, .ref a_saidActs, .ref a_saidIds, .int a_said])), (m_raster, .inr (11, [.int r_dpi, .int 0, .int r_x, .int r_y, .int r_scale, .int r_row, .int r_width, .int r_height, .int r_rowBytes, .ref r_seed, .int r_resolution, .int r_method, .int r_nextWidth, .int r_nextHeight]))]) [0, 1, 2, 3, 4, 5] (by decide) rfl
    have hK9 := hK.sub (tys' := [(cc, .int), (ci, .int)]) [0, 1] rfl
    exact W.iret (v := 0) hx hb hr (fun t ht hW => ⟨⟨0, (), rfl, (show (0 : Int32) = ssF x from (by first | (rw [w1_0]; rfl) | (rw [w1_1]; rfl) | (rw [w1_2]; rfl) | (rw [w1_3]; rfl) | (rw [w1_4]; rfl) | (rw [w1_5]; rfl) | (rw [w1_6]; rfl) | (rw [w1_7]; rfl) | (rw [w1_8]; rfl) | (rw [w1_9]; rfl) | (unfold ssF; rw [if_neg w1_0, if_neg w1_1, if_neg w1_2, if_neg w1_3, if_neg w1_4, if_neg w1_5, if_neg w1_6, if_neg w1_7, if_neg w1_8, if_neg w1_9]))), by rw [ht]; exact hP9, va_K.moved hW.alike hK9, hD9⟩, hS.F ht⟩) hS.2.2 d_Main_storeStatus_105
  by_cases w1_6 : x = 18
  · refine lv_tableIn (tgt := 106) hx hb d_Main_storeStatus_1 (by rw [w1_6]; decide) (by rw [w1_6]; decide) (by rw [w1_6]; rfl) (by decide) ?_
    refine lv_aload_n hx hb d_Main_storeStatus_106 rfl (lv_at hl 0 rfl) ?_
    refine va_get (D := (dC, dI)) (ci := 0) (v := .ref m_macros) (C := R_Main) (T := F_Main) (N := 18) hx hb hwd i_Main hown hK hP 0 rfl rfl 5 (by decide) (hwd _ wd_4_131) (fun _ h9 => h9) rfl d_Main_storeStatus_107 ?_
    refine va_get (D := (dC, dI)) (ci := 6) (v := .int 0) (C := R_Macros) (T := F_Macros) (N := 17) hx hb hwd i_Macros hown hK hP 4 rfl rfl 9 (by decide) (hwd _ wd_2_173) (fun _ h9 => h9) rfl d_Main_storeStatus_110 ?_
    refine lv_if_eq (tgt := 120) hx hb d_Main_storeStatus_113 (by decide) (fun _ => ?_) (fun c113 => absurd (by decide) c113)
    refine lv_iconst (v := 0) hx hb d_Main_storeStatus_120 (by decide) ?_
    have hP9 := hP.sub (ws' := [(h0, .inr (0, [.int m_dpi, .ref m_tape, .ref m_page, .ref m_sheet, .ref m_fonts, .ref m_macros, .ref m_raster, .ref m_interpreter, .ref m_picture, .ref m_coder, .ref m_reader, .ref m_file, .ref m_shown, .int 0, .int 0, .int 0, .int 0, .int m_pictures])), (m_fonts, .inr (3, [.ref s_ids, .ref s_attributes, .ref s_permanent, .int 0, .ref s_glyphs, .int 0, .ref s_dots, .int s_used, .ref s_wishes, .ref s_pins, .int s_id, .int s_code, .ref s_chosen, .int s_chosenKnown, .ref s_left, .ref s_coming])), (s_chosen, .inl (cc, 2, .inl ch)), (s_ids, .inl (ci, 32, .inl fi)), (m_macros, .inr (6, [.ref a_ids, .ref a_places, .ref a_lengths, .ref a_permanent, .int 0, .ref a_bytes, .int 0, .int 0, .int a_id, .int 0, .int a_readingId, .ref a_collected, .int a_collectedCount, .int a_matched, .ref a_saidActs, .ref a_saidIds, .int a_said])), (m_raster, .inr (11, [.int r_dpi, .int 0, .int r_x, .int r_y, .int r_scale, .int r_row, .int r_width, .int r_height, .int r_rowBytes, .ref r_seed, .int r_resolution, .int r_method, .int r_nextWidth, .int r_nextHeight]))]) [0, 1, 2, 3, 4, 5] rfl
    have hD9 := hD.sub (ws' := [(h0, .inr (0, [.int m_dpi, .ref m_tape, .ref m_page, .ref m_sheet, .ref m_fonts, .ref m_macros, .ref m_raster, .ref m_interpreter, .ref m_picture, .ref m_coder, .ref m_reader, .ref m_file, .ref m_shown, .int 0, .int 0, .int 0, .int 0, .int m_pictures])), (m_fonts, .inr (3, [.ref s_ids, .ref s_attributes, .ref s_permanent, .int 0, .ref s_glyphs, .int 0, .ref s_dots, .int s_used, .ref s_wishes, .ref s_pins, .int s_id, .int s_code, .ref s_chosen, .int s_chosenKnown, .ref s_left, .ref s_coming])), (s_chosen, .inl (cc, 2, .inl ch)), (s_ids, .inl (ci, 32, .inl fi)), (m_macros, .inr (6, [.ref a_ids, .ref a_places, .ref a_lengths, .ref a_permanent, .int 0, .ref a_bytes, .int 0, .int 0, .int a_id, .int 0, .int a_readingId, .ref a_collected, .int a_collectedCount, .int a_matched, .ref a_saidActs, .ref a_saidIds, .int a_said])), (m_raster, .inr (11, [.int r_dpi, .int 0, .int r_x, .int r_y, .int r_scale, .int r_row, .int r_width, .int r_height, .int r_rowBytes, .ref r_seed, .int r_resolution, .int r_method, .int r_nextWidth, .int r_nextHeight]))]) [0, 1, 2, 3, 4, 5] (by decide) rfl
    have hK9 := hK.sub (tys' := [(cc, .int), (ci, .int)]) [0, 1] rfl
    exact W.iret (v := 0) hx hb hr (fun t ht hW => ⟨⟨0, (), rfl, (show (0 : Int32) = ssF x from (by first | (rw [w1_0]; rfl) | (rw [w1_1]; rfl) | (rw [w1_2]; rfl) | (rw [w1_3]; rfl) | (rw [w1_4]; rfl) | (rw [w1_5]; rfl) | (rw [w1_6]; rfl) | (rw [w1_7]; rfl) | (rw [w1_8]; rfl) | (rw [w1_9]; rfl) | (unfold ssF; rw [if_neg w1_0, if_neg w1_1, if_neg w1_2, if_neg w1_3, if_neg w1_4, if_neg w1_5, if_neg w1_6, if_neg w1_7, if_neg w1_8, if_neg w1_9]))), by rw [ht]; exact hP9, va_K.moved hW.alike hK9, hD9⟩, hS.F ht⟩) hS.2.2 d_Main_storeStatus_121
  by_cases w1_7 : x = 19
  · refine lv_tableIn (tgt := 122) hx hb d_Main_storeStatus_1 (by rw [w1_7]; decide) (by rw [w1_7]; decide) (by rw [w1_7]; rfl) (by decide) ?_
    refine lv_aload_n hx hb d_Main_storeStatus_122 rfl (lv_at hl 0 rfl) ?_
    refine va_get (D := (dC, dI)) (ci := 0) (v := .ref m_macros) (C := R_Main) (T := F_Main) (N := 18) hx hb hwd i_Main hown hK hP 0 rfl rfl 5 (by decide) (hwd _ wd_4_131) (fun _ h9 => h9) rfl d_Main_storeStatus_123 ?_
    refine va_get (D := (dC, dI)) (ci := 6) (v := .int 0) (C := R_Macros) (T := F_Macros) (N := 17) hx hb hwd i_Macros hown hK hP 4 rfl rfl 7 (by decide) (hwd _ wd_2_169) (fun _ h9 => h9) rfl d_Main_storeStatus_126 ?_
    have hP9 := hP.sub (ws' := [(h0, .inr (0, [.int m_dpi, .ref m_tape, .ref m_page, .ref m_sheet, .ref m_fonts, .ref m_macros, .ref m_raster, .ref m_interpreter, .ref m_picture, .ref m_coder, .ref m_reader, .ref m_file, .ref m_shown, .int 0, .int 0, .int 0, .int 0, .int m_pictures])), (m_fonts, .inr (3, [.ref s_ids, .ref s_attributes, .ref s_permanent, .int 0, .ref s_glyphs, .int 0, .ref s_dots, .int s_used, .ref s_wishes, .ref s_pins, .int s_id, .int s_code, .ref s_chosen, .int s_chosenKnown, .ref s_left, .ref s_coming])), (s_chosen, .inl (cc, 2, .inl ch)), (s_ids, .inl (ci, 32, .inl fi)), (m_macros, .inr (6, [.ref a_ids, .ref a_places, .ref a_lengths, .ref a_permanent, .int 0, .ref a_bytes, .int 0, .int 0, .int a_id, .int 0, .int a_readingId, .ref a_collected, .int a_collectedCount, .int a_matched, .ref a_saidActs, .ref a_saidIds, .int a_said])), (m_raster, .inr (11, [.int r_dpi, .int 0, .int r_x, .int r_y, .int r_scale, .int r_row, .int r_width, .int r_height, .int r_rowBytes, .ref r_seed, .int r_resolution, .int r_method, .int r_nextWidth, .int r_nextHeight]))]) [0, 1, 2, 3, 4, 5] rfl
    have hD9 := hD.sub (ws' := [(h0, .inr (0, [.int m_dpi, .ref m_tape, .ref m_page, .ref m_sheet, .ref m_fonts, .ref m_macros, .ref m_raster, .ref m_interpreter, .ref m_picture, .ref m_coder, .ref m_reader, .ref m_file, .ref m_shown, .int 0, .int 0, .int 0, .int 0, .int m_pictures])), (m_fonts, .inr (3, [.ref s_ids, .ref s_attributes, .ref s_permanent, .int 0, .ref s_glyphs, .int 0, .ref s_dots, .int s_used, .ref s_wishes, .ref s_pins, .int s_id, .int s_code, .ref s_chosen, .int s_chosenKnown, .ref s_left, .ref s_coming])), (s_chosen, .inl (cc, 2, .inl ch)), (s_ids, .inl (ci, 32, .inl fi)), (m_macros, .inr (6, [.ref a_ids, .ref a_places, .ref a_lengths, .ref a_permanent, .int 0, .ref a_bytes, .int 0, .int 0, .int a_id, .int 0, .int a_readingId, .ref a_collected, .int a_collectedCount, .int a_matched, .ref a_saidActs, .ref a_saidIds, .int a_said])), (m_raster, .inr (11, [.int r_dpi, .int 0, .int r_x, .int r_y, .int r_scale, .int r_row, .int r_width, .int r_height, .int r_rowBytes, .ref r_seed, .int r_resolution, .int r_method, .int r_nextWidth, .int r_nextHeight]))]) [0, 1, 2, 3, 4, 5] (by decide) rfl
    have hK9 := hK.sub (tys' := [(cc, .int), (ci, .int)]) [0, 1] rfl
    exact W.iret (v := 0) hx hb hr (fun t ht hW => ⟨⟨0, (), rfl, (show (0 : Int32) = ssF x from (by first | (rw [w1_0]; rfl) | (rw [w1_1]; rfl) | (rw [w1_2]; rfl) | (rw [w1_3]; rfl) | (rw [w1_4]; rfl) | (rw [w1_5]; rfl) | (rw [w1_6]; rfl) | (rw [w1_7]; rfl) | (rw [w1_8]; rfl) | (rw [w1_9]; rfl) | (unfold ssF; rw [if_neg w1_0, if_neg w1_1, if_neg w1_2, if_neg w1_3, if_neg w1_4, if_neg w1_5, if_neg w1_6, if_neg w1_7, if_neg w1_8, if_neg w1_9]))), by rw [ht]; exact hP9, va_K.moved hW.alike hK9, hD9⟩, hS.F ht⟩) hS.2.2 d_Main_storeStatus_129
  by_cases w1_8 : x = 20
  · refine lv_tableIn (tgt := 130) hx hb d_Main_storeStatus_1 (by rw [w1_8]; decide) (by rw [w1_8]; decide) (by rw [w1_8]; rfl) (by decide) ?_
    refine lv_aload_n hx hb d_Main_storeStatus_130 rfl (lv_at hl 0 rfl) ?_
    refine va_get (D := (dC, dI)) (ci := 0) (v := .ref m_raster) (C := R_Main) (T := F_Main) (N := 18) hx hb hwd i_Main hown hK hP 0 rfl rfl 6 (by decide) (hwd _ wd_4_132) (fun _ h9 => h9) rfl d_Main_storeStatus_131 ?_
    refine va_get (D := (dC, dI)) (ci := 11) (v := .int 0) (C := R_Raster) (T := F_Raster) (N := 14) hx hb hwd i_Raster hown hK hP 5 rfl rfl 1 (by decide) (hwd _ wd_2_231) (fun _ h9 => h9) rfl d_Main_storeStatus_134 ?_
    refine lv_if_eq (tgt := 144) hx hb d_Main_storeStatus_137 (by decide) (fun _ => ?_) (fun c137 => absurd (by decide) c137)
    refine lv_iconst (v := 0) hx hb d_Main_storeStatus_144 (by decide) ?_
    have hP9 := hP.sub (ws' := [(h0, .inr (0, [.int m_dpi, .ref m_tape, .ref m_page, .ref m_sheet, .ref m_fonts, .ref m_macros, .ref m_raster, .ref m_interpreter, .ref m_picture, .ref m_coder, .ref m_reader, .ref m_file, .ref m_shown, .int 0, .int 0, .int 0, .int 0, .int m_pictures])), (m_fonts, .inr (3, [.ref s_ids, .ref s_attributes, .ref s_permanent, .int 0, .ref s_glyphs, .int 0, .ref s_dots, .int s_used, .ref s_wishes, .ref s_pins, .int s_id, .int s_code, .ref s_chosen, .int s_chosenKnown, .ref s_left, .ref s_coming])), (s_chosen, .inl (cc, 2, .inl ch)), (s_ids, .inl (ci, 32, .inl fi)), (m_macros, .inr (6, [.ref a_ids, .ref a_places, .ref a_lengths, .ref a_permanent, .int 0, .ref a_bytes, .int 0, .int 0, .int a_id, .int 0, .int a_readingId, .ref a_collected, .int a_collectedCount, .int a_matched, .ref a_saidActs, .ref a_saidIds, .int a_said])), (m_raster, .inr (11, [.int r_dpi, .int 0, .int r_x, .int r_y, .int r_scale, .int r_row, .int r_width, .int r_height, .int r_rowBytes, .ref r_seed, .int r_resolution, .int r_method, .int r_nextWidth, .int r_nextHeight]))]) [0, 1, 2, 3, 4, 5] rfl
    have hD9 := hD.sub (ws' := [(h0, .inr (0, [.int m_dpi, .ref m_tape, .ref m_page, .ref m_sheet, .ref m_fonts, .ref m_macros, .ref m_raster, .ref m_interpreter, .ref m_picture, .ref m_coder, .ref m_reader, .ref m_file, .ref m_shown, .int 0, .int 0, .int 0, .int 0, .int m_pictures])), (m_fonts, .inr (3, [.ref s_ids, .ref s_attributes, .ref s_permanent, .int 0, .ref s_glyphs, .int 0, .ref s_dots, .int s_used, .ref s_wishes, .ref s_pins, .int s_id, .int s_code, .ref s_chosen, .int s_chosenKnown, .ref s_left, .ref s_coming])), (s_chosen, .inl (cc, 2, .inl ch)), (s_ids, .inl (ci, 32, .inl fi)), (m_macros, .inr (6, [.ref a_ids, .ref a_places, .ref a_lengths, .ref a_permanent, .int 0, .ref a_bytes, .int 0, .int 0, .int a_id, .int 0, .int a_readingId, .ref a_collected, .int a_collectedCount, .int a_matched, .ref a_saidActs, .ref a_saidIds, .int a_said])), (m_raster, .inr (11, [.int r_dpi, .int 0, .int r_x, .int r_y, .int r_scale, .int r_row, .int r_width, .int r_height, .int r_rowBytes, .ref r_seed, .int r_resolution, .int r_method, .int r_nextWidth, .int r_nextHeight]))]) [0, 1, 2, 3, 4, 5] (by decide) rfl
    have hK9 := hK.sub (tys' := [(cc, .int), (ci, .int)]) [0, 1] rfl
    exact W.iret (v := 0) hx hb hr (fun t ht hW => ⟨⟨0, (), rfl, (show (0 : Int32) = ssF x from (by first | (rw [w1_0]; rfl) | (rw [w1_1]; rfl) | (rw [w1_2]; rfl) | (rw [w1_3]; rfl) | (rw [w1_4]; rfl) | (rw [w1_5]; rfl) | (rw [w1_6]; rfl) | (rw [w1_7]; rfl) | (rw [w1_8]; rfl) | (rw [w1_9]; rfl) | (unfold ssF; rw [if_neg w1_0, if_neg w1_1, if_neg w1_2, if_neg w1_3, if_neg w1_4, if_neg w1_5, if_neg w1_6, if_neg w1_7, if_neg w1_8, if_neg w1_9]))), by rw [ht]; exact hP9, va_K.moved hW.alike hK9, hD9⟩, hS.F ht⟩) hS.2.2 d_Main_storeStatus_145
  by_cases w1_9 : x = 21
  · refine lv_tableIn (tgt := 146) hx hb d_Main_storeStatus_1 (by rw [w1_9]; decide) (by rw [w1_9]; decide) (by rw [w1_9]; rfl) (by decide) ?_
    refine lv_aload_n hx hb d_Main_storeStatus_146 rfl (lv_at hl 0 rfl) ?_
    refine va_get (D := (dC, dI)) (ci := 0) (v := .ref m_raster) (C := R_Main) (T := F_Main) (N := 18) hx hb hwd i_Main hown hK hP 0 rfl rfl 6 (by decide) (hwd _ wd_4_132) (fun _ h9 => h9) rfl d_Main_storeStatus_147 ?_
    refine va_get (D := (dC, dI)) (ci := 11) (v := .int 0) (C := R_Raster) (T := F_Raster) (N := 14) hx hb hwd i_Raster hown hK hP 5 rfl rfl 1 (by decide) (hwd _ wd_2_231) (fun _ h9 => h9) rfl d_Main_storeStatus_150 ?_
    refine lv_if_eq (tgt := 166) hx hb d_Main_storeStatus_153 (by decide) (fun _ => ?_) (fun c153 => absurd (by decide) c153)
    refine lv_iconst (v := (-1)) hx hb d_Main_storeStatus_166 (by decide) ?_
    have hP9 := hP.sub (ws' := [(h0, .inr (0, [.int m_dpi, .ref m_tape, .ref m_page, .ref m_sheet, .ref m_fonts, .ref m_macros, .ref m_raster, .ref m_interpreter, .ref m_picture, .ref m_coder, .ref m_reader, .ref m_file, .ref m_shown, .int 0, .int 0, .int 0, .int 0, .int m_pictures])), (m_fonts, .inr (3, [.ref s_ids, .ref s_attributes, .ref s_permanent, .int 0, .ref s_glyphs, .int 0, .ref s_dots, .int s_used, .ref s_wishes, .ref s_pins, .int s_id, .int s_code, .ref s_chosen, .int s_chosenKnown, .ref s_left, .ref s_coming])), (s_chosen, .inl (cc, 2, .inl ch)), (s_ids, .inl (ci, 32, .inl fi)), (m_macros, .inr (6, [.ref a_ids, .ref a_places, .ref a_lengths, .ref a_permanent, .int 0, .ref a_bytes, .int 0, .int 0, .int a_id, .int 0, .int a_readingId, .ref a_collected, .int a_collectedCount, .int a_matched, .ref a_saidActs, .ref a_saidIds, .int a_said])), (m_raster, .inr (11, [.int r_dpi, .int 0, .int r_x, .int r_y, .int r_scale, .int r_row, .int r_width, .int r_height, .int r_rowBytes, .ref r_seed, .int r_resolution, .int r_method, .int r_nextWidth, .int r_nextHeight]))]) [0, 1, 2, 3, 4, 5] rfl
    have hD9 := hD.sub (ws' := [(h0, .inr (0, [.int m_dpi, .ref m_tape, .ref m_page, .ref m_sheet, .ref m_fonts, .ref m_macros, .ref m_raster, .ref m_interpreter, .ref m_picture, .ref m_coder, .ref m_reader, .ref m_file, .ref m_shown, .int 0, .int 0, .int 0, .int 0, .int m_pictures])), (m_fonts, .inr (3, [.ref s_ids, .ref s_attributes, .ref s_permanent, .int 0, .ref s_glyphs, .int 0, .ref s_dots, .int s_used, .ref s_wishes, .ref s_pins, .int s_id, .int s_code, .ref s_chosen, .int s_chosenKnown, .ref s_left, .ref s_coming])), (s_chosen, .inl (cc, 2, .inl ch)), (s_ids, .inl (ci, 32, .inl fi)), (m_macros, .inr (6, [.ref a_ids, .ref a_places, .ref a_lengths, .ref a_permanent, .int 0, .ref a_bytes, .int 0, .int 0, .int a_id, .int 0, .int a_readingId, .ref a_collected, .int a_collectedCount, .int a_matched, .ref a_saidActs, .ref a_saidIds, .int a_said])), (m_raster, .inr (11, [.int r_dpi, .int 0, .int r_x, .int r_y, .int r_scale, .int r_row, .int r_width, .int r_height, .int r_rowBytes, .ref r_seed, .int r_resolution, .int r_method, .int r_nextWidth, .int r_nextHeight]))]) [0, 1, 2, 3, 4, 5] (by decide) rfl
    have hK9 := hK.sub (tys' := [(cc, .int), (ci, .int)]) [0, 1] rfl
    exact W.iret (v := (-1)) hx hb hr (fun t ht hW => ⟨⟨(-1), (), rfl, (show ((-1) : Int32) = ssF x from (by first | (rw [w1_0]; rfl) | (rw [w1_1]; rfl) | (rw [w1_2]; rfl) | (rw [w1_3]; rfl) | (rw [w1_4]; rfl) | (rw [w1_5]; rfl) | (rw [w1_6]; rfl) | (rw [w1_7]; rfl) | (rw [w1_8]; rfl) | (rw [w1_9]; rfl) | (unfold ssF; rw [if_neg w1_0, if_neg w1_1, if_neg w1_2, if_neg w1_3, if_neg w1_4, if_neg w1_5, if_neg w1_6, if_neg w1_7, if_neg w1_8, if_neg w1_9]))), by rw [ht]; exact hP9, va_K.moved hW.alike hK9, hD9⟩, hS.F ht⟩) hS.2.2 d_Main_storeStatus_167
  have v1_0 := lv_neT (a := 12) w1_0 (by decide)
  have v1_1 := lv_neT (a := 13) w1_1 (by decide)
  have v1_2 := lv_neT (a := 14) w1_2 (by decide)
  have v1_3 := lv_neT (a := 15) w1_3 (by decide)
  have v1_4 := lv_neT (a := 16) w1_4 (by decide)
  have v1_5 := lv_neT (a := 17) w1_5 (by decide)
  have v1_6 := lv_neT (a := 18) w1_6 (by decide)
  have v1_7 := lv_neT (a := 19) w1_7 (by decide)
  have v1_8 := lv_neT (a := 20) w1_8 (by decide)
  have v1_9 := lv_neT (a := 21) w1_9 (by decide)
  refine lv_tableOut (tgt := 168) hx hb d_Main_storeStatus_1 (by omega) (by decide) ?_
  refine lv_iconst (v := (-1)) hx hb d_Main_storeStatus_168 (by decide) ?_
  have hP9 := hP.sub (ws' := [(h0, .inr (0, [.int m_dpi, .ref m_tape, .ref m_page, .ref m_sheet, .ref m_fonts, .ref m_macros, .ref m_raster, .ref m_interpreter, .ref m_picture, .ref m_coder, .ref m_reader, .ref m_file, .ref m_shown, .int 0, .int 0, .int 0, .int 0, .int m_pictures])), (m_fonts, .inr (3, [.ref s_ids, .ref s_attributes, .ref s_permanent, .int 0, .ref s_glyphs, .int 0, .ref s_dots, .int s_used, .ref s_wishes, .ref s_pins, .int s_id, .int s_code, .ref s_chosen, .int s_chosenKnown, .ref s_left, .ref s_coming])), (s_chosen, .inl (cc, 2, .inl ch)), (s_ids, .inl (ci, 32, .inl fi)), (m_macros, .inr (6, [.ref a_ids, .ref a_places, .ref a_lengths, .ref a_permanent, .int 0, .ref a_bytes, .int 0, .int 0, .int a_id, .int 0, .int a_readingId, .ref a_collected, .int a_collectedCount, .int a_matched, .ref a_saidActs, .ref a_saidIds, .int a_said])), (m_raster, .inr (11, [.int r_dpi, .int 0, .int r_x, .int r_y, .int r_scale, .int r_row, .int r_width, .int r_height, .int r_rowBytes, .ref r_seed, .int r_resolution, .int r_method, .int r_nextWidth, .int r_nextHeight]))]) [0, 1, 2, 3, 4, 5] rfl
  have hD9 := hD.sub (ws' := [(h0, .inr (0, [.int m_dpi, .ref m_tape, .ref m_page, .ref m_sheet, .ref m_fonts, .ref m_macros, .ref m_raster, .ref m_interpreter, .ref m_picture, .ref m_coder, .ref m_reader, .ref m_file, .ref m_shown, .int 0, .int 0, .int 0, .int 0, .int m_pictures])), (m_fonts, .inr (3, [.ref s_ids, .ref s_attributes, .ref s_permanent, .int 0, .ref s_glyphs, .int 0, .ref s_dots, .int s_used, .ref s_wishes, .ref s_pins, .int s_id, .int s_code, .ref s_chosen, .int s_chosenKnown, .ref s_left, .ref s_coming])), (s_chosen, .inl (cc, 2, .inl ch)), (s_ids, .inl (ci, 32, .inl fi)), (m_macros, .inr (6, [.ref a_ids, .ref a_places, .ref a_lengths, .ref a_permanent, .int 0, .ref a_bytes, .int 0, .int 0, .int a_id, .int 0, .int a_readingId, .ref a_collected, .int a_collectedCount, .int a_matched, .ref a_saidActs, .ref a_saidIds, .int a_said])), (m_raster, .inr (11, [.int r_dpi, .int 0, .int r_x, .int r_y, .int r_scale, .int r_row, .int r_width, .int r_height, .int r_rowBytes, .ref r_seed, .int r_resolution, .int r_method, .int r_nextWidth, .int r_nextHeight]))]) [0, 1, 2, 3, 4, 5] (by decide) rfl
  have hK9 := hK.sub (tys' := [(cc, .int), (ci, .int)]) [0, 1] rfl
  exact W.iret (v := (-1)) hx hb hr (fun t ht hW => ⟨⟨(-1), (), rfl, (show ((-1) : Int32) = ssF x from (by first | (rw [w1_0]; rfl) | (rw [w1_1]; rfl) | (rw [w1_2]; rfl) | (rw [w1_3]; rfl) | (rw [w1_4]; rfl) | (rw [w1_5]; rfl) | (rw [w1_6]; rfl) | (rw [w1_7]; rfl) | (rw [w1_8]; rfl) | (rw [w1_9]; rfl) | (unfold ssF; rw [if_neg w1_0, if_neg w1_1, if_neg w1_2, if_neg w1_3, if_neg w1_4, if_neg w1_5, if_neg w1_6, if_neg w1_7, if_neg w1_8, if_neg w1_9]))), by rw [ht]; exact hP9, va_K.moved hW.alike hK9, hD9⟩, hS.F ht⟩) hS.2.2 d_Main_storeStatus_169
