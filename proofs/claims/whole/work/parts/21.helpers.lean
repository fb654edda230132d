theorem wd_1_23 : (Jvm.Cond.initialized "java/lang/Throwable") ∈ gT := gT_in (in_1 _ (List.mem_of_getElem? (i := 23) rfl)) rfl
theorem wd_1_26 : (Jvm.Cond.initialized "java/lang/IllegalArgumentException") ∈ gT := gT_in (in_1 _ (List.mem_of_getElem? (i := 26) rfl)) rfl
theorem wd_1_28 : (Jvm.Cond.initialized "java/lang/IndexOutOfBoundsException") ∈ gT := gT_in (in_1 _ (List.mem_of_getElem? (i := 28) rfl)) rfl
theorem wd_5_216 : (Jvm.Cond.code ({ cls := "SheetPrinterLaw", name := "cell", desc := "([II)I" } : Jvm.MethodName) method_2_code (2 : Nat) (Option.some Jvm.ClassFile.FieldType.int)) ∈ gT := gT_in (in_5 _ (List.mem_of_getElem? (i := 216) rfl)) rfl
theorem wd_5_219 : (Jvm.Cond.codeWith ({ cls := "SheetPrinterLaw", name := "submit", desc := "(LSheetPrinter;II[J)I" } : Jvm.MethodName) method_3_code (5 : Nat) (Option.some Jvm.ClassFile.FieldType.int) [((0 : Nat), (10 : Nat), (13 : Nat), (13 : Nat)), ((0 : Nat), (10 : Nat), (17 : Nat), (15 : Nat))]) ∈ gT := gT_in (in_5 _ (List.mem_of_getElem? (i := 219) rfl)) rfl
theorem wd_5_220 : (Jvm.Cond.classLink "SheetPrinterLaw" (13 : Nat) "java/lang/IllegalArgumentException") ∈ gT := gT_in (in_5 _ (List.mem_of_getElem? (i := 220) rfl)) rfl
theorem wd_5_222 : (Jvm.Cond.methodLink "SheetPrinterLaw" (7 : Nat) ({ cls := "SheetPrinter", name := "submit", desc := "(II)I" } : Jvm.MethodName)) ∈ gT := gT_in (in_5 _ (List.mem_of_getElem? (i := 222) rfl)) rfl
theorem wd_5_223 : (Jvm.Cond.instanceMethod ({ cls := "SheetPrinter", name := "submit", desc := "(II)I" } : Jvm.MethodName)) ∈ gT := gT_in (in_5 _ (List.mem_of_getElem? (i := 223) rfl)) rfl
theorem wd_5_224 : (Jvm.Cond.selects "SheetPrinter" ({ cls := "SheetPrinter", name := "submit", desc := "(II)I" } : Jvm.MethodName) ({ cls := "SheetPrinter", name := "submit", desc := "(II)I" } : Jvm.MethodName)) ∈ gT := gT_in (in_5 _ (List.mem_of_getElem? (i := 224) rfl)) rfl
theorem wd_5_225 : (Jvm.Cond.code ({ cls := "SheetPrinter", name := "submit", desc := "(II)I" } : Jvm.MethodName) prog_1_method_4_code (4 : Nat) (Option.some Jvm.ClassFile.FieldType.int)) ∈ gT := gT_in (in_5 _ (List.mem_of_getElem? (i := 225) rfl)) rfl
theorem wd_5_226 : (Jvm.Cond.classLink "SheetPrinter" (110 : Nat) "java/lang/IllegalArgumentException") ∈ gT := gT_in (in_5 _ (List.mem_of_getElem? (i := 226) rfl)) rfl
theorem wd_5_227 : (Jvm.Cond.instantiable "java/lang/IllegalArgumentException" (6 : Nat)) ∈ gT := gT_in (in_5 _ (List.mem_of_getElem? (i := 227) rfl)) rfl
theorem wd_5_235 : (Jvm.Cond.selects "java/lang/IllegalArgumentException" ({ cls := "java/lang/Throwable", name := "fillInStackTrace", desc := "(I)Ljava/lang/Throwable;" } : Jvm.MethodName) ({ cls := "java/lang/Throwable", name := "fillInStackTrace", desc := "(I)Ljava/lang/Throwable;" } : Jvm.MethodName)) ∈ gT := gT_in (in_5 _ (List.mem_of_getElem? (i := 235) rfl)) rfl
theorem wd_5_236 : (Jvm.Cond.selects "java/lang/IllegalArgumentException" ({ cls := "java/lang/Throwable", name := "fillInStackTrace", desc := "()Ljava/lang/Throwable;" } : Jvm.MethodName) ({ cls := "java/lang/Throwable", name := "fillInStackTrace", desc := "()Ljava/lang/Throwable;" } : Jvm.MethodName)) ∈ gT := gT_in (in_5 _ (List.mem_of_getElem? (i := 236) rfl)) rfl
theorem wd_5_237 : (Jvm.Cond.lays "java/lang/IllegalArgumentException" "java/lang/Throwable" "cause" "Ljava/lang/Throwable;") ∈ gT := gT_in (in_5 _ (List.mem_of_getElem? (i := 237) rfl)) rfl
theorem wd_5_238 : (Jvm.Cond.lays "java/lang/Throwable" "java/lang/Throwable" "cause" "Ljava/lang/Throwable;") ∈ gT := gT_in (in_5 _ (List.mem_of_getElem? (i := 238) rfl)) rfl
theorem wd_5_239 : (Jvm.Cond.lays "java/lang/IllegalArgumentException" "java/lang/Throwable" "stackTrace" "[Ljava/lang/StackTraceElement;") ∈ gT := gT_in (in_5 _ (List.mem_of_getElem? (i := 239) rfl)) rfl
theorem wd_6_0 : (Jvm.Cond.lays "java/lang/Throwable" "java/lang/Throwable" "stackTrace" "[Ljava/lang/StackTraceElement;") ∈ gT := gT_in (in_6 _ (List.mem_of_getElem? (i := 0) rfl)) rfl
theorem wd_6_1 : (Jvm.Cond.lays "java/lang/IllegalArgumentException" "java/lang/Throwable" "suppressedExceptions" "Ljava/util/List;") ∈ gT := gT_in (in_6 _ (List.mem_of_getElem? (i := 1) rfl)) rfl
theorem wd_6_2 : (Jvm.Cond.lays "java/lang/Throwable" "java/lang/Throwable" "suppressedExceptions" "Ljava/util/List;") ∈ gT := gT_in (in_6 _ (List.mem_of_getElem? (i := 2) rfl)) rfl
theorem wd_6_3 : (Jvm.Cond.lays "java/lang/IllegalArgumentException" "java/lang/Throwable" "detailMessage" "Ljava/lang/String;") ∈ gT := gT_in (in_6 _ (List.mem_of_getElem? (i := 3) rfl)) rfl
theorem wd_6_4 : (Jvm.Cond.lays "java/lang/Throwable" "java/lang/Throwable" "detailMessage" "Ljava/lang/String;") ∈ gT := gT_in (in_6 _ (List.mem_of_getElem? (i := 4) rfl)) rfl
theorem wd_6_5 : (Jvm.Cond.lays "java/lang/IllegalArgumentException" "java/lang/Throwable" "backtrace" "Ljava/lang/Object;") ∈ gT := gT_in (in_6 _ (List.mem_of_getElem? (i := 5) rfl)) rfl
theorem wd_6_6 : (Jvm.Cond.lays "java/lang/Throwable" "java/lang/Throwable" "backtrace" "Ljava/lang/Object;") ∈ gT := gT_in (in_6 _ (List.mem_of_getElem? (i := 6) rfl)) rfl
theorem wd_6_7 : (Jvm.Cond.fieldLink "java/lang/Throwable" (198 : Nat) "java/lang/Throwable" "backtrace" "Ljava/lang/Object;") ∈ gT := gT_in (in_6 _ (List.mem_of_getElem? (i := 7) rfl)) rfl
theorem wd_6_8 : (Jvm.Cond.superclass "java/lang/Throwable" "java/lang/Object") ∈ gT := gT_in (in_6 _ (List.mem_of_getElem? (i := 8) rfl)) rfl
theorem wd_6_9 : (Jvm.Cond.instanceMethod ({ cls := "java/lang/Throwable", name := "<init>", desc := "()V" } : Jvm.MethodName)) ∈ gT := gT_in (in_6 _ (List.mem_of_getElem? (i := 9) rfl)) rfl
theorem wd_6_10 : (Jvm.Cond.code ({ cls := "java/lang/Throwable", name := "<init>", desc := "()V" } : Jvm.MethodName) prog_29_method_1_code (1 : Nat) (Option.none : Option Jvm.ClassFile.FieldType)) ∈ gT := gT_in (in_6 _ (List.mem_of_getElem? (i := 10) rfl)) rfl
theorem wd_6_11 : (Jvm.Cond.methodLink "java/lang/Throwable" (1 : Nat) ({ cls := "java/lang/Object", name := "<init>", desc := "()V" } : Jvm.MethodName)) ∈ gT := gT_in (in_6 _ (List.mem_of_getElem? (i := 11) rfl)) rfl
theorem wd_6_12 : (Jvm.Cond.fieldLink "java/lang/Throwable" (13 : Nat) "java/lang/Throwable" "UNASSIGNED_STACK" "[Ljava/lang/StackTraceElement;") ∈ gT := gT_in (in_6 _ (List.mem_of_getElem? (i := 12) rfl)) rfl
theorem wd_6_14 : (Jvm.Cond.fieldLink "java/lang/Throwable" (20 : Nat) "java/lang/Throwable" "SUPPRESSED_SENTINEL" "Ljava/util/List;") ∈ gT := gT_in (in_6 _ (List.mem_of_getElem? (i := 14) rfl)) rfl
theorem wd_6_16 : (Jvm.Cond.methodLink "java/lang/Throwable" (27 : Nat) ({ cls := "java/lang/Throwable", name := "fillInStackTrace", desc := "()Ljava/lang/Throwable;" } : Jvm.MethodName)) ∈ gT := gT_in (in_6 _ (List.mem_of_getElem? (i := 16) rfl)) rfl
theorem wd_6_17 : (Jvm.Cond.instanceMethod ({ cls := "java/lang/Throwable", name := "fillInStackTrace", desc := "()Ljava/lang/Throwable;" } : Jvm.MethodName)) ∈ gT := gT_in (in_6 _ (List.mem_of_getElem? (i := 17) rfl)) rfl
theorem wd_6_20 : (Jvm.Cond.selects "java/lang/IndexOutOfBoundsException" ({ cls := "java/lang/Throwable", name := "fillInStackTrace", desc := "()Ljava/lang/Throwable;" } : Jvm.MethodName) ({ cls := "java/lang/Throwable", name := "fillInStackTrace", desc := "()Ljava/lang/Throwable;" } : Jvm.MethodName)) ∈ gT := gT_in (in_6 _ (List.mem_of_getElem? (i := 20) rfl)) rfl
theorem wd_6_21 : (Jvm.Cond.codeSync ({ cls := "java/lang/Throwable", name := "fillInStackTrace", desc := "()Ljava/lang/Throwable;" } : Jvm.MethodName) prog_29_method_18_code (1 : Nat) (Option.some (Jvm.ClassFile.FieldType.object "java/lang/Throwable"))) ∈ gT := gT_in (in_6 _ (List.mem_of_getElem? (i := 21) rfl)) rfl
theorem wd_6_22 : (Jvm.Cond.methodLink "java/lang/Throwable" (202 : Nat) ({ cls := "java/lang/Throwable", name := "fillInStackTrace", desc := "(I)Ljava/lang/Throwable;" } : Jvm.MethodName)) ∈ gT := gT_in (in_6 _ (List.mem_of_getElem? (i := 22) rfl)) rfl
theorem wd_6_24 : (Jvm.Cond.instanceMethod ({ cls := "java/lang/Throwable", name := "fillInStackTrace", desc := "(I)Ljava/lang/Throwable;" } : Jvm.MethodName)) ∈ gT := gT_in (in_6 _ (List.mem_of_getElem? (i := 24) rfl)) rfl
theorem wd_6_26 : (Jvm.Cond.native ({ cls := "java/lang/Throwable", name := "fillInStackTrace", desc := "(I)Ljava/lang/Throwable;" } : Jvm.MethodName)) ∈ gT := gT_in (in_6 _ (List.mem_of_getElem? (i := 26) rfl)) rfl
theorem wd_6_28 : (Jvm.Cond.methodLink "SheetPrinter" (114 : Nat) ({ cls := "java/lang/IllegalArgumentException", name := "<init>", desc := "(Ljava/lang/String;)V" } : Jvm.MethodName)) ∈ gT := gT_in (in_6 _ (List.mem_of_getElem? (i := 28) rfl)) rfl
theorem wd_6_29 : (Jvm.Cond.instanceMethod ({ cls := "java/lang/IllegalArgumentException", name := "<init>", desc := "(Ljava/lang/String;)V" } : Jvm.MethodName)) ∈ gT := gT_in (in_6 _ (List.mem_of_getElem? (i := 29) rfl)) rfl
theorem wd_6_30 : (Jvm.Cond.code ({ cls := "java/lang/IllegalArgumentException", name := "<init>", desc := "(Ljava/lang/String;)V" } : Jvm.MethodName) prog_22_method_2_code (2 : Nat) (Option.none : Option Jvm.ClassFile.FieldType)) ∈ gT := gT_in (in_6 _ (List.mem_of_getElem? (i := 30) rfl)) rfl
theorem wd_6_31 : (Jvm.Cond.methodLink "java/lang/IllegalArgumentException" (7 : Nat) ({ cls := "java/lang/RuntimeException", name := "<init>", desc := "(Ljava/lang/String;)V" } : Jvm.MethodName)) ∈ gT := gT_in (in_6 _ (List.mem_of_getElem? (i := 31) rfl)) rfl
theorem wd_6_32 : (Jvm.Cond.instanceMethod ({ cls := "java/lang/RuntimeException", name := "<init>", desc := "(Ljava/lang/String;)V" } : Jvm.MethodName)) ∈ gT := gT_in (in_6 _ (List.mem_of_getElem? (i := 32) rfl)) rfl
theorem wd_6_33 : (Jvm.Cond.code ({ cls := "java/lang/RuntimeException", name := "<init>", desc := "(Ljava/lang/String;)V" } : Jvm.MethodName) prog_26_method_2_code (2 : Nat) (Option.none : Option Jvm.ClassFile.FieldType)) ∈ gT := gT_in (in_6 _ (List.mem_of_getElem? (i := 33) rfl)) rfl
theorem wd_6_34 : (Jvm.Cond.methodLink "java/lang/RuntimeException" (7 : Nat) ({ cls := "java/lang/Exception", name := "<init>", desc := "(Ljava/lang/String;)V" } : Jvm.MethodName)) ∈ gT := gT_in (in_6 _ (List.mem_of_getElem? (i := 34) rfl)) rfl
theorem wd_6_35 : (Jvm.Cond.instanceMethod ({ cls := "java/lang/Exception", name := "<init>", desc := "(Ljava/lang/String;)V" } : Jvm.MethodName)) ∈ gT := gT_in (in_6 _ (List.mem_of_getElem? (i := 35) rfl)) rfl
theorem wd_6_36 : (Jvm.Cond.code ({ cls := "java/lang/Exception", name := "<init>", desc := "(Ljava/lang/String;)V" } : Jvm.MethodName) prog_21_method_2_code (2 : Nat) (Option.none : Option Jvm.ClassFile.FieldType)) ∈ gT := gT_in (in_6 _ (List.mem_of_getElem? (i := 36) rfl)) rfl
theorem wd_6_37 : (Jvm.Cond.methodLink "java/lang/Exception" (7 : Nat) ({ cls := "java/lang/Throwable", name := "<init>", desc := "(Ljava/lang/String;)V" } : Jvm.MethodName)) ∈ gT := gT_in (in_6 _ (List.mem_of_getElem? (i := 37) rfl)) rfl
theorem wd_6_38 : (Jvm.Cond.instanceMethod ({ cls := "java/lang/Throwable", name := "<init>", desc := "(Ljava/lang/String;)V" } : Jvm.MethodName)) ∈ gT := gT_in (in_6 _ (List.mem_of_getElem? (i := 38) rfl)) rfl
theorem wd_6_39 : (Jvm.Cond.code ({ cls := "java/lang/Throwable", name := "<init>", desc := "(Ljava/lang/String;)V" } : Jvm.MethodName) prog_29_method_2_code (2 : Nat) (Option.none : Option Jvm.ClassFile.FieldType)) ∈ gT := gT_in (in_6 _ (List.mem_of_getElem? (i := 39) rfl)) rfl
theorem wd_6_41 : (Jvm.Cond.fieldLink "java/lang/Throwable" (31 : Nat) "java/lang/Throwable" "detailMessage" "Ljava/lang/String;") ∈ gT := gT_in (in_6 _ (List.mem_of_getElem? (i := 41) rfl)) rfl
theorem wd_6_42 : (Jvm.Cond.fieldLink "java/lang/Throwable" (7 : Nat) "java/lang/Throwable" "cause" "Ljava/lang/Throwable;") ∈ gT := gT_in (in_6 _ (List.mem_of_getElem? (i := 42) rfl)) rfl
theorem wd_6_43 : (Jvm.Cond.fieldLink "java/lang/Throwable" (17 : Nat) "java/lang/Throwable" "stackTrace" "[Ljava/lang/StackTraceElement;") ∈ gT := gT_in (in_6 _ (List.mem_of_getElem? (i := 43) rfl)) rfl
theorem wd_6_44 : (Jvm.Cond.fieldLink "java/lang/Throwable" (24 : Nat) "java/lang/Throwable" "suppressedExceptions" "Ljava/util/List;") ∈ gT := gT_in (in_6 _ (List.mem_of_getElem? (i := 44) rfl)) rfl
theorem wd_6_69 : (Jvm.Cond.methodLink "SheetPrinter" (125 : Nat) ({ cls := "java/lang/Math", name := "max", desc := "(II)I" } : Jvm.MethodName)) ∈ gT := gT_in (in_6 _ (List.mem_of_getElem? (i := 69) rfl)) rfl
theorem wd_6_70 : (Jvm.Cond.methodLink "SheetPrinter" (131 : Nat) ({ cls := "SheetPrinter", name := "printStream", desc := "(I)V" } : Jvm.MethodName)) ∈ gT := gT_in (in_6 _ (List.mem_of_getElem? (i := 70) rfl)) rfl
theorem wd_6_72 : (Jvm.Cond.instanceMethod ({ cls := "SheetPrinter", name := "printStream", desc := "(I)V" } : Jvm.MethodName)) ∈ gT := gT_in (in_6 _ (List.mem_of_getElem? (i := 72) rfl)) rfl
theorem wd_8_114 : (Jvm.Cond.methodLink "SheetPrinter" (134 : Nat) ({ cls := "SheetPrinter", name := "printPictures", desc := "(I)I" } : Jvm.MethodName)) ∈ gT := gT_in (in_8 _ (List.mem_of_getElem? (i := 114) rfl)) rfl
theorem wd_8_116 : (Jvm.Cond.instanceMethod ({ cls := "SheetPrinter", name := "printPictures", desc := "(I)I" } : Jvm.MethodName)) ∈ gT := gT_in (in_8 _ (List.mem_of_getElem? (i := 116) rfl)) rfl
theorem wd_9_1 : (Jvm.Cond.codeWith ({ cls := "SheetPrinterLaw", name := "sheetOf", desc := "(LSheetPrinter;II[J)I" } : Jvm.MethodName) method_4_code (5 : Nat) (Option.some Jvm.ClassFile.FieldType.int) [((0 : Nat), (10 : Nat), (13 : Nat), (20 : Nat))]) ∈ gT := gT_in (in_9 _ (List.mem_of_getElem? (i := 1) rfl)) rfl
theorem wd_9_2 : (Jvm.Cond.classLink "SheetPrinterLaw" (20 : Nat) "java/lang/IndexOutOfBoundsException") ∈ gT := gT_in (in_9 _ (List.mem_of_getElem? (i := 2) rfl)) rfl
theorem wd_9_3 : (Jvm.Cond.methodLink "SheetPrinterLaw" (17 : Nat) ({ cls := "SheetPrinter", name := "sheetOf", desc := "(II)I" } : Jvm.MethodName)) ∈ gT := gT_in (in_9 _ (List.mem_of_getElem? (i := 3) rfl)) rfl
theorem wd_9_4 : (Jvm.Cond.instanceMethod ({ cls := "SheetPrinter", name := "sheetOf", desc := "(II)I" } : Jvm.MethodName)) ∈ gT := gT_in (in_9 _ (List.mem_of_getElem? (i := 4) rfl)) rfl
theorem wd_9_5 : (Jvm.Cond.selects "SheetPrinter" ({ cls := "SheetPrinter", name := "sheetOf", desc := "(II)I" } : Jvm.MethodName) ({ cls := "SheetPrinter", name := "sheetOf", desc := "(II)I" } : Jvm.MethodName)) ∈ gT := gT_in (in_9 _ (List.mem_of_getElem? (i := 5) rfl)) rfl
theorem wd_9_6 : (Jvm.Cond.code ({ cls := "SheetPrinter", name := "sheetOf", desc := "(II)I" } : Jvm.MethodName) prog_1_method_7_code (3 : Nat) (Option.some Jvm.ClassFile.FieldType.int)) ∈ gT := gT_in (in_9 _ (List.mem_of_getElem? (i := 6) rfl)) rfl
theorem wd_9_7 : (Jvm.Cond.classLink "SheetPrinter" (173 : Nat) "java/lang/IndexOutOfBoundsException") ∈ gT := gT_in (in_9 _ (List.mem_of_getElem? (i := 7) rfl)) rfl
theorem wd_9_8 : (Jvm.Cond.instantiable "java/lang/IndexOutOfBoundsException" (6 : Nat)) ∈ gT := gT_in (in_9 _ (List.mem_of_getElem? (i := 8) rfl)) rfl
theorem wd_9_10 : (Jvm.Cond.selects "java/lang/IndexOutOfBoundsException" ({ cls := "java/lang/Throwable", name := "fillInStackTrace", desc := "(I)Ljava/lang/Throwable;" } : Jvm.MethodName) ({ cls := "java/lang/Throwable", name := "fillInStackTrace", desc := "(I)Ljava/lang/Throwable;" } : Jvm.MethodName)) ∈ gT := gT_in (in_9 _ (List.mem_of_getElem? (i := 10) rfl)) rfl
theorem wd_9_11 : (Jvm.Cond.lays "java/lang/IndexOutOfBoundsException" "java/lang/Throwable" "cause" "Ljava/lang/Throwable;") ∈ gT := gT_in (in_9 _ (List.mem_of_getElem? (i := 11) rfl)) rfl
theorem wd_9_12 : (Jvm.Cond.lays "java/lang/IndexOutOfBoundsException" "java/lang/Throwable" "stackTrace" "[Ljava/lang/StackTraceElement;") ∈ gT := gT_in (in_9 _ (List.mem_of_getElem? (i := 12) rfl)) rfl
theorem wd_9_13 : (Jvm.Cond.lays "java/lang/IndexOutOfBoundsException" "java/lang/Throwable" "suppressedExceptions" "Ljava/util/List;") ∈ gT := gT_in (in_9 _ (List.mem_of_getElem? (i := 13) rfl)) rfl
theorem wd_9_14 : (Jvm.Cond.lays "java/lang/IndexOutOfBoundsException" "java/lang/Throwable" "detailMessage" "Ljava/lang/String;") ∈ gT := gT_in (in_9 _ (List.mem_of_getElem? (i := 14) rfl)) rfl
theorem wd_9_15 : (Jvm.Cond.lays "java/lang/IndexOutOfBoundsException" "java/lang/Throwable" "backtrace" "Ljava/lang/Object;") ∈ gT := gT_in (in_9 _ (List.mem_of_getElem? (i := 15) rfl)) rfl
theorem wd_9_17 : (Jvm.Cond.methodLink "SheetPrinter" (177 : Nat) ({ cls := "java/lang/IndexOutOfBoundsException", name := "<init>", desc := "(Ljava/lang/String;)V" } : Jvm.MethodName)) ∈ gT := gT_in (in_9 _ (List.mem_of_getElem? (i := 17) rfl)) rfl
theorem wd_9_18 : (Jvm.Cond.instanceMethod ({ cls := "java/lang/IndexOutOfBoundsException", name := "<init>", desc := "(Ljava/lang/String;)V" } : Jvm.MethodName)) ∈ gT := gT_in (in_9 _ (List.mem_of_getElem? (i := 18) rfl)) rfl
theorem wd_9_19 : (Jvm.Cond.code ({ cls := "java/lang/IndexOutOfBoundsException", name := "<init>", desc := "(Ljava/lang/String;)V" } : Jvm.MethodName) prog_24_method_2_code (2 : Nat) (Option.none : Option Jvm.ClassFile.FieldType)) ∈ gT := gT_in (in_9 _ (List.mem_of_getElem? (i := 19) rfl)) rfl
theorem wd_9_20 : (Jvm.Cond.methodLink "java/lang/IndexOutOfBoundsException" (7 : Nat) ({ cls := "java/lang/RuntimeException", name := "<init>", desc := "(Ljava/lang/String;)V" } : Jvm.MethodName)) ∈ gT := gT_in (in_9 _ (List.mem_of_getElem? (i := 20) rfl)) rfl
theorem ws_49 : Cond.selects "SheetPrinter" ⟨"SheetPrinter", "printStream", "(I)V"⟩ ⟨"SheetPrinter", "printStream", "(I)V"⟩ ∈ gT := gT_in (List.mem_append_left _ (List.mem_of_getElem? (i := 49) rfl)) rfl
theorem ws_101 : Cond.selects "SheetPrinter" ⟨"SheetPrinter", "printPictures", "(I)I"⟩ ⟨"SheetPrinter", "printPictures", "(I)I"⟩ ∈ gT := gT_in (List.mem_append_left _ (List.mem_of_getElem? (i := 101) rfl)) rfl

abbrev b_Main_submit : ByteArray := prog_1_method_4_code
abbrev y_Main_submit : MethodName := ⟨"SheetPrinter", "submit", "(II)I"⟩
abbrev w_Main_submit : List Cond := .code y_Main_submit b_Main_submit 4 (some .int) :: gT
theorem gd_Main_submit : GoodIn gT w_Main_submit := gW wd_5_225
theorem d_Main_submit_0 : decode b_Main_submit 0 = .ok (.iload_n 1, 1) := by decide +kernel
theorem d_Main_submit_1 : decode b_Main_submit 1 = .ok (.ifCond .lt 19, 3) := by decide +kernel
theorem d_Main_submit_4 : decode b_Main_submit 4 = .ok (.iload_n 1, 1) := by decide +kernel
theorem d_Main_submit_5 : decode b_Main_submit 5 = .ok (.iconst 1, 1) := by decide +kernel
theorem d_Main_submit_6 : decode b_Main_submit 6 = .ok (.if_icmp .gt 14, 3) := by decide +kernel
theorem d_Main_submit_9 : decode b_Main_submit 9 = .ok (.iload_n 2, 1) := by decide +kernel
theorem d_Main_submit_10 : decode b_Main_submit 10 = .ok (.iconst 1, 1) := by decide +kernel
theorem d_Main_submit_11 : decode b_Main_submit 11 = .ok (.if_icmp .lt 9, 3) := by decide +kernel
theorem d_Main_submit_14 : decode b_Main_submit 14 = .ok (.iload_n 2, 1) := by decide +kernel
theorem d_Main_submit_15 : decode b_Main_submit 15 = .ok (.bipush 20, 2) := by decide +kernel
theorem d_Main_submit_17 : decode b_Main_submit 17 = .ok (.if_icmp .le 13, 3) := by decide +kernel
theorem d_Main_submit_20 : decode b_Main_submit 20 = .ok (.new 110, 3) := by decide +kernel
theorem d_Main_submit_23 : decode b_Main_submit 23 = .ok (.dup, 1) := by decide +kernel
theorem d_Main_submit_24 : decode b_Main_submit 24 = .ok (.ldc 112, 2) := by decide +kernel
theorem d_Main_submit_26 : decode b_Main_submit 26 = .ok (.invokespecial 114, 3) := by decide +kernel
theorem d_Main_submit_29 : decode b_Main_submit 29 = .ok (.athrow, 1) := by decide +kernel
theorem d_Main_submit_30 : decode b_Main_submit 30 = .ok (.aload_n 0, 1) := by decide +kernel
theorem d_Main_submit_31 : decode b_Main_submit 31 = .ok (.getfield 117, 3) := by decide +kernel
theorem d_Main_submit_34 : decode b_Main_submit 34 = .ok (.ifCond .eq 13, 3) := by decide +kernel
theorem d_Main_submit_37 : decode b_Main_submit 37 = .ok (.new 120, 3) := by decide +kernel
theorem d_Main_submit_40 : decode b_Main_submit 40 = .ok (.dup, 1) := by decide +kernel
theorem d_Main_submit_41 : decode b_Main_submit 41 = .ok (.ldc 122, 2) := by decide +kernel
theorem d_Main_submit_43 : decode b_Main_submit 43 = .ok (.invokespecial 124, 3) := by decide +kernel
theorem d_Main_submit_46 : decode b_Main_submit 46 = .ok (.athrow, 1) := by decide +kernel
theorem d_Main_submit_47 : decode b_Main_submit 47 = .ok (.iconst 0, 1) := by decide +kernel
theorem d_Main_submit_48 : decode b_Main_submit 48 = .ok (.aload_n 0, 1) := by decide +kernel
theorem d_Main_submit_49 : decode b_Main_submit 49 = .ok (.getfield 104, 3) := by decide +kernel
theorem d_Main_submit_52 : decode b_Main_submit 52 = .ok (.bipush 20, 2) := by decide +kernel
theorem d_Main_submit_54 : decode b_Main_submit 54 = .ok (.iload_n 2, 1) := by decide +kernel
theorem d_Main_submit_55 : decode b_Main_submit 55 = .ok (.isub, 1) := by decide +kernel
theorem d_Main_submit_56 : decode b_Main_submit 56 = .ok (.isub, 1) := by decide +kernel
theorem d_Main_submit_57 : decode b_Main_submit 57 = .ok (.invokestatic 125, 3) := by decide +kernel
theorem d_Main_submit_60 : decode b_Main_submit 60 = .ok (.istore_n 3, 1) := by decide +kernel
theorem d_Main_submit_61 : decode b_Main_submit 61 = .ok (.iload_n 1, 1) := by decide +kernel
theorem d_Main_submit_62 : decode b_Main_submit 62 = .ok (.ifCond .ne 11, 3) := by decide +kernel
theorem d_Main_submit_65 : decode b_Main_submit 65 = .ok (.aload_n 0, 1) := by decide +kernel
theorem d_Main_submit_66 : decode b_Main_submit 66 = .ok (.iload_n 3, 1) := by decide +kernel
theorem d_Main_submit_67 : decode b_Main_submit 67 = .ok (.invokevirtual 131, 3) := by decide +kernel
theorem d_Main_submit_70 : decode b_Main_submit 70 = .ok (.goto 12, 3) := by decide +kernel
theorem d_Main_submit_73 : decode b_Main_submit 73 = .ok (.aload_n 0, 1) := by decide +kernel
theorem d_Main_submit_74 : decode b_Main_submit 74 = .ok (.aload_n 0, 1) := by decide +kernel
theorem d_Main_submit_75 : decode b_Main_submit 75 = .ok (.iload_n 3, 1) := by decide +kernel
theorem d_Main_submit_76 : decode b_Main_submit 76 = .ok (.invokevirtual 134, 3) := by decide +kernel
theorem d_Main_submit_79 : decode b_Main_submit 79 = .ok (.putfield 117, 3) := by decide +kernel
theorem d_Main_submit_82 : decode b_Main_submit 82 = .ok (.aload_n 0, 1) := by decide +kernel
theorem d_Main_submit_83 : decode b_Main_submit 83 = .ok (.iconst 0, 1) := by decide +kernel
theorem d_Main_submit_84 : decode b_Main_submit 84 = .ok (.putfield 104, 3) := by decide +kernel
theorem d_Main_submit_87 : decode b_Main_submit 87 = .ok (.aload_n 0, 1) := by decide +kernel
theorem d_Main_submit_88 : decode b_Main_submit 88 = .ok (.getfield 78, 3) := by decide +kernel
theorem d_Main_submit_91 : decode b_Main_submit 91 = .ok (.getfield 138, 3) := by decide +kernel
theorem d_Main_submit_94 : decode b_Main_submit 94 = .ok (.ireturn, 1) := by decide +kernel
abbrev b_Main_sheetOf : ByteArray := prog_1_method_7_code
abbrev y_Main_sheetOf : MethodName := ⟨"SheetPrinter", "sheetOf", "(II)I"⟩
abbrev w_Main_sheetOf : List Cond := .code y_Main_sheetOf b_Main_sheetOf 3 (some .int) :: gT
theorem gd_Main_sheetOf : GoodIn gT w_Main_sheetOf := gW wd_9_6
theorem d_Main_sheetOf_0 : decode b_Main_sheetOf 0 = .ok (.iload_n 1, 1) := by decide +kernel
theorem d_Main_sheetOf_1 : decode b_Main_sheetOf 1 = .ok (.ifCond .lt 23, 3) := by decide +kernel
theorem d_Main_sheetOf_4 : decode b_Main_sheetOf 4 = .ok (.iload_n 1, 1) := by decide +kernel
theorem d_Main_sheetOf_5 : decode b_Main_sheetOf 5 = .ok (.aload_n 0, 1) := by decide +kernel
theorem d_Main_sheetOf_6 : decode b_Main_sheetOf 6 = .ok (.getfield 82, 3) := by decide +kernel
theorem d_Main_sheetOf_9 : decode b_Main_sheetOf 9 = .ok (.getfield 138, 3) := by decide +kernel
theorem d_Main_sheetOf_12 : decode b_Main_sheetOf 12 = .ok (.if_icmp .ge 12, 3) := by decide +kernel
theorem d_Main_sheetOf_15 : decode b_Main_sheetOf 15 = .ok (.iload_n 2, 1) := by decide +kernel
theorem d_Main_sheetOf_16 : decode b_Main_sheetOf 16 = .ok (.ifCond .lt 8, 3) := by decide +kernel
theorem d_Main_sheetOf_19 : decode b_Main_sheetOf 19 = .ok (.iload_n 2, 1) := by decide +kernel
theorem d_Main_sheetOf_20 : decode b_Main_sheetOf 20 = .ok (.iconst 3, 1) := by decide +kernel
theorem d_Main_sheetOf_21 : decode b_Main_sheetOf 21 = .ok (.if_icmp .le 13, 3) := by decide +kernel
theorem d_Main_sheetOf_24 : decode b_Main_sheetOf 24 = .ok (.new 173, 3) := by decide +kernel
theorem d_Main_sheetOf_27 : decode b_Main_sheetOf 27 = .ok (.dup, 1) := by decide +kernel
theorem d_Main_sheetOf_28 : decode b_Main_sheetOf 28 = .ok (.ldc 175, 2) := by decide +kernel
theorem d_Main_sheetOf_30 : decode b_Main_sheetOf 30 = .ok (.invokespecial 177, 3) := by decide +kernel
theorem d_Main_sheetOf_33 : decode b_Main_sheetOf 33 = .ok (.athrow, 1) := by decide +kernel
theorem d_Main_sheetOf_34 : decode b_Main_sheetOf 34 = .ok (.aload_n 0, 1) := by decide +kernel
theorem d_Main_sheetOf_35 : decode b_Main_sheetOf 35 = .ok (.getfield 82, 3) := by decide +kernel
theorem d_Main_sheetOf_38 : decode b_Main_sheetOf 38 = .ok (.iload_n 1, 1) := by decide +kernel
theorem d_Main_sheetOf_39 : decode b_Main_sheetOf 39 = .ok (.iload_n 2, 1) := by decide +kernel
theorem d_Main_sheetOf_40 : decode b_Main_sheetOf 40 = .ok (.invokevirtual 178, 3) := by decide +kernel
theorem d_Main_sheetOf_43 : decode b_Main_sheetOf 43 = .ok (.ireturn, 1) := by decide +kernel
abbrev b_Law_submit : ByteArray := method_3_code
abbrev y_Law_submit : MethodName := ⟨"SheetPrinterLaw", "submit", "(LSheetPrinter;II[J)I"⟩
abbrev w_Law_submit : List Cond := .codeWith y_Law_submit b_Law_submit 5 (some .int) [(0, 10, 13, 13), (0, 10, 17, 15)] :: gT
theorem gd_Law_submit : GoodIn gT w_Law_submit := gW wd_5_219
theorem d_Law_submit_0 : decode b_Law_submit 0 = .ok (.aload_n 3, 1) := by decide +kernel
theorem d_Law_submit_1 : decode b_Law_submit 1 = .ok (.iconst 0, 1) := by decide +kernel
theorem d_Law_submit_2 : decode b_Law_submit 2 = .ok (.aload_n 0, 1) := by decide +kernel
theorem d_Law_submit_3 : decode b_Law_submit 3 = .ok (.iload_n 1, 1) := by decide +kernel
theorem d_Law_submit_4 : decode b_Law_submit 4 = .ok (.iload_n 2, 1) := by decide +kernel
theorem d_Law_submit_5 : decode b_Law_submit 5 = .ok (.invokevirtual 7, 3) := by decide +kernel
theorem d_Law_submit_8 : decode b_Law_submit 8 = .ok (.i2l, 1) := by decide +kernel
theorem d_Law_submit_9 : decode b_Law_submit 9 = .ok (.lastore, 1) := by decide +kernel
theorem d_Law_submit_10 : decode b_Law_submit 10 = .ok (.goto 11, 3) := by decide +kernel
theorem d_Law_submit_13 : decode b_Law_submit 13 = .ok (.astore 4, 2) := by decide +kernel
theorem d_Law_submit_15 : decode b_Law_submit 15 = .ok (.iconst 1, 1) := by decide +kernel
theorem d_Law_submit_16 : decode b_Law_submit 16 = .ok (.ireturn, 1) := by decide +kernel
theorem d_Law_submit_17 : decode b_Law_submit 17 = .ok (.astore 4, 2) := by decide +kernel
theorem d_Law_submit_19 : decode b_Law_submit 19 = .ok (.iconst 2, 1) := by decide +kernel
theorem d_Law_submit_20 : decode b_Law_submit 20 = .ok (.ireturn, 1) := by decide +kernel
theorem d_Law_submit_21 : decode b_Law_submit 21 = .ok (.iconst 0, 1) := by decide +kernel
theorem d_Law_submit_22 : decode b_Law_submit 22 = .ok (.ireturn, 1) := by decide +kernel
abbrev b_Law_sheetOf : ByteArray := method_4_code
abbrev y_Law_sheetOf : MethodName := ⟨"SheetPrinterLaw", "sheetOf", "(LSheetPrinter;II[J)I"⟩
abbrev w_Law_sheetOf : List Cond := .codeWith y_Law_sheetOf b_Law_sheetOf 5 (some .int) [(0, 10, 13, 20)] :: gT
theorem gd_Law_sheetOf : GoodIn gT w_Law_sheetOf := gW wd_9_1
theorem d_Law_sheetOf_0 : decode b_Law_sheetOf 0 = .ok (.aload_n 3, 1) := by decide +kernel
theorem d_Law_sheetOf_1 : decode b_Law_sheetOf 1 = .ok (.iconst 0, 1) := by decide +kernel
theorem d_Law_sheetOf_2 : decode b_Law_sheetOf 2 = .ok (.aload_n 0, 1) := by decide +kernel
theorem d_Law_sheetOf_3 : decode b_Law_sheetOf 3 = .ok (.iload_n 1, 1) := by decide +kernel
theorem d_Law_sheetOf_4 : decode b_Law_sheetOf 4 = .ok (.iload_n 2, 1) := by decide +kernel
theorem d_Law_sheetOf_5 : decode b_Law_sheetOf 5 = .ok (.invokevirtual 17, 3) := by decide +kernel
theorem d_Law_sheetOf_8 : decode b_Law_sheetOf 8 = .ok (.i2l, 1) := by decide +kernel
theorem d_Law_sheetOf_9 : decode b_Law_sheetOf 9 = .ok (.lastore, 1) := by decide +kernel
theorem d_Law_sheetOf_10 : decode b_Law_sheetOf 10 = .ok (.goto 7, 3) := by decide +kernel
theorem d_Law_sheetOf_13 : decode b_Law_sheetOf 13 = .ok (.astore 4, 2) := by decide +kernel
theorem d_Law_sheetOf_15 : decode b_Law_sheetOf 15 = .ok (.iconst 1, 1) := by decide +kernel
theorem d_Law_sheetOf_16 : decode b_Law_sheetOf 16 = .ok (.ireturn, 1) := by decide +kernel
theorem d_Law_sheetOf_17 : decode b_Law_sheetOf 17 = .ok (.iconst 0, 1) := by decide +kernel
theorem d_Law_sheetOf_18 : decode b_Law_sheetOf 18 = .ok (.ireturn, 1) := by decide +kernel
abbrev b_Law_cell : ByteArray := method_2_code
abbrev y_Law_cell : MethodName := ⟨"SheetPrinterLaw", "cell", "([II)I"⟩
abbrev w_Law_cell : List Cond := .code y_Law_cell b_Law_cell 2 (some .int) :: gT
theorem gd_Law_cell : GoodIn gT w_Law_cell := gW wd_5_216
theorem d_Law_cell_0 : decode b_Law_cell 0 = .ok (.iload_n 1, 1) := by decide +kernel
theorem d_Law_cell_1 : decode b_Law_cell 1 = .ok (.aload_n 0, 1) := by decide +kernel
theorem d_Law_cell_2 : decode b_Law_cell 2 = .ok (.arraylength, 1) := by decide +kernel
theorem d_Law_cell_3 : decode b_Law_cell 3 = .ok (.if_icmp .ge 9, 3) := by decide +kernel
theorem d_Law_cell_6 : decode b_Law_cell 6 = .ok (.aload_n 0, 1) := by decide +kernel
theorem d_Law_cell_7 : decode b_Law_cell 7 = .ok (.iload_n 1, 1) := by decide +kernel
theorem d_Law_cell_8 : decode b_Law_cell 8 = .ok (.iaload, 1) := by decide +kernel
theorem d_Law_cell_9 : decode b_Law_cell 9 = .ok (.goto 4, 3) := by decide +kernel
theorem d_Law_cell_12 : decode b_Law_cell 12 = .ok (.iconst 0, 1) := by decide +kernel
theorem d_Law_cell_13 : decode b_Law_cell 13 = .ok (.ireturn, 1) := by decide +kernel
set_option maxRecDepth 100000 in
theorem xa_0 {args : Array Value} {s : State} {tt : Nat → Nat} {A : Nat → Prop} (hwd : ∀ w ∈ gT, w.before args s = true) (hF : SF tt A s s.heap) : ∀ a ∈ Bundle.ownAtoms "SheetPrinter" 114 "java/lang/IllegalArgumentException" ["java/lang/RuntimeException", "java/lang/Exception"], a.before args s = true :=
  List.forall_mem_cons.mpr ⟨hwd _ wd_1_23, List.forall_mem_cons.mpr ⟨hwd _ wd_6_8, List.forall_mem_cons.mpr ⟨hwd _ wd_6_17, List.forall_mem_cons.mpr ⟨hwd _ wd_6_21, List.forall_mem_cons.mpr ⟨hwd _ wd_6_24, List.forall_mem_cons.mpr ⟨hwd _ wd_6_26, List.forall_mem_cons.mpr ⟨hwd _ wd_6_9, List.forall_mem_cons.mpr ⟨hwd _ wd_6_10, List.forall_mem_cons.mpr ⟨hwd _ wd_1_35, List.forall_mem_cons.mpr ⟨hwd _ wd_1_36, List.forall_mem_cons.mpr ⟨hwd _ wd_6_11, List.forall_mem_cons.mpr ⟨hwd _ wd_6_16, List.forall_mem_cons.mpr ⟨hwd _ wd_6_22, List.forall_mem_cons.mpr ⟨hwd _ wd_6_42, List.forall_mem_cons.mpr ⟨hwd _ wd_5_238, List.forall_mem_cons.mpr ⟨hwd _ wd_6_43, List.forall_mem_cons.mpr ⟨hwd _ wd_6_0, List.forall_mem_cons.mpr ⟨hwd _ wd_6_44, List.forall_mem_cons.mpr ⟨hwd _ wd_6_2, List.forall_mem_cons.mpr ⟨hwd _ wd_6_12, List.forall_mem_cons.mpr ⟨hF.2.2.1.lays, List.forall_mem_cons.mpr ⟨hwd _ wd_6_14, List.forall_mem_cons.mpr ⟨hF.2.2.2.1.lays, List.forall_mem_cons.mpr ⟨hwd _ wd_6_4, List.forall_mem_cons.mpr ⟨hwd _ wd_6_38, List.forall_mem_cons.mpr ⟨hwd _ wd_6_39, List.forall_mem_cons.mpr ⟨hwd _ wd_6_41, List.forall_mem_cons.mpr ⟨hwd _ wd_6_4, List.forall_mem_cons.mpr ⟨hwd _ wd_6_29, List.forall_mem_cons.mpr ⟨hwd _ wd_6_30, List.forall_mem_cons.mpr ⟨hwd _ wd_6_31, List.forall_mem_cons.mpr ⟨hwd _ wd_6_32, List.forall_mem_cons.mpr ⟨va_Nw.use (xaW_tab _ (List.mem_of_getElem? (i := 2) rfl)).1 (hF.2.2.2.2.1 _ (List.mem_of_getElem? (i := 2) rfl)), List.forall_mem_cons.mpr ⟨hwd _ wd_6_32, List.forall_mem_cons.mpr ⟨hwd _ wd_6_33, List.forall_mem_cons.mpr ⟨hwd _ wd_6_34, List.forall_mem_cons.mpr ⟨hwd _ wd_6_35, List.forall_mem_cons.mpr ⟨va_Nw.use (xaW_tab _ (List.mem_of_getElem? (i := 4) rfl)).1 (hF.2.2.2.2.1 _ (List.mem_of_getElem? (i := 4) rfl)), List.forall_mem_cons.mpr ⟨hwd _ wd_6_35, List.forall_mem_cons.mpr ⟨hwd _ wd_6_36, List.forall_mem_cons.mpr ⟨hwd _ wd_6_37, List.forall_mem_cons.mpr ⟨hwd _ wd_6_38, List.forall_mem_cons.mpr ⟨va_Nw.use (xaW_tab _ (List.mem_of_getElem? (i := 6) rfl)).1 (hF.2.2.2.2.1 _ (List.mem_of_getElem? (i := 6) rfl)), List.forall_mem_cons.mpr ⟨hwd _ wd_6_28, List.forall_mem_cons.mpr ⟨hwd _ wd_5_227, List.forall_mem_cons.mpr ⟨va_Nw.use (xaW_tab _ (List.mem_of_getElem? (i := 0) rfl)).1 (hF.2.2.2.2.1 _ (List.mem_of_getElem? (i := 0) rfl)), List.forall_mem_cons.mpr ⟨hwd _ wd_5_235, List.forall_mem_cons.mpr ⟨hwd _ wd_5_236, List.forall_mem_cons.mpr ⟨hwd _ wd_5_237, List.forall_mem_cons.mpr ⟨hwd _ wd_5_239, List.forall_mem_cons.mpr ⟨hwd _ wd_6_1, List.forall_mem_cons.mpr ⟨hwd _ wd_6_3, List.forall_mem_cons.mpr ⟨hF.2.2.1.isRef, List.forall_mem_cons.mpr ⟨hF.2.2.2.1.isRef, List.forall_mem_cons.mpr ⟨hwd _ wd_6_7, List.forall_mem_cons.mpr ⟨hwd _ wd_6_6, List.forall_mem_cons.mpr ⟨hwd _ wd_6_5, fun _ h => absurd h List.not_mem_nil⟩⟩⟩⟩⟩⟩⟩⟩⟩⟩⟩⟩⟩⟩⟩⟩⟩⟩⟩⟩⟩⟩⟩⟩⟩⟩⟩⟩⟩⟩⟩⟩⟩⟩⟩⟩⟩⟩⟩⟩⟩⟩⟩⟩⟩⟩⟩⟩⟩⟩⟩⟩⟩⟩⟩⟩⟩
set_option maxRecDepth 100000 in
theorem xa_1 {args : Array Value} {s : State} {tt : Nat → Nat} {A : Nat → Prop} (hwd : ∀ w ∈ gT, w.before args s = true) (hF : SF tt A s s.heap) : ∀ a ∈ Bundle.ownAtoms "SheetPrinter" 177 "java/lang/IndexOutOfBoundsException" ["java/lang/RuntimeException", "java/lang/Exception"], a.before args s = true :=
  List.forall_mem_cons.mpr ⟨hwd _ wd_1_23, List.forall_mem_cons.mpr ⟨hwd _ wd_6_8, List.forall_mem_cons.mpr ⟨hwd _ wd_6_17, List.forall_mem_cons.mpr ⟨hwd _ wd_6_21, List.forall_mem_cons.mpr ⟨hwd _ wd_6_24, List.forall_mem_cons.mpr ⟨hwd _ wd_6_26, List.forall_mem_cons.mpr ⟨hwd _ wd_6_9, List.forall_mem_cons.mpr ⟨hwd _ wd_6_10, List.forall_mem_cons.mpr ⟨hwd _ wd_1_35, List.forall_mem_cons.mpr ⟨hwd _ wd_1_36, List.forall_mem_cons.mpr ⟨hwd _ wd_6_11, List.forall_mem_cons.mpr ⟨hwd _ wd_6_16, List.forall_mem_cons.mpr ⟨hwd _ wd_6_22, List.forall_mem_cons.mpr ⟨hwd _ wd_6_42, List.forall_mem_cons.mpr ⟨hwd _ wd_5_238, List.forall_mem_cons.mpr ⟨hwd _ wd_6_43, List.forall_mem_cons.mpr ⟨hwd _ wd_6_0, List.forall_mem_cons.mpr ⟨hwd _ wd_6_44, List.forall_mem_cons.mpr ⟨hwd _ wd_6_2, List.forall_mem_cons.mpr ⟨hwd _ wd_6_12, List.forall_mem_cons.mpr ⟨hF.2.2.1.lays, List.forall_mem_cons.mpr ⟨hwd _ wd_6_14, List.forall_mem_cons.mpr ⟨hF.2.2.2.1.lays, List.forall_mem_cons.mpr ⟨hwd _ wd_6_4, List.forall_mem_cons.mpr ⟨hwd _ wd_6_38, List.forall_mem_cons.mpr ⟨hwd _ wd_6_39, List.forall_mem_cons.mpr ⟨hwd _ wd_6_41, List.forall_mem_cons.mpr ⟨hwd _ wd_6_4, List.forall_mem_cons.mpr ⟨hwd _ wd_9_18, List.forall_mem_cons.mpr ⟨hwd _ wd_9_19, List.forall_mem_cons.mpr ⟨hwd _ wd_9_20, List.forall_mem_cons.mpr ⟨hwd _ wd_6_32, List.forall_mem_cons.mpr ⟨va_Nw.use (xaW_tab _ (List.mem_of_getElem? (i := 2) rfl)).1 (hF.2.2.2.2.1 _ (List.mem_of_getElem? (i := 2) rfl)), List.forall_mem_cons.mpr ⟨hwd _ wd_6_32, List.forall_mem_cons.mpr ⟨hwd _ wd_6_33, List.forall_mem_cons.mpr ⟨hwd _ wd_6_34, List.forall_mem_cons.mpr ⟨hwd _ wd_6_35, List.forall_mem_cons.mpr ⟨va_Nw.use (xaW_tab _ (List.mem_of_getElem? (i := 4) rfl)).1 (hF.2.2.2.2.1 _ (List.mem_of_getElem? (i := 4) rfl)), List.forall_mem_cons.mpr ⟨hwd _ wd_6_35, List.forall_mem_cons.mpr ⟨hwd _ wd_6_36, List.forall_mem_cons.mpr ⟨hwd _ wd_6_37, List.forall_mem_cons.mpr ⟨hwd _ wd_6_38, List.forall_mem_cons.mpr ⟨va_Nw.use (xaW_tab _ (List.mem_of_getElem? (i := 6) rfl)).1 (hF.2.2.2.2.1 _ (List.mem_of_getElem? (i := 6) rfl)), List.forall_mem_cons.mpr ⟨hwd _ wd_9_17, List.forall_mem_cons.mpr ⟨hwd _ wd_9_8, List.forall_mem_cons.mpr ⟨va_Nw.use (xaW_tab _ (List.mem_of_getElem? (i := 8) rfl)).1 (hF.2.2.2.2.1 _ (List.mem_of_getElem? (i := 8) rfl)), List.forall_mem_cons.mpr ⟨hwd _ wd_9_10, List.forall_mem_cons.mpr ⟨hwd _ wd_6_20, List.forall_mem_cons.mpr ⟨hwd _ wd_9_11, List.forall_mem_cons.mpr ⟨hwd _ wd_9_12, List.forall_mem_cons.mpr ⟨hwd _ wd_9_13, List.forall_mem_cons.mpr ⟨hwd _ wd_9_14, List.forall_mem_cons.mpr ⟨hF.2.2.1.isRef, List.forall_mem_cons.mpr ⟨hF.2.2.2.1.isRef, List.forall_mem_cons.mpr ⟨hwd _ wd_6_7, List.forall_mem_cons.mpr ⟨hwd _ wd_6_6, List.forall_mem_cons.mpr ⟨hwd _ wd_9_15, fun _ h => absurd h List.not_mem_nil⟩⟩⟩⟩⟩⟩⟩⟩⟩⟩⟩⟩⟩⟩⟩⟩⟩⟩⟩⟩⟩⟩⟩⟩⟩⟩⟩⟩⟩⟩⟩⟩⟩⟩⟩⟩⟩⟩⟩⟩⟩⟩⟩⟩⟩⟩⟩⟩⟩⟩⟩⟩⟩⟩⟩⟩⟩
theorem k01 {x : Int32} (h1 : ¬ x < 0) (h2 : ¬ 1 < x) : x = 0 ∨ x = 1 := by
  rw [Int32.lt_iff_toInt_lt] at h1 h2
  have e0 : (0 : Int32).toInt = 0 := rfl
  have e1 : (1 : Int32).toInt = 1 := rfl
  rcases (show x.toInt = 0 ∨ x.toInt = 1 by omega) with h | h
  · exact Or.inl (Int32.toInt_inj.mp (h.trans e0.symm))
  · exact Or.inr (Int32.toInt_inj.mp (h.trans e1.symm))
theorem mx_d : ∀ k : Nat, k < 21 → ¬ (0 : Int32) < 0 - (20 - nI k) := by decide
theorem mx_t {x : Int32} (h1 : ¬ x < 1) (h2 : x ≤ 20) : (if (0 : Int32) < 0 - (20 - x) then 0 - (20 - x) else 0) = 0 := by
  obtain ⟨j, hj, e⟩ := nI_of (x := x) (fun q => h1 (by rw [Int32.lt_iff_toInt_lt] at q ⊢; simp at q ⊢; omega))
  rw [e] at h2 ⊢
  refine if_neg (mx_d j ?_)
  rw [Int32.le_iff_toInt_le, nI_toInt hj] at h2
  have e1 : (20 : Int32).toInt = 20 := rfl
  omega
theorem sub_cases (x y : Int32) : (¬ ((x = 0 ∨ x = 1) ∧ 1 ≤ y ∧ y ≤ 20)) ∨ (x = 0 ∧ ¬ y < 1 ∧ y ≤ 20) ∨ (x = 1 ∧ ¬ y < 1 ∧ y ≤ 20) := by
  by_cases h : (x = 0 ∨ x = 1) ∧ 1 ≤ y ∧ y ≤ 20
  · obtain ⟨h1 | h1, h2, h3⟩ := h
    · exact Or.inr (Or.inl ⟨h1, Int32.not_lt.mpr h2, h3⟩)
    · exact Or.inr (Or.inr ⟨h1, Int32.not_lt.mpr h2, h3⟩)
  · exact Or.inl h

abbrev rm_c_xsubmit : Room := { frames := 6, cells := 1, slots := 6, locals := 82 }
set_option maxHeartbeats 4000000 in
set_option maxRecDepth 100000 in
theorem c_xsubmit (l : Launch) (hlt : l.stackTraces = false) (dC : Nat → ClassId) (dI : Nat → Nat → Nat) (tt : Nat → Nat) (h0 : Nat) (m_dpi : Int32) (m_tape : Nat) (m_page : Nat) (m_sheet : Nat) (m_fonts : Nat) (m_macros : Nat) (m_raster : Nat) (m_interpreter : Nat) (m_picture : Nat) (m_coder : Nat) (m_reader : Nat) (m_file : Nat) (m_shown : Nat) (m_taped : Int32) (m_fault : Int32) (m_ended : Int32) (m_overruns : Int32) (m_pictures : Int32) (kd : Int32) (nn : Int32) (sz : Nat) (hbad : ¬ ((kd = 0 ∨ kd = 1) ∧ 1 ≤ nn ∧ nn ≤ 20)) : MetX l y_Main_submit w_Main_submit rm_c_xsubmit (va_Pc [.ref h0, .int kd, .int nn] (fun U => U.heap.size = sz ∧ va_P (dC, dI) vcl [(h0, .inr (0, [.int m_dpi, .ref m_tape, .ref m_page, .ref m_sheet, .ref m_fonts, .ref m_macros, .ref m_raster, .ref m_interpreter, .ref m_picture, .ref m_coder, .ref m_reader, .ref m_file, .ref m_shown, .int m_taped, .int m_fault, .int m_ended, .int m_overruns, .int m_pictures]))] U.heap ∧ va_K (dC, dI) vcl [] U ∧ va_D (fun _ => True) [(h0, .inr (0, [.int m_dpi, .ref m_tape, .ref m_page, .ref m_sheet, .ref m_fonts, .ref m_macros, .ref m_raster, .ref m_interpreter, .ref m_picture, .ref m_coder, .ref m_reader, .ref m_file, .ref m_shown, .int m_taped, .int m_fault, .int m_ended, .int m_overruns, .int m_pictures]))] ∧ SF tt (va_A [(h0, .inr (0, [.int m_dpi, .ref m_tape, .ref m_page, .ref m_sheet, .ref m_fonts, .ref m_macros, .ref m_raster, .ref m_interpreter, .ref m_picture, .ref m_coder, .ref m_reader, .ref m_file, .ref m_shown, .int m_taped, .int m_fault, .int m_ended, .int m_overruns, .int m_pictures]))] sz) U U.heap)) (xQ "java/lang/IllegalArgumentException") 1 6 (fun _ => False) := by
  refine MetX.ofW (cc := b_Main_submit) (maxL := 4) (ret := (some .int)) (by decide) rfl ?_
  intro p e s m args below meth c s₁ B hml hv
  obtain ⟨rfl, hsz, hP, hK, hD0, hF⟩ := hv
  have hx := B.exec
  have hb := B.bytes
  have hr := B.returns
  have hwd : ∀ w ∈ gT, w.before _ s = true := fun w h => atoms_spec (ws := w_Main_submit) B.pre w (List.mem_cons_of_mem _ h)
  have hown : s.vm.findClass R_Main = some m.cls := findClass_of_methodNamed B.named
  have hlocks := B.notSynchronized
  subst hsz
  have hD := hD0.self (sz := s.heap.size)
  generalize hAe : va_A [(h0, .inr (0, [.int m_dpi, .ref m_tape, .ref m_page, .ref m_sheet, .ref m_fonts, .ref m_macros, .ref m_raster, .ref m_interpreter, .ref m_picture, .ref m_coder, .ref m_reader, .ref m_file, .ref m_shown, .int m_taped, .int m_fault, .int m_ended, .int m_overruns, .int m_pictures]))] s.heap.size = A at hD hF
  have hA : ∀ q : Nat, s.heap.size ≤ q → A q := fun q h => by rw [← hAe]; exact Or.inr h
  have hS : va_S A s.heap s.heap [] := va_S.rf
  have hP : va_P (dC, dI) vcl [(h0, .inr (0, [.int m_dpi, .ref m_tape, .ref m_page, .ref m_sheet, .ref m_fonts, .ref m_macros, .ref m_raster, .ref m_interpreter, .ref m_picture, .ref m_coder, .ref m_reader, .ref m_file, .ref m_shown, .int m_taped, .int m_fault, .int m_ended, .int m_overruns, .int m_pictures]))] s.heap := hP
  have hl := lv_entry ([.ref h0, .int kd, .int nn]) (n := 4) (Nat.le_of_ble_eq_true rfl)
  rw [lg_entry_eq]
  generalize (lg_sl ([.ref h0, .int kd, .int nn]) ++ List.replicate (4 - (lg_sl ([.ref h0, .int kd, .int nn])).length) Slot.unset).toArray = ls at hl ⊢
  have hl : lv_has ls 4 [(0, .ref h0), (1, .int kd), (2, .int nn)] := hl
  refine lv_iload_n hx hb d_Main_submit_0 rfl (lv_at hl 1 rfl) ?_
  refine lv_if_lt (tgt := 20) hx hb d_Main_submit_1 (by decide) (fun c1 => ?_) (fun c1 => ?_)
  · exact w_throwNew (cells := 0) (slots := 0) (text := "kind is 0 or 1, n is 1 to 20") (names := ["java/lang/RuntimeException", "java/lang/Exception"]) hx hb hlt hown (by decide) (by decide) (xa_0 hwd hF) (hwd _ wd_5_226) (hwd _ wd_1_26) (xs_same rfl (hF.2.2.2.2.2 ("SheetPrinter", 112, "kind is 0 or 1, n is 1 to 20") (List.mem_of_getElem? (i := 0) rfl))) (hl.1.trans hml.symm) d_Main_submit_20 d_Main_submit_23 d_Main_submit_24 d_Main_submit_26 d_Main_submit_29 (covers_of_empty (B.noHandlers (atoms_spec (ws := w_Main_submit) B.pre _ List.mem_cons_self)) _) (Nat.le_of_ble_eq_true rfl) (Nat.le_of_ble_eq_true rfl) (Nat.le_of_ble_eq_true rfl) (Nat.le_of_ble_eq_true rfl) hlocks
  · refine lv_iload_n hx hb d_Main_submit_4 rfl (lv_at hl 1 rfl) ?_
    refine lv_iconst (v := 1) hx hb d_Main_submit_5 (by decide) ?_
    refine lv_icmp_gt (tgt := 20) hx hb d_Main_submit_6 (by decide) (fun c6 => ?_) (fun c6 => ?_)
    · exact w_throwNew (cells := 0) (slots := 0) (text := "kind is 0 or 1, n is 1 to 20") (names := ["java/lang/RuntimeException", "java/lang/Exception"]) hx hb hlt hown (by decide) (by decide) (xa_0 hwd hF) (hwd _ wd_5_226) (hwd _ wd_1_26) (xs_same rfl (hF.2.2.2.2.2 ("SheetPrinter", 112, "kind is 0 or 1, n is 1 to 20") (List.mem_of_getElem? (i := 0) rfl))) (hl.1.trans hml.symm) d_Main_submit_20 d_Main_submit_23 d_Main_submit_24 d_Main_submit_26 d_Main_submit_29 (covers_of_empty (B.noHandlers (atoms_spec (ws := w_Main_submit) B.pre _ List.mem_cons_self)) _) (Nat.le_of_ble_eq_true rfl) (Nat.le_of_ble_eq_true rfl) (Nat.le_of_ble_eq_true rfl) (Nat.le_of_ble_eq_true rfl) hlocks
    · refine lv_iload_n hx hb d_Main_submit_9 rfl (lv_at hl 2 rfl) ?_
      refine lv_iconst (v := 1) hx hb d_Main_submit_10 (by decide) ?_
      refine lv_icmp_lt (tgt := 20) hx hb d_Main_submit_11 (by decide) (fun c11 => ?_) (fun c11 => ?_)
      · exact w_throwNew (cells := 0) (slots := 0) (text := "kind is 0 or 1, n is 1 to 20") (names := ["java/lang/RuntimeException", "java/lang/Exception"]) hx hb hlt hown (by decide) (by decide) (xa_0 hwd hF) (hwd _ wd_5_226) (hwd _ wd_1_26) (xs_same rfl (hF.2.2.2.2.2 ("SheetPrinter", 112, "kind is 0 or 1, n is 1 to 20") (List.mem_of_getElem? (i := 0) rfl))) (hl.1.trans hml.symm) d_Main_submit_20 d_Main_submit_23 d_Main_submit_24 d_Main_submit_26 d_Main_submit_29 (covers_of_empty (B.noHandlers (atoms_spec (ws := w_Main_submit) B.pre _ List.mem_cons_self)) _) (Nat.le_of_ble_eq_true rfl) (Nat.le_of_ble_eq_true rfl) (Nat.le_of_ble_eq_true rfl) (Nat.le_of_ble_eq_true rfl) hlocks
      · refine lv_iload_n hx hb d_Main_submit_14 rfl (lv_at hl 2 rfl) ?_
        refine lv_bipush (v := 20) hx hb d_Main_submit_15 (by decide) ?_
        refine lv_icmp_le (tgt := 30) hx hb d_Main_submit_17 (by decide) (fun c17 => absurd c17 (fun h9 => hbad ⟨k01 c1 c6, Int32.not_lt.mp c11, h9⟩)) (fun c17 => ?_)
        exact w_throwNew (cells := 0) (slots := 0) (text := "kind is 0 or 1, n is 1 to 20") (names := ["java/lang/RuntimeException", "java/lang/Exception"]) hx hb hlt hown (by decide) (by decide) (xa_0 hwd hF) (hwd _ wd_5_226) (hwd _ wd_1_26) (xs_same rfl (hF.2.2.2.2.2 ("SheetPrinter", 112, "kind is 0 or 1, n is 1 to 20") (List.mem_of_getElem? (i := 0) rfl))) (hl.1.trans hml.symm) d_Main_submit_20 d_Main_submit_23 d_Main_submit_24 d_Main_submit_26 d_Main_submit_29 (covers_of_empty (B.noHandlers (atoms_spec (ws := w_Main_submit) B.pre _ List.mem_cons_self)) _) (Nat.le_of_ble_eq_true rfl) (Nat.le_of_ble_eq_true rfl) (Nat.le_of_ble_eq_true rfl) (Nat.le_of_ble_eq_true rfl) hlocks

abbrev at_c_submit_s (dC : Nat → ClassId) (dI : Nat → Nat → Nat) (h0 : Nat) (m_dpi : Int32) (m_tape : Nat) (m_page : Nat) (m_sheet : Nat) (m_fonts : Nat) (m_macros : Nat) (m_raster : Nat) (m_interpreter : Nat) (m_picture : Nat) (m_coder : Nat) (m_reader : Nat) (m_file : Nat) (m_shown : Nat) (m_ended : Int32) (m_overruns : Int32) (m_pictures : Int32) (i_tape : Nat) (i_page : Nat) (i_sheet : Nat) (i_fonts : Nat) (i_macros : Nat) (i_raster : Nat) (i_parser : Nat) (i_copies : Nat) (i_at : Nat) (i_ends : Nat) (i_called : Nat) (i_acts : Nat) (i_actIds : Nat) (i_actCount : Nat) (i_actNext : Nat) (i_ejecting : Int32) (i_then : Int32) (i_thenNumber : Int32) (i_thenStep : Int32) (c1 : ClassId) (f1 : Nat → Int32) (c2 : ClassId) (f2 : Nat → Int32) (c3 : ClassId) (f3 : Nat → Int32) (c4 : ClassId) (f4 : Nat → Int32) (ctp : ClassId) (ftp : Nat → Int32) (fb : Nat) (ftb : Nat) (fln : Int32) (flk : Int32) (nn : Int32) (A : Nat → Prop) (u : Unit) (t : State) : Prop := match u with
  | _ => va_P (dC, dI) vcl [] t.heap ∧ va_K (dC, dI) vcl [] t ∧ va_D A []
abbrev po_c_submit_s (h0 : Nat) (m_dpi : Int32) (m_tape : Nat) (m_page : Nat) (m_sheet : Nat) (m_fonts : Nat) (m_macros : Nat) (m_raster : Nat) (m_interpreter : Nat) (m_picture : Nat) (m_coder : Nat) (m_reader : Nat) (m_file : Nat) (m_shown : Nat) (m_ended : Int32) (m_overruns : Int32) (m_pictures : Int32) (i_tape : Nat) (i_page : Nat) (i_sheet : Nat) (i_fonts : Nat) (i_macros : Nat) (i_raster : Nat) (i_parser : Nat) (i_copies : Nat) (i_at : Nat) (i_ends : Nat) (i_called : Nat) (i_acts : Nat) (i_actIds : Nat) (i_actCount : Nat) (i_actNext : Nat) (i_ejecting : Int32) (i_then : Int32) (i_thenNumber : Int32) (i_thenStep : Int32) (c1 : ClassId) (f1 : Nat → Int32) (c2 : ClassId) (f2 : Nat → Int32) (c3 : ClassId) (f3 : Nat → Int32) (c4 : ClassId) (f4 : Nat → Int32) (ctp : ClassId) (ftp : Nat → Int32) (fb : Nat) (ftb : Nat) (fln : Int32) (flk : Int32) (nn : Int32) (r : Int32) (u : Unit) : Prop := match u with
  | _ => r = 0
abbrev q_c_submit_s (dC : Nat → ClassId) (dI : Nat → Nat → Nat) (h0 : Nat) (m_dpi : Int32) (m_tape : Nat) (m_page : Nat) (m_sheet : Nat) (m_fonts : Nat) (m_macros : Nat) (m_raster : Nat) (m_interpreter : Nat) (m_picture : Nat) (m_coder : Nat) (m_reader : Nat) (m_file : Nat) (m_shown : Nat) (m_ended : Int32) (m_overruns : Int32) (m_pictures : Int32) (i_tape : Nat) (i_page : Nat) (i_sheet : Nat) (i_fonts : Nat) (i_macros : Nat) (i_raster : Nat) (i_parser : Nat) (i_copies : Nat) (i_at : Nat) (i_ends : Nat) (i_called : Nat) (i_acts : Nat) (i_actIds : Nat) (i_actCount : Nat) (i_actNext : Nat) (i_ejecting : Int32) (i_then : Int32) (i_thenNumber : Int32) (i_thenStep : Int32) (c1 : ClassId) (f1 : Nat → Int32) (c2 : ClassId) (f2 : Nat → Int32) (c3 : ClassId) (f3 : Nat → Int32) (c4 : ClassId) (f4 : Nat → Int32) (ctp : ClassId) (ftp : Nat → Int32) (fb : Nat) (ftb : Nat) (fln : Int32) (flk : Int32) (nn : Int32) (A : Nat → Prop) : Array Value → State → Outcome → State → Prop := va_Qi (po_c_submit_s h0 m_dpi m_tape m_page m_sheet m_fonts m_macros m_raster m_interpreter m_picture m_coder m_reader m_file m_shown m_ended m_overruns m_pictures i_tape i_page i_sheet i_fonts i_macros i_raster i_parser i_copies i_at i_ends i_called i_acts i_actIds i_actCount i_actNext i_ejecting i_then i_thenNumber i_thenStep c1 f1 c2 f2 c3 f3 c4 f4 ctp ftp fb ftb fln flk nn) (at_c_submit_s dC dI h0 m_dpi m_tape m_page m_sheet m_fonts m_macros m_raster m_interpreter m_picture m_coder m_reader m_file m_shown m_ended m_overruns m_pictures i_tape i_page i_sheet i_fonts i_macros i_raster i_parser i_copies i_at i_ends i_called i_acts i_actIds i_actCount i_actNext i_ejecting i_then i_thenNumber i_thenStep c1 f1 c2 f2 c3 f3 c4 f4 ctp ftp fb ftb fln flk nn A) A
abbrev rm_c_submit_s : Room := { frames := 3, cells := 0, slots := 0, locals := 58 }
set_option maxHeartbeats 4000000 in
set_option maxRecDepth 100000 in
theorem c_submit_s (l : Launch) (dC : Nat → ClassId) (dI : Nat → Nat → Nat) (tt : Nat → Nat) (h0 : Nat) (m_dpi : Int32) (m_tape : Nat) (m_page : Nat) (m_sheet : Nat) (m_fonts : Nat) (m_macros : Nat) (m_raster : Nat) (m_interpreter : Nat) (m_picture : Nat) (m_coder : Nat) (m_reader : Nat) (m_file : Nat) (m_shown : Nat) (m_ended : Int32) (m_overruns : Int32) (m_pictures : Int32) (i_tape : Nat) (i_page : Nat) (i_sheet : Nat) (i_fonts : Nat) (i_macros : Nat) (i_raster : Nat) (i_parser : Nat) (i_copies : Nat) (i_at : Nat) (i_ends : Nat) (i_called : Nat) (i_acts : Nat) (i_actIds : Nat) (i_actCount : Nat) (i_actNext : Nat) (i_ejecting : Int32) (i_then : Int32) (i_thenNumber : Int32) (i_thenStep : Int32) (c1 : ClassId) (f1 : Nat → Int32) (c2 : ClassId) (f2 : Nat → Int32) (c3 : ClassId) (f3 : Nat → Int32) (c4 : ClassId) (f4 : Nat → Int32) (ctp : ClassId) (ftp : Nat → Int32) (fb : Nat) (ftb : Nat) (fln : Int32) (flk : Int32) (nn : Int32) (sz : Nat) (hn1 : ¬ nn < 1) (hn2 : nn ≤ 20) (q3 : f3 0 = 0) (q4 : f4 0 = 0) : Met l y_Main_submit w_Main_submit rm_c_submit_s (va_Pc [.ref h0, .int 0, .int nn] (fun U => U.heap.size = sz ∧ va_P (dC, dI) vcl [(h0, .inr (0, [.int m_dpi, .ref m_tape, .ref m_page, .ref m_sheet, .ref m_fonts, .ref m_macros, .ref m_raster, .ref m_interpreter, .ref m_picture, .ref m_coder, .ref m_reader, .ref m_file, .ref m_shown, .int 0, .int 0, .int m_ended, .int m_overruns, .int m_pictures])), (m_interpreter, .inr (4, [.ref i_tape, .ref i_page, .ref i_sheet, .ref i_fonts, .ref i_macros, .ref i_raster, .ref i_parser, .ref i_copies, .int 0, .ref i_at, .ref i_ends, .ref i_called, .ref i_acts, .ref i_actIds, .ref i_actCount, .ref i_actNext, .int i_ejecting, .int i_then, .int i_thenNumber, .int i_thenStep])), (i_at, .inl (c1, 3, .inl f1)), (i_ends, .inl (c2, 3, .inl f2)), (i_actNext, .inl (c3, 3, .inl f3)), (i_actCount, .inl (c4, 3, .inl f4)), (i_tape, .inl (ctp, 65536, .inl ftp)), (m_file, .inr (7, [.ref fb, .ref ftb, .int fln, .int 0, .int flk]))] U.heap ∧ va_K (dC, dI) vcl [(c1, .int), (c2, .int), (c3, .int), (c4, .int), (ctp, .byte)] U ∧ va_D (fun _ => True) [(h0, .inr (0, [.int m_dpi, .ref m_tape, .ref m_page, .ref m_sheet, .ref m_fonts, .ref m_macros, .ref m_raster, .ref m_interpreter, .ref m_picture, .ref m_coder, .ref m_reader, .ref m_file, .ref m_shown, .int 0, .int 0, .int m_ended, .int m_overruns, .int m_pictures])), (m_interpreter, .inr (4, [.ref i_tape, .ref i_page, .ref i_sheet, .ref i_fonts, .ref i_macros, .ref i_raster, .ref i_parser, .ref i_copies, .int 0, .ref i_at, .ref i_ends, .ref i_called, .ref i_acts, .ref i_actIds, .ref i_actCount, .ref i_actNext, .int i_ejecting, .int i_then, .int i_thenNumber, .int i_thenStep])), (i_at, .inl (c1, 3, .inl f1)), (i_ends, .inl (c2, 3, .inl f2)), (i_actNext, .inl (c3, 3, .inl f3)), (i_actCount, .inl (c4, 3, .inl f4)), (i_tape, .inl (ctp, 65536, .inl ftp)), (m_file, .inr (7, [.ref fb, .ref ftb, .int fln, .int 0, .int flk]))] ∧ SF tt (va_A [(h0, .inr (0, [.int m_dpi, .ref m_tape, .ref m_page, .ref m_sheet, .ref m_fonts, .ref m_macros, .ref m_raster, .ref m_interpreter, .ref m_picture, .ref m_coder, .ref m_reader, .ref m_file, .ref m_shown, .int 0, .int 0, .int m_ended, .int m_overruns, .int m_pictures])), (m_interpreter, .inr (4, [.ref i_tape, .ref i_page, .ref i_sheet, .ref i_fonts, .ref i_macros, .ref i_raster, .ref i_parser, .ref i_copies, .int 0, .ref i_at, .ref i_ends, .ref i_called, .ref i_acts, .ref i_actIds, .ref i_actCount, .ref i_actNext, .int i_ejecting, .int i_then, .int i_thenNumber, .int i_thenStep])), (i_at, .inl (c1, 3, .inl f1)), (i_ends, .inl (c2, 3, .inl f2)), (i_actNext, .inl (c3, 3, .inl f3)), (i_actCount, .inl (c4, 3, .inl f4)), (i_tape, .inl (ctp, 65536, .inl ftp)), (m_file, .inr (7, [.ref fb, .ref ftb, .int fln, .int 0, .int flk]))] sz) U U.heap)) (q_c_submit_s dC dI h0 m_dpi m_tape m_page m_sheet m_fonts m_macros m_raster m_interpreter m_picture m_coder m_reader m_file m_shown m_ended m_overruns m_pictures i_tape i_page i_sheet i_fonts i_macros i_raster i_parser i_copies i_at i_ends i_called i_acts i_actIds i_actCount i_actNext i_ejecting i_then i_thenNumber i_thenStep c1 f1 c2 f2 c3 f3 c4 f4 ctp ftp fb ftb fln flk nn (va_A [(h0, .inr (0, [.int m_dpi, .ref m_tape, .ref m_page, .ref m_sheet, .ref m_fonts, .ref m_macros, .ref m_raster, .ref m_interpreter, .ref m_picture, .ref m_coder, .ref m_reader, .ref m_file, .ref m_shown, .int 0, .int 0, .int m_ended, .int m_overruns, .int m_pictures])), (m_interpreter, .inr (4, [.ref i_tape, .ref i_page, .ref i_sheet, .ref i_fonts, .ref i_macros, .ref i_raster, .ref i_parser, .ref i_copies, .int 0, .ref i_at, .ref i_ends, .ref i_called, .ref i_acts, .ref i_actIds, .ref i_actCount, .ref i_actNext, .int i_ejecting, .int i_then, .int i_thenNumber, .int i_thenStep])), (i_at, .inl (c1, 3, .inl f1)), (i_ends, .inl (c2, 3, .inl f2)), (i_actNext, .inl (c3, 3, .inl f3)), (i_actCount, .inl (c4, 3, .inl f4)), (i_tape, .inl (ctp, 65536, .inl ftp)), (m_file, .inr (7, [.ref fb, .ref ftb, .int fln, .int 0, .int flk]))] sz)) 0 0 (va_A [(h0, .inr (0, [.int m_dpi, .ref m_tape, .ref m_page, .ref m_sheet, .ref m_fonts, .ref m_macros, .ref m_raster, .ref m_interpreter, .ref m_picture, .ref m_coder, .ref m_reader, .ref m_file, .ref m_shown, .int 0, .int 0, .int m_ended, .int m_overruns, .int m_pictures])), (m_interpreter, .inr (4, [.ref i_tape, .ref i_page, .ref i_sheet, .ref i_fonts, .ref i_macros, .ref i_raster, .ref i_parser, .ref i_copies, .int 0, .ref i_at, .ref i_ends, .ref i_called, .ref i_acts, .ref i_actIds, .ref i_actCount, .ref i_actNext, .int i_ejecting, .int i_then, .int i_thenNumber, .int i_thenStep])), (i_at, .inl (c1, 3, .inl f1)), (i_ends, .inl (c2, 3, .inl f2)), (i_actNext, .inl (c3, 3, .inl f3)), (i_actCount, .inl (c4, 3, .inl f4)), (i_tape, .inl (ctp, 65536, .inl ftp)), (m_file, .inr (7, [.ref fb, .ref ftb, .int fln, .int 0, .int flk]))] sz) := by
  refine Met.ofW (cc := b_Main_submit) (maxL := 4) (ret := (some .int)) (by decide) rfl ?_
  intro p e s m args below meth c s₁ B hml hv
  obtain ⟨rfl, hsz, hP, hK, hD0, hF⟩ := hv
  have hx := B.exec
  have hb := B.bytes
  have hr := B.returns
  have hwd : ∀ w ∈ gT, w.before _ s = true := fun w h => atoms_spec (ws := w_Main_submit) B.pre w (List.mem_cons_of_mem _ h)
  have hown : s.vm.findClass R_Main = some m.cls := findClass_of_methodNamed B.named
  have hlocks := B.notSynchronized
  subst hsz
  have hD := hD0.self (sz := s.heap.size)
  generalize hAe : va_A [(h0, .inr (0, [.int m_dpi, .ref m_tape, .ref m_page, .ref m_sheet, .ref m_fonts, .ref m_macros, .ref m_raster, .ref m_interpreter, .ref m_picture, .ref m_coder, .ref m_reader, .ref m_file, .ref m_shown, .int 0, .int 0, .int m_ended, .int m_overruns, .int m_pictures])), (m_interpreter, .inr (4, [.ref i_tape, .ref i_page, .ref i_sheet, .ref i_fonts, .ref i_macros, .ref i_raster, .ref i_parser, .ref i_copies, .int 0, .ref i_at, .ref i_ends, .ref i_called, .ref i_acts, .ref i_actIds, .ref i_actCount, .ref i_actNext, .int i_ejecting, .int i_then, .int i_thenNumber, .int i_thenStep])), (i_at, .inl (c1, 3, .inl f1)), (i_ends, .inl (c2, 3, .inl f2)), (i_actNext, .inl (c3, 3, .inl f3)), (i_actCount, .inl (c4, 3, .inl f4)), (i_tape, .inl (ctp, 65536, .inl ftp)), (m_file, .inr (7, [.ref fb, .ref ftb, .int fln, .int 0, .int flk]))] s.heap.size = A at hD hF ⊢
  have hA : ∀ q : Nat, s.heap.size ≤ q → A q := fun q h => by rw [← hAe]; exact Or.inr h
  have hS : va_S A s.heap s.heap [] := va_S.rf
  have hP : va_P (dC, dI) vcl [(h0, .inr (0, [.int m_dpi, .ref m_tape, .ref m_page, .ref m_sheet, .ref m_fonts, .ref m_macros, .ref m_raster, .ref m_interpreter, .ref m_picture, .ref m_coder, .ref m_reader, .ref m_file, .ref m_shown, .int 0, .int 0, .int m_ended, .int m_overruns, .int m_pictures])), (m_interpreter, .inr (4, [.ref i_tape, .ref i_page, .ref i_sheet, .ref i_fonts, .ref i_macros, .ref i_raster, .ref i_parser, .ref i_copies, .int 0, .ref i_at, .ref i_ends, .ref i_called, .ref i_acts, .ref i_actIds, .ref i_actCount, .ref i_actNext, .int i_ejecting, .int i_then, .int i_thenNumber, .int i_thenStep])), (i_at, .inl (c1, 3, .inl f1)), (i_ends, .inl (c2, 3, .inl f2)), (i_actNext, .inl (c3, 3, .inl f3)), (i_actCount, .inl (c4, 3, .inl f4)), (i_tape, .inl (ctp, 65536, .inl ftp)), (m_file, .inr (7, [.ref fb, .ref ftb, .int fln, .int 0, .int flk]))] s.heap := hP
  have hl := lv_entry ([.ref h0, .int 0, .int nn]) (n := 4) (Nat.le_of_ble_eq_true rfl)
  rw [lg_entry_eq]
  generalize (lg_sl ([.ref h0, .int 0, .int nn]) ++ List.replicate (4 - (lg_sl ([.ref h0, .int 0, .int nn])).length) Slot.unset).toArray = ls at hl ⊢
  have hl : lv_has ls 4 [(0, .ref h0), (1, .int 0), (2, .int nn)] := hl
  refine lv_iload_n hx hb d_Main_submit_0 rfl (lv_at hl 1 rfl) ?_
  refine lv_if_lt (tgt := 20) hx hb d_Main_submit_1 (by decide) (fun c1 => absurd c1 (by decide)) (fun _ => ?_)
  refine lv_iload_n hx hb d_Main_submit_4 rfl (lv_at hl 1 rfl) ?_
  refine lv_iconst (v := 1) hx hb d_Main_submit_5 (by decide) ?_
  refine lv_icmp_gt (tgt := 20) hx hb d_Main_submit_6 (by decide) (fun c6 => absurd c6 (by decide)) (fun _ => ?_)
  refine lv_iload_n hx hb d_Main_submit_9 rfl (lv_at hl 2 rfl) ?_
  refine lv_iconst (v := 1) hx hb d_Main_submit_10 (by decide) ?_
  refine lv_icmp_lt (tgt := 20) hx hb d_Main_submit_11 (by decide) (fun c11 => absurd c11 (hn1)) (fun c11 => ?_)
  refine lv_iload_n hx hb d_Main_submit_14 rfl (lv_at hl 2 rfl) ?_
  refine lv_bipush (v := 20) hx hb d_Main_submit_15 (by decide) ?_
  refine lv_icmp_le (tgt := 30) hx hb d_Main_submit_17 (by decide) (fun c17 => ?_) (fun c17 => absurd (hn2) c17)
  refine lv_aload_n hx hb d_Main_submit_30 rfl (lv_at hl 0 rfl) ?_
  refine va_get (D := (dC, dI)) (ci := 0) (v := .int 0) (C := R_Main) (T := F_Main) (N := 18) hx hb hwd i_Main hown hK hP 0 rfl rfl 14 (by decide) (hwd _ wd_4_140) (fun _ h9 => h9) rfl d_Main_submit_31 ?_
  refine lv_if_eq (tgt := 47) hx hb d_Main_submit_34 (by decide) (fun _ => ?_) (fun c34 => absurd (by decide) c34)
  refine lv_iconst (v := 0) hx hb d_Main_submit_47 (by decide) ?_
  refine lv_aload_n hx hb d_Main_submit_48 rfl (lv_at hl 0 rfl) ?_
  refine va_get (D := (dC, dI)) (ci := 0) (v := .int 0) (C := R_Main) (T := F_Main) (N := 18) hx hb hwd i_Main hown hK hP 0 rfl rfl 13 (by decide) (hwd _ wd_4_139) (fun _ h9 => h9) rfl d_Main_submit_49 ?_
  refine lv_bipush (v := 20) hx hb d_Main_submit_52 (by decide) ?_
  refine lv_iload_n hx hb d_Main_submit_54 rfl (lv_at hl 2 rfl) ?_
  refine lv_isub hx hb d_Main_submit_55 ?_
  refine lv_isub hx hb d_Main_submit_56 ?_
  refine va_mmax hx hb (hml.trans hl.1.symm) hown (hwd _ wd_6_69) (hwd _ wd_1_179) (hwd _ wd_1_3) (hwd _ wd_1_180) (Nat.le_of_ble_eq_true rfl) (Nat.le_of_ble_eq_true rfl) (Nat.le_of_ble_eq_true rfl) (Nat.le_of_ble_eq_true rfl) d_Main_submit_57 ?_
  refine lv_topi (fun y_1 ey_1 => ?_)
  obtain rfl : y_1 = 0 := ey_1.trans (mx_t hn1 hn2)
  refine lv_istore_n (lv' := [(3, .int 0), (0, .ref h0), (1, .int 0), (2, .int nn)]) hx hb d_Main_submit_60 rfl hl (by decide) rfl ?_
  clear hl
  intro ls hl
  refine lv_iload_n hx hb d_Main_submit_61 rfl (lv_at hl 2 rfl) ?_
  refine lv_if_ne (tgt := 73) hx hb d_Main_submit_62 (by decide) (fun c62 => absurd c62 (by decide)) (fun _ => ?_)
  refine lv_aload_n hx hb d_Main_submit_65 rfl (lv_at hl 1 rfl) ?_
  refine lv_iload_n hx hb d_Main_submit_66 rfl (lv_at hl 0 rfl) ?_
  have hPc := hP.sub (ws' := [(h0, .inr (0, [.int m_dpi, .ref m_tape, .ref m_page, .ref m_sheet, .ref m_fonts, .ref m_macros, .ref m_raster, .ref m_interpreter, .ref m_picture, .ref m_coder, .ref m_reader, .ref m_file, .ref m_shown, .int 0, .int 0, .int m_ended, .int m_overruns, .int m_pictures])), (m_interpreter, .inr (4, [.ref i_tape, .ref i_page, .ref i_sheet, .ref i_fonts, .ref i_macros, .ref i_raster, .ref i_parser, .ref i_copies, .int 0, .ref i_at, .ref i_ends, .ref i_called, .ref i_acts, .ref i_actIds, .ref i_actCount, .ref i_actNext, .int i_ejecting, .int i_then, .int i_thenNumber, .int i_thenStep])), (i_at, .inl (c1, 3, .inl f1)), (i_ends, .inl (c2, 3, .inl f2)), (i_actNext, .inl (c3, 3, .inl f3)), (i_actCount, .inl (c4, 3, .inl f4)), (i_tape, .inl (ctp, 65536, .inl ftp))]) [0, 1, 2, 3, 4, 5, 6] rfl
  have hDc := hD.sub (ws' := [(h0, .inr (0, [.int m_dpi, .ref m_tape, .ref m_page, .ref m_sheet, .ref m_fonts, .ref m_macros, .ref m_raster, .ref m_interpreter, .ref m_picture, .ref m_coder, .ref m_reader, .ref m_file, .ref m_shown, .int 0, .int 0, .int m_ended, .int m_overruns, .int m_pictures])), (m_interpreter, .inr (4, [.ref i_tape, .ref i_page, .ref i_sheet, .ref i_fonts, .ref i_macros, .ref i_raster, .ref i_parser, .ref i_copies, .int 0, .ref i_at, .ref i_ends, .ref i_called, .ref i_acts, .ref i_actIds, .ref i_actCount, .ref i_actNext, .int i_ejecting, .int i_then, .int i_thenNumber, .int i_thenStep])), (i_at, .inl (c1, 3, .inl f1)), (i_ends, .inl (c2, 3, .inl f2)), (i_actNext, .inl (c3, 3, .inl f3)), (i_actCount, .inl (c4, 3, .inl f4)), (i_tape, .inl (ctp, 65536, .inl ftp))]) [0, 1, 2, 3, 4, 5, 6] (by decide) rfl
  have hKc := hK.sub (tys' := [(c1, .int), (c2, .int), (c3, .int), (c4, .int), (ctp, .byte)]) [0, 1, 2, 3, 4] rfl
  have hFc := va_free (wc := [(h0, .inr (0, [.int m_dpi, .ref m_tape, .ref m_page, .ref m_sheet, .ref m_fonts, .ref m_macros, .ref m_raster, .ref m_interpreter, .ref m_picture, .ref m_coder, .ref m_reader, .ref m_file, .ref m_shown, .int 0, .int 0, .int m_ended, .int m_overruns, .int m_pictures])), (m_interpreter, .inr (4, [.ref i_tape, .ref i_page, .ref i_sheet, .ref i_fonts, .ref i_macros, .ref i_raster, .ref i_parser, .ref i_copies, .int 0, .ref i_at, .ref i_ends, .ref i_called, .ref i_acts, .ref i_actIds, .ref i_actCount, .ref i_actNext, .int i_ejecting, .int i_then, .int i_thenNumber, .int i_thenStep])), (i_at, .inl (c1, 3, .inl f1)), (i_ends, .inl (c2, 3, .inl f2)), (i_actNext, .inl (c3, 3, .inl f3)), (i_actCount, .inl (c4, 3, .inl f4)), (i_tape, .inl (ctp, 65536, .inl ftp))]) hD hS hA [0, 1, 2, 3, 4, 5, 6] rfl
  refine va_callv (va_runV (As := [.int 0]) (rest := []) ⟨hx, hb, hml, hown, hwd⟩ (c_printStream_0 l dC dI tt h0 m_dpi m_tape m_page m_sheet m_fonts m_macros m_raster m_interpreter m_picture m_coder m_reader m_file m_shown 0 m_ended m_overruns m_pictures i_tape i_page i_sheet i_fonts i_macros i_raster i_parser i_copies i_at i_ends i_called i_acts i_actIds i_actCount i_actNext i_ejecting i_then i_thenNumber i_thenStep c1 f1 c2 f2 c3 f3 c4 f4 ctp ftp s.heap.size (q3) (q4)) (cwV 1 hwd (gV gd_Main_printStream wd_6_70 wd_6_72 ws_49 wd_1_1) rfl rfl rfl (by decide +kernel) ⟨Nat.le_of_ble_eq_true rfl, Nat.le_of_ble_eq_true rfl⟩) ⟨fun a U g mk q => by obtain ⟨q0, q1, qP, qK, qD, qF⟩ := q; exact ⟨q0, q1, qP, va_K.moved (u := U) (U := U.calling g mk a) (Vm.Alike.refl U.vm) qK, qD, SF.same (u := U) (U := U.calling g mk a) rfl qF⟩, va_recv hKc hPc (ci := 0) (q0 := 0) rfl rfl, fun U hU hW => ⟨rfl, by rw [hU], by rw [hU]; exact hPc, va_K.moved hW.alike hKc, hDc.weaken (fun _ _ _ _ => trivial), by rw [hU]; exact SF.narrow (SF.moved hW (SF.kept hF (fun a h1 h2 => hS.2.1 a h1 h2))) hFc⟩⟩ rfl rfl hl.1 rfl (lv_room (Nat.le_of_ble_eq_true rfl)) d_Main_submit_67 ⟨Nat.le_of_ble_eq_true rfl, Nat.le_of_ble_eq_true rfl⟩) hS (fun q _ h => hFc q h) hFc ?_
  clear hPc hDc hKc hS
  intro u_3 t H1 locs ht hvm hw hB hz1 hk1 hS
  obtain ⟨hP1, hK1, hD1⟩ := hB
  rw [ht] at hP1
  have hK1 := va_K.moved hvm.symm hK1
  try dsimp only at hw
  have hJ := va_join (wr := [(m_file, .inr (7, [.ref fb, .ref ftb, .int fln, .int 0, .int flk]))]) (w1 := [(h0, .inr (0, [.int m_dpi, .ref m_tape, .ref m_page, .ref m_sheet, .ref m_fonts, .ref m_macros, .ref m_raster, .ref m_interpreter, .ref m_picture, .ref m_coder, .ref m_reader, .ref m_file, .ref m_shown, .int 0, .int 0, .int m_ended, .int m_overruns, .int m_pictures])), (i_tape, .inl (ctp, 65536, .inl ftp)), (m_interpreter, .inr (4, [.ref i_tape, .ref i_page, .ref i_sheet, .ref i_fonts, .ref i_macros, .ref i_raster, .ref i_parser, .ref i_copies, .int 0, .ref i_at, .ref i_ends, .ref i_called, .ref i_acts, .ref i_actIds, .ref i_actCount, .ref i_actNext, .int i_ejecting, .int i_then, .int i_thenNumber, .int i_thenStep])), (i_at, .inl (c1, 3, .inl (upd f1 0 0))), (i_ends, .inl (c2, 3, .inl (upd f2 0 0))), (i_actNext, .inl (c3, 3, .inl f3)), (i_actCount, .inl (c4, 3, .inl f4))]) hP hD [0, 1, 2, 3, 4, 5, 6] [7] rfl rfl (by decide) (by decide) hk1 hFc hP1 hD1
  clear hP hD hk1 hFc hP1 hD1 hz1
  obtain ⟨hP, hD⟩ := hJ
  clear hK1 ht hvm
  generalize H1 = H at hP hS ⊢
  replace hP : va_P (dC, dI) vcl [(m_file, .inr (7, [.ref fb, .ref ftb, .int fln, .int 0, .int flk])), (h0, .inr (0, [.int m_dpi, .ref m_tape, .ref m_page, .ref m_sheet, .ref m_fonts, .ref m_macros, .ref m_raster, .ref m_interpreter, .ref m_picture, .ref m_coder, .ref m_reader, .ref m_file, .ref m_shown, .int 0, .int 0, .int m_ended, .int m_overruns, .int m_pictures])), (i_tape, .inl (ctp, 65536, .inl ftp)), (m_interpreter, .inr (4, [.ref i_tape, .ref i_page, .ref i_sheet, .ref i_fonts, .ref i_macros, .ref i_raster, .ref i_parser, .ref i_copies, .int 0, .ref i_at, .ref i_ends, .ref i_called, .ref i_acts, .ref i_actIds, .ref i_actCount, .ref i_actNext, .int i_ejecting, .int i_then, .int i_thenNumber, .int i_thenStep])), (i_at, .inl (c1, 3, .inl (upd f1 0 0))), (i_ends, .inl (c2, 3, .inl (upd f2 0 0))), (i_actNext, .inl (c3, 3, .inl f3)), (i_actCount, .inl (c4, 3, .inl f4))] H := hP
  replace hD : va_D A [(m_file, .inr (7, [.ref fb, .ref ftb, .int fln, .int 0, .int flk])), (h0, .inr (0, [.int m_dpi, .ref m_tape, .ref m_page, .ref m_sheet, .ref m_fonts, .ref m_macros, .ref m_raster, .ref m_interpreter, .ref m_picture, .ref m_coder, .ref m_reader, .ref m_file, .ref m_shown, .int 0, .int 0, .int m_ended, .int m_overruns, .int m_pictures])), (i_tape, .inl (ctp, 65536, .inl ftp)), (m_interpreter, .inr (4, [.ref i_tape, .ref i_page, .ref i_sheet, .ref i_fonts, .ref i_macros, .ref i_raster, .ref i_parser, .ref i_copies, .int 0, .ref i_at, .ref i_ends, .ref i_called, .ref i_acts, .ref i_actIds, .ref i_actCount, .ref i_actNext, .int i_ejecting, .int i_then, .int i_thenNumber, .int i_thenStep])), (i_at, .inl (c1, 3, .inl (upd f1 0 0))), (i_ends, .inl (c2, 3, .inl (upd f2 0 0))), (i_actNext, .inl (c3, 3, .inl f3)), (i_actCount, .inl (c4, 3, .inl f4))] := hD
  refine lv_goto (tgt := 82) hx hb d_Main_submit_70 (by decide) ?_
  refine lv_aload_n hx hb d_Main_submit_82 rfl (lv_at hl 1 rfl) ?_
  refine lv_iconst (v := 0) hx hb d_Main_submit_83 (by decide) ?_
  refine va_put (D := (dC, dI)) (ci := 0) (v := .int 0) (ty := .int) (C := R_Main) (T := F_Main) (N := 18) hx hb hwd i_Main t_Main to_Main no_Main hown hK hP hD hS 1 rfl rfl 13 (by decide) (hwd _ wd_4_139) (fun _ h9 => h9) rfl (by decide +kernel) rfl rfl (Nat.le_of_ble_eq_true rfl) d_Main_submit_84 ?_
  clear hP hD hS
  intro H locs hP hD hS
  replace hP : va_P (dC, dI) vcl [(m_file, .inr (7, [.ref fb, .ref ftb, .int fln, .int 0, .int flk])), (h0, .inr (0, [.int m_dpi, .ref m_tape, .ref m_page, .ref m_sheet, .ref m_fonts, .ref m_macros, .ref m_raster, .ref m_interpreter, .ref m_picture, .ref m_coder, .ref m_reader, .ref m_file, .ref m_shown, .int 0, .int 0, .int m_ended, .int m_overruns, .int m_pictures])), (i_tape, .inl (ctp, 65536, .inl ftp)), (m_interpreter, .inr (4, [.ref i_tape, .ref i_page, .ref i_sheet, .ref i_fonts, .ref i_macros, .ref i_raster, .ref i_parser, .ref i_copies, .int 0, .ref i_at, .ref i_ends, .ref i_called, .ref i_acts, .ref i_actIds, .ref i_actCount, .ref i_actNext, .int i_ejecting, .int i_then, .int i_thenNumber, .int i_thenStep])), (i_at, .inl (c1, 3, .inl (upd f1 0 0))), (i_ends, .inl (c2, 3, .inl (upd f2 0 0))), (i_actNext, .inl (c3, 3, .inl f3)), (i_actCount, .inl (c4, 3, .inl f4))] H := hP
  replace hD : va_D A [(m_file, .inr (7, [.ref fb, .ref ftb, .int fln, .int 0, .int flk])), (h0, .inr (0, [.int m_dpi, .ref m_tape, .ref m_page, .ref m_sheet, .ref m_fonts, .ref m_macros, .ref m_raster, .ref m_interpreter, .ref m_picture, .ref m_coder, .ref m_reader, .ref m_file, .ref m_shown, .int 0, .int 0, .int m_ended, .int m_overruns, .int m_pictures])), (i_tape, .inl (ctp, 65536, .inl ftp)), (m_interpreter, .inr (4, [.ref i_tape, .ref i_page, .ref i_sheet, .ref i_fonts, .ref i_macros, .ref i_raster, .ref i_parser, .ref i_copies, .int 0, .ref i_at, .ref i_ends, .ref i_called, .ref i_acts, .ref i_actIds, .ref i_actCount, .ref i_actNext, .int i_ejecting, .int i_then, .int i_thenNumber, .int i_thenStep])), (i_at, .inl (c1, 3, .inl (upd f1 0 0))), (i_ends, .inl (c2, 3, .inl (upd f2 0 0))), (i_actNext, .inl (c3, 3, .inl f3)), (i_actCount, .inl (c4, 3, .inl f4))] := hD
  refine lv_aload_n hx hb d_Main_submit_87 rfl (lv_at hl 1 rfl) ?_
  refine va_get (D := (dC, dI)) (ci := 0) (v := .ref m_file) (C := R_Main) (T := F_Main) (N := 18) hx hb hwd i_Main hown hK hP 1 rfl rfl 11 (by decide) (hwd _ wd_4_137) (fun _ h9 => h9) rfl d_Main_submit_88 ?_
  refine va_get (D := (dC, dI)) (ci := 7) (v := .int 0) (C := R_OutFile) (T := F_OutFile) (N := 5) hx hb hwd i_OutFile hown hK hP 0 rfl rfl 3 (by decide) (hwd _ wd_3_222) (fun _ h9 => h9) rfl d_Main_submit_91 ?_
  have hP9 := hP.sub (ws' := []) [] rfl
  have hD9 := hD.sub (ws' := []) [] (by decide) rfl
  have hK9 := hK.sub (tys' := []) [] rfl
  exact W.iret (v := 0) hx hb hr (fun t ht hW => ⟨⟨0, (), rfl, (show (0 : Int32) = 0 from (by first | exact trivial | rfl | simp [*])), by rw [ht]; exact hP9, va_K.moved hW.alike hK9, hD9⟩, hS.F ht⟩) hS.2.2 d_Main_submit_94

abbrev at_c_submit_p (dC : Nat → ClassId) (dI : Nat → Nat → Nat) (h0 : Nat) (m_dpi : Int32) (m_tape : Nat) (m_page : Nat) (m_sheet : Nat) (m_fonts : Nat) (m_macros : Nat) (m_raster : Nat) (m_interpreter : Nat) (m_picture : Nat) (m_coder : Nat) (m_reader : Nat) (m_file : Nat) (m_shown : Nat) (m_ended : Int32) (m_overruns : Int32) (m_pictures : Int32) (x_bytes : Nat) (x_length : Int32) (x_highFirst : Int32) (x_next : Int64) (x_stripsBefore : Int64) (x_types : Nat) (x_counts : Nat) (x_places : Nat) (cb : ClassId) (gb : Nat → Int32) (fb : Nat) (ftb : Nat) (fln : Int32) (flk : Int32) (nn : Int32) (A : Nat → Prop) (u : Unit) (t : State) : Prop := match u with
  | _ => va_P (dC, dI) vcl [] t.heap ∧ va_K (dC, dI) vcl [] t ∧ va_D A []
abbrev po_c_submit_p (h0 : Nat) (m_dpi : Int32) (m_tape : Nat) (m_page : Nat) (m_sheet : Nat) (m_fonts : Nat) (m_macros : Nat) (m_raster : Nat) (m_interpreter : Nat) (m_picture : Nat) (m_coder : Nat) (m_reader : Nat) (m_file : Nat) (m_shown : Nat) (m_ended : Int32) (m_overruns : Int32) (m_pictures : Int32) (x_bytes : Nat) (x_length : Int32) (x_highFirst : Int32) (x_next : Int64) (x_stripsBefore : Int64) (x_types : Nat) (x_counts : Nat) (x_places : Nat) (cb : ClassId) (gb : Nat → Int32) (fb : Nat) (ftb : Nat) (fln : Int32) (flk : Int32) (nn : Int32) (r : Int32) (u : Unit) : Prop := match u with
  | _ => r = 0
abbrev q_c_submit_p (dC : Nat → ClassId) (dI : Nat → Nat → Nat) (h0 : Nat) (m_dpi : Int32) (m_tape : Nat) (m_page : Nat) (m_sheet : Nat) (m_fonts : Nat) (m_macros : Nat) (m_raster : Nat) (m_interpreter : Nat) (m_picture : Nat) (m_coder : Nat) (m_reader : Nat) (m_file : Nat) (m_shown : Nat) (m_ended : Int32) (m_overruns : Int32) (m_pictures : Int32) (x_bytes : Nat) (x_length : Int32) (x_highFirst : Int32) (x_next : Int64) (x_stripsBefore : Int64) (x_types : Nat) (x_counts : Nat) (x_places : Nat) (cb : ClassId) (gb : Nat → Int32) (fb : Nat) (ftb : Nat) (fln : Int32) (flk : Int32) (nn : Int32) (A : Nat → Prop) : Array Value → State → Outcome → State → Prop := va_Qi (po_c_submit_p h0 m_dpi m_tape m_page m_sheet m_fonts m_macros m_raster m_interpreter m_picture m_coder m_reader m_file m_shown m_ended m_overruns m_pictures x_bytes x_length x_highFirst x_next x_stripsBefore x_types x_counts x_places cb gb fb ftb fln flk nn) (at_c_submit_p dC dI h0 m_dpi m_tape m_page m_sheet m_fonts m_macros m_raster m_interpreter m_picture m_coder m_reader m_file m_shown m_ended m_overruns m_pictures x_bytes x_length x_highFirst x_next x_stripsBefore x_types x_counts x_places cb gb fb ftb fln flk nn A) A
abbrev rm_c_submit_p : Room := { frames := 3, cells := 0, slots := 0, locals := 62 }
set_option maxHeartbeats 4000000 in
set_option maxRecDepth 100000 in
theorem c_submit_p (l : Launch) (dC : Nat → ClassId) (dI : Nat → Nat → Nat) (tt : Nat → Nat) (h0 : Nat) (m_dpi : Int32) (m_tape : Nat) (m_page : Nat) (m_sheet : Nat) (m_fonts : Nat) (m_macros : Nat) (m_raster : Nat) (m_interpreter : Nat) (m_picture : Nat) (m_coder : Nat) (m_reader : Nat) (m_file : Nat) (m_shown : Nat) (m_ended : Int32) (m_overruns : Int32) (m_pictures : Int32) (x_bytes : Nat) (x_length : Int32) (x_highFirst : Int32) (x_next : Int64) (x_stripsBefore : Int64) (x_types : Nat) (x_counts : Nat) (x_places : Nat) (cb : ClassId) (gb : Nat → Int32) (fb : Nat) (ftb : Nat) (fln : Int32) (flk : Int32) (nn : Int32) (sz : Nat) (hn1 : ¬ nn < 1) (hn2 : nn ≤ 20) : Met l y_Main_submit w_Main_submit rm_c_submit_p (va_Pc [.ref h0, .int 1, .int nn] (fun U => U.heap.size = sz ∧ va_P (dC, dI) vcl [(h0, .inr (0, [.int m_dpi, .ref m_tape, .ref m_page, .ref m_sheet, .ref m_fonts, .ref m_macros, .ref m_raster, .ref m_interpreter, .ref m_picture, .ref m_coder, .ref m_reader, .ref m_file, .ref m_shown, .int 0, .int 0, .int m_ended, .int m_overruns, .int m_pictures])), (m_picture, .inr (10, [.ref x_bytes, .int x_length, .int x_highFirst, .long x_next, .long x_stripsBefore, .ref x_types, .ref x_counts, .ref x_places])), (x_bytes, .inl (cb, 65536, .inl gb)), (m_file, .inr (7, [.ref fb, .ref ftb, .int fln, .int 0, .int flk]))] U.heap ∧ va_K (dC, dI) vcl [(cb, .byte)] U ∧ va_D (fun _ => True) [(h0, .inr (0, [.int m_dpi, .ref m_tape, .ref m_page, .ref m_sheet, .ref m_fonts, .ref m_macros, .ref m_raster, .ref m_interpreter, .ref m_picture, .ref m_coder, .ref m_reader, .ref m_file, .ref m_shown, .int 0, .int 0, .int m_ended, .int m_overruns, .int m_pictures])), (m_picture, .inr (10, [.ref x_bytes, .int x_length, .int x_highFirst, .long x_next, .long x_stripsBefore, .ref x_types, .ref x_counts, .ref x_places])), (x_bytes, .inl (cb, 65536, .inl gb)), (m_file, .inr (7, [.ref fb, .ref ftb, .int fln, .int 0, .int flk]))] ∧ SF tt (va_A [(h0, .inr (0, [.int m_dpi, .ref m_tape, .ref m_page, .ref m_sheet, .ref m_fonts, .ref m_macros, .ref m_raster, .ref m_interpreter, .ref m_picture, .ref m_coder, .ref m_reader, .ref m_file, .ref m_shown, .int 0, .int 0, .int m_ended, .int m_overruns, .int m_pictures])), (m_picture, .inr (10, [.ref x_bytes, .int x_length, .int x_highFirst, .long x_next, .long x_stripsBefore, .ref x_types, .ref x_counts, .ref x_places])), (x_bytes, .inl (cb, 65536, .inl gb)), (m_file, .inr (7, [.ref fb, .ref ftb, .int fln, .int 0, .int flk]))] sz) U U.heap)) (q_c_submit_p dC dI h0 m_dpi m_tape m_page m_sheet m_fonts m_macros m_raster m_interpreter m_picture m_coder m_reader m_file m_shown m_ended m_overruns m_pictures x_bytes x_length x_highFirst x_next x_stripsBefore x_types x_counts x_places cb gb fb ftb fln flk nn (va_A [(h0, .inr (0, [.int m_dpi, .ref m_tape, .ref m_page, .ref m_sheet, .ref m_fonts, .ref m_macros, .ref m_raster, .ref m_interpreter, .ref m_picture, .ref m_coder, .ref m_reader, .ref m_file, .ref m_shown, .int 0, .int 0, .int m_ended, .int m_overruns, .int m_pictures])), (m_picture, .inr (10, [.ref x_bytes, .int x_length, .int x_highFirst, .long x_next, .long x_stripsBefore, .ref x_types, .ref x_counts, .ref x_places])), (x_bytes, .inl (cb, 65536, .inl gb)), (m_file, .inr (7, [.ref fb, .ref ftb, .int fln, .int 0, .int flk]))] sz)) 0 0 (va_A [(h0, .inr (0, [.int m_dpi, .ref m_tape, .ref m_page, .ref m_sheet, .ref m_fonts, .ref m_macros, .ref m_raster, .ref m_interpreter, .ref m_picture, .ref m_coder, .ref m_reader, .ref m_file, .ref m_shown, .int 0, .int 0, .int m_ended, .int m_overruns, .int m_pictures])), (m_picture, .inr (10, [.ref x_bytes, .int x_length, .int x_highFirst, .long x_next, .long x_stripsBefore, .ref x_types, .ref x_counts, .ref x_places])), (x_bytes, .inl (cb, 65536, .inl gb)), (m_file, .inr (7, [.ref fb, .ref ftb, .int fln, .int 0, .int flk]))] sz) := by
  refine Met.ofW (cc := b_Main_submit) (maxL := 4) (ret := (some .int)) (by decide) rfl ?_
  intro p e s m args below meth c s₁ B hml hv
  obtain ⟨rfl, hsz, hP, hK, hD0, hF⟩ := hv
  have hx := B.exec
  have hb := B.bytes
  have hr := B.returns
  have hwd : ∀ w ∈ gT, w.before _ s = true := fun w h => atoms_spec (ws := w_Main_submit) B.pre w (List.mem_cons_of_mem _ h)
  have hown : s.vm.findClass R_Main = some m.cls := findClass_of_methodNamed B.named
  have hlocks := B.notSynchronized
  subst hsz
  have hD := hD0.self (sz := s.heap.size)
  generalize hAe : va_A [(h0, .inr (0, [.int m_dpi, .ref m_tape, .ref m_page, .ref m_sheet, .ref m_fonts, .ref m_macros, .ref m_raster, .ref m_interpreter, .ref m_picture, .ref m_coder, .ref m_reader, .ref m_file, .ref m_shown, .int 0, .int 0, .int m_ended, .int m_overruns, .int m_pictures])), (m_picture, .inr (10, [.ref x_bytes, .int x_length, .int x_highFirst, .long x_next, .long x_stripsBefore, .ref x_types, .ref x_counts, .ref x_places])), (x_bytes, .inl (cb, 65536, .inl gb)), (m_file, .inr (7, [.ref fb, .ref ftb, .int fln, .int 0, .int flk]))] s.heap.size = A at hD hF ⊢
  have hA : ∀ q : Nat, s.heap.size ≤ q → A q := fun q h => by rw [← hAe]; exact Or.inr h
  have hS : va_S A s.heap s.heap [] := va_S.rf
  have hP : va_P (dC, dI) vcl [(h0, .inr (0, [.int m_dpi, .ref m_tape, .ref m_page, .ref m_sheet, .ref m_fonts, .ref m_macros, .ref m_raster, .ref m_interpreter, .ref m_picture, .ref m_coder, .ref m_reader, .ref m_file, .ref m_shown, .int 0, .int 0, .int m_ended, .int m_overruns, .int m_pictures])), (m_picture, .inr (10, [.ref x_bytes, .int x_length, .int x_highFirst, .long x_next, .long x_stripsBefore, .ref x_types, .ref x_counts, .ref x_places])), (x_bytes, .inl (cb, 65536, .inl gb)), (m_file, .inr (7, [.ref fb, .ref ftb, .int fln, .int 0, .int flk]))] s.heap := hP
  have hl := lv_entry ([.ref h0, .int 1, .int nn]) (n := 4) (Nat.le_of_ble_eq_true rfl)
  rw [lg_entry_eq]
  generalize (lg_sl ([.ref h0, .int 1, .int nn]) ++ List.replicate (4 - (lg_sl ([.ref h0, .int 1, .int nn])).length) Slot.unset).toArray = ls at hl ⊢
  have hl : lv_has ls 4 [(0, .ref h0), (1, .int 1), (2, .int nn)] := hl
  refine lv_iload_n hx hb d_Main_submit_0 rfl (lv_at hl 1 rfl) ?_
  refine lv_if_lt (tgt := 20) hx hb d_Main_submit_1 (by decide) (fun c1 => absurd c1 (by decide)) (fun _ => ?_)
  refine lv_iload_n hx hb d_Main_submit_4 rfl (lv_at hl 1 rfl) ?_
  refine lv_iconst (v := 1) hx hb d_Main_submit_5 (by decide) ?_
  refine lv_icmp_gt (tgt := 20) hx hb d_Main_submit_6 (by decide) (fun c6 => absurd c6 (by decide)) (fun _ => ?_)
  refine lv_iload_n hx hb d_Main_submit_9 rfl (lv_at hl 2 rfl) ?_
  refine lv_iconst (v := 1) hx hb d_Main_submit_10 (by decide) ?_
  refine lv_icmp_lt (tgt := 20) hx hb d_Main_submit_11 (by decide) (fun c11 => absurd c11 (hn1)) (fun c11 => ?_)
  refine lv_iload_n hx hb d_Main_submit_14 rfl (lv_at hl 2 rfl) ?_
  refine lv_bipush (v := 20) hx hb d_Main_submit_15 (by decide) ?_
  refine lv_icmp_le (tgt := 30) hx hb d_Main_submit_17 (by decide) (fun c17 => ?_) (fun c17 => absurd (hn2) c17)
  refine lv_aload_n hx hb d_Main_submit_30 rfl (lv_at hl 0 rfl) ?_
  refine va_get (D := (dC, dI)) (ci := 0) (v := .int 0) (C := R_Main) (T := F_Main) (N := 18) hx hb hwd i_Main hown hK hP 0 rfl rfl 14 (by decide) (hwd _ wd_4_140) (fun _ h9 => h9) rfl d_Main_submit_31 ?_
  refine lv_if_eq (tgt := 47) hx hb d_Main_submit_34 (by decide) (fun _ => ?_) (fun c34 => absurd (by decide) c34)
  refine lv_iconst (v := 0) hx hb d_Main_submit_47 (by decide) ?_
  refine lv_aload_n hx hb d_Main_submit_48 rfl (lv_at hl 0 rfl) ?_
  refine va_get (D := (dC, dI)) (ci := 0) (v := .int 0) (C := R_Main) (T := F_Main) (N := 18) hx hb hwd i_Main hown hK hP 0 rfl rfl 13 (by decide) (hwd _ wd_4_139) (fun _ h9 => h9) rfl d_Main_submit_49 ?_
  refine lv_bipush (v := 20) hx hb d_Main_submit_52 (by decide) ?_
  refine lv_iload_n hx hb d_Main_submit_54 rfl (lv_at hl 2 rfl) ?_
  refine lv_isub hx hb d_Main_submit_55 ?_
  refine lv_isub hx hb d_Main_submit_56 ?_
  refine va_mmax hx hb (hml.trans hl.1.symm) hown (hwd _ wd_6_69) (hwd _ wd_1_179) (hwd _ wd_1_3) (hwd _ wd_1_180) (Nat.le_of_ble_eq_true rfl) (Nat.le_of_ble_eq_true rfl) (Nat.le_of_ble_eq_true rfl) (Nat.le_of_ble_eq_true rfl) d_Main_submit_57 ?_
  refine lv_topi (fun y_1 ey_1 => ?_)
  obtain rfl : y_1 = 0 := ey_1.trans (mx_t hn1 hn2)
  refine lv_istore_n (lv' := [(3, .int 0), (0, .ref h0), (1, .int 1), (2, .int nn)]) hx hb d_Main_submit_60 rfl hl (by decide) rfl ?_
  clear hl
  intro ls hl
  refine lv_iload_n hx hb d_Main_submit_61 rfl (lv_at hl 2 rfl) ?_
  refine lv_if_ne (tgt := 73) hx hb d_Main_submit_62 (by decide) (fun _ => ?_) (fun c62 => absurd c62 (by decide))
  refine lv_aload_n hx hb d_Main_submit_73 rfl (lv_at hl 1 rfl) ?_
  refine lv_aload_n hx hb d_Main_submit_74 rfl (lv_at hl 1 rfl) ?_
  refine lv_iload_n hx hb d_Main_submit_75 rfl (lv_at hl 0 rfl) ?_
  have hPc := hP.sub (ws' := [(h0, .inr (0, [.int m_dpi, .ref m_tape, .ref m_page, .ref m_sheet, .ref m_fonts, .ref m_macros, .ref m_raster, .ref m_interpreter, .ref m_picture, .ref m_coder, .ref m_reader, .ref m_file, .ref m_shown, .int 0, .int 0, .int m_ended, .int m_overruns, .int m_pictures])), (m_picture, .inr (10, [.ref x_bytes, .int x_length, .int x_highFirst, .long x_next, .long x_stripsBefore, .ref x_types, .ref x_counts, .ref x_places])), (x_bytes, .inl (cb, 65536, .inl gb))]) [0, 1, 2] rfl
  have hDc := hD.sub (ws' := [(h0, .inr (0, [.int m_dpi, .ref m_tape, .ref m_page, .ref m_sheet, .ref m_fonts, .ref m_macros, .ref m_raster, .ref m_interpreter, .ref m_picture, .ref m_coder, .ref m_reader, .ref m_file, .ref m_shown, .int 0, .int 0, .int m_ended, .int m_overruns, .int m_pictures])), (m_picture, .inr (10, [.ref x_bytes, .int x_length, .int x_highFirst, .long x_next, .long x_stripsBefore, .ref x_types, .ref x_counts, .ref x_places])), (x_bytes, .inl (cb, 65536, .inl gb))]) [0, 1, 2] (by decide) rfl
  have hKc := hK.sub (tys' := [(cb, .byte)]) [0] rfl
  have hFc := va_free (wc := [(h0, .inr (0, [.int m_dpi, .ref m_tape, .ref m_page, .ref m_sheet, .ref m_fonts, .ref m_macros, .ref m_raster, .ref m_interpreter, .ref m_picture, .ref m_coder, .ref m_reader, .ref m_file, .ref m_shown, .int 0, .int 0, .int m_ended, .int m_overruns, .int m_pictures])), (m_picture, .inr (10, [.ref x_bytes, .int x_length, .int x_highFirst, .long x_next, .long x_stripsBefore, .ref x_types, .ref x_counts, .ref x_places])), (x_bytes, .inl (cb, 65536, .inl gb))]) hD hS hA [0, 1, 2] rfl
  refine va_calli (va_runV (As := [.int 0]) (rest := [.ref h0]) ⟨hx, hb, hml, hown, hwd⟩ (c_printPictures_0 l dC dI tt h0 m_dpi m_tape m_page m_sheet m_fonts m_macros m_raster m_interpreter m_picture m_coder m_reader m_file m_shown 0 0 m_ended m_overruns m_pictures x_bytes x_length x_highFirst x_next x_stripsBefore x_types x_counts x_places cb gb s.heap.size ) (cwV 1 hwd (gV gd_Main_printPictures wd_8_114 wd_8_116 ws_101 wd_1_1) rfl rfl rfl (by decide +kernel) ⟨Nat.le_of_ble_eq_true rfl, Nat.le_of_ble_eq_true rfl⟩) ⟨fun a U g mk q => by obtain ⟨q0, q1, qP, qK, qD, qF⟩ := q; exact ⟨q0, q1, qP, va_K.moved (u := U) (U := U.calling g mk a) (Vm.Alike.refl U.vm) qK, qD, SF.same (u := U) (U := U.calling g mk a) rfl qF⟩, va_recv hKc hPc (ci := 0) (q0 := 0) rfl rfl, fun U hU hW => ⟨rfl, by rw [hU], by rw [hU]; exact hPc, va_K.moved hW.alike hKc, hDc.weaken (fun _ _ _ _ => trivial), by rw [hU]; exact SF.narrow (SF.moved hW (SF.kept hF (fun a h1 h2 => hS.2.1 a h1 h2))) hFc⟩⟩ rfl rfl hl.1 rfl (lv_room (Nat.le_of_ble_eq_true rfl)) d_Main_submit_76 ⟨Nat.le_of_ble_eq_true rfl, Nat.le_of_ble_eq_true rfl⟩) hS (fun q _ h => hFc q h) hFc ?_
  clear hPc hDc hKc hS
  intro r_2 u_3 t H1 locs ht hvm hw hB hz1 hk1 hS
  obtain ⟨hP1, hK1, hD1⟩ := hB
  rw [ht] at hP1
  have hK1 := va_K.moved hvm.symm hK1
  try dsimp only at hw
  have hJ := va_join (wr := [(m_file, .inr (7, [.ref fb, .ref ftb, .int fln, .int 0, .int flk]))]) (w1 := [(h0, .inr (0, [.int m_dpi, .ref m_tape, .ref m_page, .ref m_sheet, .ref m_fonts, .ref m_macros, .ref m_raster, .ref m_interpreter, .ref m_picture, .ref m_coder, .ref m_reader, .ref m_file, .ref m_shown, .int 0, .int 0, .int m_ended, .int m_overruns, .int m_pictures])), (m_picture, .inr (10, [.ref x_bytes, .int 0, .int x_highFirst, .long x_next, .long x_stripsBefore, .ref x_types, .ref x_counts, .ref x_places])), (x_bytes, .inl (cb, 65536, .inl gb))]) hP hD [0, 1, 2] [3] rfl rfl (by decide) (by decide) hk1 hFc hP1 hD1
  clear hP hD hk1 hFc hP1 hD1 hz1
  obtain ⟨hP, hD⟩ := hJ
  clear hK1 ht hvm
  generalize H1 = H at hP hS ⊢
  replace hP : va_P (dC, dI) vcl [(m_file, .inr (7, [.ref fb, .ref ftb, .int fln, .int 0, .int flk])), (h0, .inr (0, [.int m_dpi, .ref m_tape, .ref m_page, .ref m_sheet, .ref m_fonts, .ref m_macros, .ref m_raster, .ref m_interpreter, .ref m_picture, .ref m_coder, .ref m_reader, .ref m_file, .ref m_shown, .int 0, .int 0, .int m_ended, .int m_overruns, .int m_pictures])), (m_picture, .inr (10, [.ref x_bytes, .int 0, .int x_highFirst, .long x_next, .long x_stripsBefore, .ref x_types, .ref x_counts, .ref x_places])), (x_bytes, .inl (cb, 65536, .inl gb))] H := hP
  replace hD : va_D A [(m_file, .inr (7, [.ref fb, .ref ftb, .int fln, .int 0, .int flk])), (h0, .inr (0, [.int m_dpi, .ref m_tape, .ref m_page, .ref m_sheet, .ref m_fonts, .ref m_macros, .ref m_raster, .ref m_interpreter, .ref m_picture, .ref m_coder, .ref m_reader, .ref m_file, .ref m_shown, .int 0, .int 0, .int m_ended, .int m_overruns, .int m_pictures])), (m_picture, .inr (10, [.ref x_bytes, .int 0, .int x_highFirst, .long x_next, .long x_stripsBefore, .ref x_types, .ref x_counts, .ref x_places])), (x_bytes, .inl (cb, 65536, .inl gb))] := hD
  obtain rfl := hw
  refine va_put (D := (dC, dI)) (ci := 0) (v := .int 1) (ty := .int) (C := R_Main) (T := F_Main) (N := 18) hx hb hwd i_Main t_Main to_Main no_Main hown hK hP hD hS 1 rfl rfl 14 (by decide) (hwd _ wd_4_140) (fun _ h9 => h9) rfl (by decide +kernel) rfl rfl (Nat.le_of_ble_eq_true rfl) d_Main_submit_79 ?_
  clear hP hD hS
  intro H locs hP hD hS
  replace hP : va_P (dC, dI) vcl [(m_file, .inr (7, [.ref fb, .ref ftb, .int fln, .int 0, .int flk])), (h0, .inr (0, [.int m_dpi, .ref m_tape, .ref m_page, .ref m_sheet, .ref m_fonts, .ref m_macros, .ref m_raster, .ref m_interpreter, .ref m_picture, .ref m_coder, .ref m_reader, .ref m_file, .ref m_shown, .int 0, .int 1, .int m_ended, .int m_overruns, .int m_pictures])), (m_picture, .inr (10, [.ref x_bytes, .int 0, .int x_highFirst, .long x_next, .long x_stripsBefore, .ref x_types, .ref x_counts, .ref x_places])), (x_bytes, .inl (cb, 65536, .inl gb))] H := hP
  replace hD : va_D A [(m_file, .inr (7, [.ref fb, .ref ftb, .int fln, .int 0, .int flk])), (h0, .inr (0, [.int m_dpi, .ref m_tape, .ref m_page, .ref m_sheet, .ref m_fonts, .ref m_macros, .ref m_raster, .ref m_interpreter, .ref m_picture, .ref m_coder, .ref m_reader, .ref m_file, .ref m_shown, .int 0, .int 1, .int m_ended, .int m_overruns, .int m_pictures])), (m_picture, .inr (10, [.ref x_bytes, .int 0, .int x_highFirst, .long x_next, .long x_stripsBefore, .ref x_types, .ref x_counts, .ref x_places])), (x_bytes, .inl (cb, 65536, .inl gb))] := hD
  refine lv_aload_n hx hb d_Main_submit_82 rfl (lv_at hl 1 rfl) ?_
  refine lv_iconst (v := 0) hx hb d_Main_submit_83 (by decide) ?_
  refine va_put (D := (dC, dI)) (ci := 0) (v := .int 0) (ty := .int) (C := R_Main) (T := F_Main) (N := 18) hx hb hwd i_Main t_Main to_Main no_Main hown hK hP hD hS 1 rfl rfl 13 (by decide) (hwd _ wd_4_139) (fun _ h9 => h9) rfl (by decide +kernel) rfl rfl (Nat.le_of_ble_eq_true rfl) d_Main_submit_84 ?_
  clear hP hD hS
  intro H locs hP hD hS
  replace hP : va_P (dC, dI) vcl [(m_file, .inr (7, [.ref fb, .ref ftb, .int fln, .int 0, .int flk])), (h0, .inr (0, [.int m_dpi, .ref m_tape, .ref m_page, .ref m_sheet, .ref m_fonts, .ref m_macros, .ref m_raster, .ref m_interpreter, .ref m_picture, .ref m_coder, .ref m_reader, .ref m_file, .ref m_shown, .int 0, .int 1, .int m_ended, .int m_overruns, .int m_pictures])), (m_picture, .inr (10, [.ref x_bytes, .int 0, .int x_highFirst, .long x_next, .long x_stripsBefore, .ref x_types, .ref x_counts, .ref x_places])), (x_bytes, .inl (cb, 65536, .inl gb))] H := hP
  replace hD : va_D A [(m_file, .inr (7, [.ref fb, .ref ftb, .int fln, .int 0, .int flk])), (h0, .inr (0, [.int m_dpi, .ref m_tape, .ref m_page, .ref m_sheet, .ref m_fonts, .ref m_macros, .ref m_raster, .ref m_interpreter, .ref m_picture, .ref m_coder, .ref m_reader, .ref m_file, .ref m_shown, .int 0, .int 1, .int m_ended, .int m_overruns, .int m_pictures])), (m_picture, .inr (10, [.ref x_bytes, .int 0, .int x_highFirst, .long x_next, .long x_stripsBefore, .ref x_types, .ref x_counts, .ref x_places])), (x_bytes, .inl (cb, 65536, .inl gb))] := hD
  refine lv_aload_n hx hb d_Main_submit_87 rfl (lv_at hl 1 rfl) ?_
  refine va_get (D := (dC, dI)) (ci := 0) (v := .ref m_file) (C := R_Main) (T := F_Main) (N := 18) hx hb hwd i_Main hown hK hP 1 rfl rfl 11 (by decide) (hwd _ wd_4_137) (fun _ h9 => h9) rfl d_Main_submit_88 ?_
  refine va_get (D := (dC, dI)) (ci := 7) (v := .int 0) (C := R_OutFile) (T := F_OutFile) (N := 5) hx hb hwd i_OutFile hown hK hP 0 rfl rfl 3 (by decide) (hwd _ wd_3_222) (fun _ h9 => h9) rfl d_Main_submit_91 ?_
  have hP9 := hP.sub (ws' := []) [] rfl
  have hD9 := hD.sub (ws' := []) [] (by decide) rfl
  have hK9 := hK.sub (tys' := []) [] rfl
  exact W.iret (v := 0) hx hb hr (fun t ht hW => ⟨⟨0, (), rfl, (show (0 : Int32) = 0 from (by first | exact trivial | rfl | simp [*])), by rw [ht]; exact hP9, va_K.moved hW.alike hK9, hD9⟩, hS.F ht⟩) hS.2.2 d_Main_submit_94

abbrev rm_c_xsheetOf : Room := { frames := 6, cells := 1, slots := 6, locals := 82 }
set_option maxHeartbeats 4000000 in
set_option maxRecDepth 100000 in
theorem c_xsheetOf (l : Launch) (hlt : l.stackTraces = false) (dC : Nat → ClassId) (dI : Nat → Nat → Nat) (tt : Nat → Nat) (h0 : Nat) (m_dpi : Int32) (m_tape : Nat) (m_page : Nat) (m_sheet : Nat) (m_fonts : Nat) (m_macros : Nat) (m_raster : Nat) (m_interpreter : Nat) (m_picture : Nat) (m_coder : Nat) (m_reader : Nat) (m_file : Nat) (m_shown : Nat) (m_taped : Int32) (m_fault : Int32) (m_ended : Int32) (m_overruns : Int32) (m_pictures : Int32) (sb : Nat) (stb : Nat) (slk : Int32) (pp : Int32) (w : Int32) (sz : Nat)  : MetX l y_Main_sheetOf w_Main_sheetOf rm_c_xsheetOf (va_Pc [.ref h0, .int pp, .int w] (fun U => U.heap.size = sz ∧ va_P (dC, dI) vcl [(h0, .inr (0, [.int m_dpi, .ref m_tape, .ref m_page, .ref m_sheet, .ref m_fonts, .ref m_macros, .ref m_raster, .ref m_interpreter, .ref m_picture, .ref m_coder, .ref m_reader, .ref m_file, .ref m_shown, .int m_taped, .int m_fault, .int m_ended, .int m_overruns, .int m_pictures])), (m_shown, .inr (7, [.ref sb, .ref stb, .int 0, .int 0, .int slk]))] U.heap ∧ va_K (dC, dI) vcl [] U ∧ va_D (fun _ => True) [(h0, .inr (0, [.int m_dpi, .ref m_tape, .ref m_page, .ref m_sheet, .ref m_fonts, .ref m_macros, .ref m_raster, .ref m_interpreter, .ref m_picture, .ref m_coder, .ref m_reader, .ref m_file, .ref m_shown, .int m_taped, .int m_fault, .int m_ended, .int m_overruns, .int m_pictures])), (m_shown, .inr (7, [.ref sb, .ref stb, .int 0, .int 0, .int slk]))] ∧ SF tt (va_A [(h0, .inr (0, [.int m_dpi, .ref m_tape, .ref m_page, .ref m_sheet, .ref m_fonts, .ref m_macros, .ref m_raster, .ref m_interpreter, .ref m_picture, .ref m_coder, .ref m_reader, .ref m_file, .ref m_shown, .int m_taped, .int m_fault, .int m_ended, .int m_overruns, .int m_pictures])), (m_shown, .inr (7, [.ref sb, .ref stb, .int 0, .int 0, .int slk]))] sz) U U.heap)) (xQ "java/lang/IndexOutOfBoundsException") 1 6 (fun _ => False) := by
  refine MetX.ofW (cc := b_Main_sheetOf) (maxL := 3) (ret := (some .int)) (by decide) rfl ?_
  intro p e s m args below meth c s₁ B hml hv
  obtain ⟨rfl, hsz, hP, hK, hD0, hF⟩ := hv
  have hx := B.exec
  have hb := B.bytes
  have hr := B.returns
  have hwd : ∀ w ∈ gT, w.before _ s = true := fun w h => atoms_spec (ws := w_Main_sheetOf) B.pre w (List.mem_cons_of_mem _ h)
  have hown : s.vm.findClass R_Main = some m.cls := findClass_of_methodNamed B.named
  have hlocks := B.notSynchronized
  subst hsz
  have hD := hD0.self (sz := s.heap.size)
  generalize hAe : va_A [(h0, .inr (0, [.int m_dpi, .ref m_tape, .ref m_page, .ref m_sheet, .ref m_fonts, .ref m_macros, .ref m_raster, .ref m_interpreter, .ref m_picture, .ref m_coder, .ref m_reader, .ref m_file, .ref m_shown, .int m_taped, .int m_fault, .int m_ended, .int m_overruns, .int m_pictures])), (m_shown, .inr (7, [.ref sb, .ref stb, .int 0, .int 0, .int slk]))] s.heap.size = A at hD hF
  have hA : ∀ q : Nat, s.heap.size ≤ q → A q := fun q h => by rw [← hAe]; exact Or.inr h
  have hS : va_S A s.heap s.heap [] := va_S.rf
  have hP : va_P (dC, dI) vcl [(h0, .inr (0, [.int m_dpi, .ref m_tape, .ref m_page, .ref m_sheet, .ref m_fonts, .ref m_macros, .ref m_raster, .ref m_interpreter, .ref m_picture, .ref m_coder, .ref m_reader, .ref m_file, .ref m_shown, .int m_taped, .int m_fault, .int m_ended, .int m_overruns, .int m_pictures])), (m_shown, .inr (7, [.ref sb, .ref stb, .int 0, .int 0, .int slk]))] s.heap := hP
  have hl := lv_entry ([.ref h0, .int pp, .int w]) (n := 3) (Nat.le_of_ble_eq_true rfl)
  rw [lg_entry_eq]
  generalize (lg_sl ([.ref h0, .int pp, .int w]) ++ List.replicate (3 - (lg_sl ([.ref h0, .int pp, .int w])).length) Slot.unset).toArray = ls at hl ⊢
  have hl : lv_has ls 3 [(0, .ref h0), (1, .int pp), (2, .int w)] := hl
  refine lv_iload_n hx hb d_Main_sheetOf_0 rfl (lv_at hl 1 rfl) ?_
  refine lv_if_lt (tgt := 24) hx hb d_Main_sheetOf_1 (by decide) (fun c1 => ?_) (fun c1 => ?_)
  · exact w_throwNew (cells := 0) (slots := 0) (text := "no such page or number") (names := ["java/lang/RuntimeException", "java/lang/Exception"]) hx hb hlt hown (by decide) (by decide) (xa_1 hwd hF) (hwd _ wd_9_7) (hwd _ wd_1_28) (xs_same rfl (hF.2.2.2.2.2 ("SheetPrinter", 175, "no such page or number") (List.mem_of_getElem? (i := 2) rfl))) (hl.1.trans hml.symm) d_Main_sheetOf_24 d_Main_sheetOf_27 d_Main_sheetOf_28 d_Main_sheetOf_30 d_Main_sheetOf_33 (covers_of_empty (B.noHandlers (atoms_spec (ws := w_Main_sheetOf) B.pre _ List.mem_cons_self)) _) (Nat.le_of_ble_eq_true rfl) (Nat.le_of_ble_eq_true rfl) (Nat.le_of_ble_eq_true rfl) (Nat.le_of_ble_eq_true rfl) hlocks
  · refine lv_iload_n hx hb d_Main_sheetOf_4 rfl (lv_at hl 1 rfl) ?_
    refine lv_aload_n hx hb d_Main_sheetOf_5 rfl (lv_at hl 0 rfl) ?_
    refine va_get (D := (dC, dI)) (ci := 0) (v := .ref m_shown) (C := R_Main) (T := F_Main) (N := 18) hx hb hwd i_Main hown hK hP 0 rfl rfl 12 (by decide) (hwd _ wd_4_138) (fun _ h9 => h9) rfl d_Main_sheetOf_6 ?_
    refine va_get (D := (dC, dI)) (ci := 7) (v := .int 0) (C := R_OutFile) (T := F_OutFile) (N := 5) hx hb hwd i_OutFile hown hK hP 1 rfl rfl 3 (by decide) (hwd _ wd_3_222) (fun _ h9 => h9) rfl d_Main_sheetOf_9 ?_
    refine lv_icmp_ge (tgt := 24) hx hb d_Main_sheetOf_12 (by decide) (fun c12 => ?_) (fun c12 => absurd (Int32.not_lt.mp c1) c12)
    exact w_throwNew (cells := 0) (slots := 0) (text := "no such page or number") (names := ["java/lang/RuntimeException", "java/lang/Exception"]) hx hb hlt hown (by decide) (by decide) (xa_1 hwd hF) (hwd _ wd_9_7) (hwd _ wd_1_28) (xs_same rfl (hF.2.2.2.2.2 ("SheetPrinter", 175, "no such page or number") (List.mem_of_getElem? (i := 2) rfl))) (hl.1.trans hml.symm) d_Main_sheetOf_24 d_Main_sheetOf_27 d_Main_sheetOf_28 d_Main_sheetOf_30 d_Main_sheetOf_33 (covers_of_empty (B.noHandlers (atoms_spec (ws := w_Main_sheetOf) B.pre _ List.mem_cons_self)) _) (Nat.le_of_ble_eq_true rfl) (Nat.le_of_ble_eq_true rfl) (Nat.le_of_ble_eq_true rfl) (Nat.le_of_ble_eq_true rfl) hlocks

abbrev at_c_Lsubmit_bad (dC : Nat → ClassId) (dI : Nat → Nat → Nat) (h0 : Nat) (m_dpi : Int32) (m_tape : Nat) (m_page : Nat) (m_sheet : Nat) (m_fonts : Nat) (m_macros : Nat) (m_raster : Nat) (m_interpreter : Nat) (m_picture : Nat) (m_coder : Nat) (m_reader : Nat) (m_file : Nat) (m_shown : Nat) (m_taped : Int32) (m_fault : Int32) (m_ended : Int32) (m_overruns : Int32) (m_pictures : Int32) (kd : Int32) (nn : Int32) (ou : Nat) (A : Nat → Prop) (u : Unit) (t : State) : Prop := match u with
  | _ => va_P (dC, dI) vcl [] t.heap ∧ va_K (dC, dI) vcl [] t ∧ va_D A []
abbrev po_c_Lsubmit_bad (h0 : Nat) (m_dpi : Int32) (m_tape : Nat) (m_page : Nat) (m_sheet : Nat) (m_fonts : Nat) (m_macros : Nat) (m_raster : Nat) (m_interpreter : Nat) (m_picture : Nat) (m_coder : Nat) (m_reader : Nat) (m_file : Nat) (m_shown : Nat) (m_taped : Int32) (m_fault : Int32) (m_ended : Int32) (m_overruns : Int32) (m_pictures : Int32) (kd : Int32) (nn : Int32) (ou : Nat) (r : Int32) (u : Unit) : Prop := match u with
  | _ => r = 1
abbrev q_c_Lsubmit_bad (dC : Nat → ClassId) (dI : Nat → Nat → Nat) (h0 : Nat) (m_dpi : Int32) (m_tape : Nat) (m_page : Nat) (m_sheet : Nat) (m_fonts : Nat) (m_macros : Nat) (m_raster : Nat) (m_interpreter : Nat) (m_picture : Nat) (m_coder : Nat) (m_reader : Nat) (m_file : Nat) (m_shown : Nat) (m_taped : Int32) (m_fault : Int32) (m_ended : Int32) (m_overruns : Int32) (m_pictures : Int32) (kd : Int32) (nn : Int32) (ou : Nat) (A : Nat → Prop) : Array Value → State → Outcome → State → Prop := va_Qi (po_c_Lsubmit_bad h0 m_dpi m_tape m_page m_sheet m_fonts m_macros m_raster m_interpreter m_picture m_coder m_reader m_file m_shown m_taped m_fault m_ended m_overruns m_pictures kd nn ou) (at_c_Lsubmit_bad dC dI h0 m_dpi m_tape m_page m_sheet m_fonts m_macros m_raster m_interpreter m_picture m_coder m_reader m_file m_shown m_taped m_fault m_ended m_overruns m_pictures kd nn ou A) A
abbrev rm_c_Lsubmit_bad : Room := { frames := 7, cells := 1, slots := 6, locals := 105 }
set_option maxHeartbeats 4000000 in
set_option maxRecDepth 100000 in
theorem c_Lsubmit_bad (l : Launch) (hlt : l.stackTraces = false) (dC : Nat → ClassId) (dI : Nat → Nat → Nat) (tt : Nat → Nat) (h0 : Nat) (m_dpi : Int32) (m_tape : Nat) (m_page : Nat) (m_sheet : Nat) (m_fonts : Nat) (m_macros : Nat) (m_raster : Nat) (m_interpreter : Nat) (m_picture : Nat) (m_coder : Nat) (m_reader : Nat) (m_file : Nat) (m_shown : Nat) (m_taped : Int32) (m_fault : Int32) (m_ended : Int32) (m_overruns : Int32) (m_pictures : Int32) (kd : Int32) (nn : Int32) (ou : Nat) (sz : Nat) (hbad : ¬ ((kd = 0 ∨ kd = 1) ∧ 1 ≤ nn ∧ nn ≤ 20)) : Met l y_Law_submit w_Law_submit rm_c_Lsubmit_bad (va_Pc [.ref h0, .int kd, .int nn, .ref ou] (fun U => U.heap.size = sz ∧ va_P (dC, dI) vcl [(h0, .inr (0, [.int m_dpi, .ref m_tape, .ref m_page, .ref m_sheet, .ref m_fonts, .ref m_macros, .ref m_raster, .ref m_interpreter, .ref m_picture, .ref m_coder, .ref m_reader, .ref m_file, .ref m_shown, .int m_taped, .int m_fault, .int m_ended, .int m_overruns, .int m_pictures]))] U.heap ∧ va_K (dC, dI) vcl [] U ∧ va_D (fun _ => True) [(h0, .inr (0, [.int m_dpi, .ref m_tape, .ref m_page, .ref m_sheet, .ref m_fonts, .ref m_macros, .ref m_raster, .ref m_interpreter, .ref m_picture, .ref m_coder, .ref m_reader, .ref m_file, .ref m_shown, .int m_taped, .int m_fault, .int m_ended, .int m_overruns, .int m_pictures]))] ∧ SF tt (va_A [(h0, .inr (0, [.int m_dpi, .ref m_tape, .ref m_page, .ref m_sheet, .ref m_fonts, .ref m_macros, .ref m_raster, .ref m_interpreter, .ref m_picture, .ref m_coder, .ref m_reader, .ref m_file, .ref m_shown, .int m_taped, .int m_fault, .int m_ended, .int m_overruns, .int m_pictures]))] sz) U U.heap)) (q_c_Lsubmit_bad dC dI h0 m_dpi m_tape m_page m_sheet m_fonts m_macros m_raster m_interpreter m_picture m_coder m_reader m_file m_shown m_taped m_fault m_ended m_overruns m_pictures kd nn ou (va_A [(h0, .inr (0, [.int m_dpi, .ref m_tape, .ref m_page, .ref m_sheet, .ref m_fonts, .ref m_macros, .ref m_raster, .ref m_interpreter, .ref m_picture, .ref m_coder, .ref m_reader, .ref m_file, .ref m_shown, .int m_taped, .int m_fault, .int m_ended, .int m_overruns, .int m_pictures]))] sz)) 1 6 (va_A [(h0, .inr (0, [.int m_dpi, .ref m_tape, .ref m_page, .ref m_sheet, .ref m_fonts, .ref m_macros, .ref m_raster, .ref m_interpreter, .ref m_picture, .ref m_coder, .ref m_reader, .ref m_file, .ref m_shown, .int m_taped, .int m_fault, .int m_ended, .int m_overruns, .int m_pictures]))] sz) := by
  refine va_MetW (hh := [(0, 10, 13, 13), (0, 10, 17, 15)]) (cc := b_Law_submit) (maxL := 5) (ret := (some .int)) (by decide) rfl ?_
  intro p e s m args below meth c s₁ B hml hv
  obtain ⟨rfl, hsz, hP, hK, hD0, hF⟩ := hv
  have hx := B.exec
  have hb := B.bytes
  have hr := B.returns
  have hwd : ∀ w ∈ gT, w.before _ s = true := fun w h => atoms_spec (ws := w_Law_submit) B.pre w (List.mem_cons_of_mem _ h)
  have hown : s.vm.findClass R_Law = some m.cls := findClass_of_methodNamed B.named
  have hlocks := B.notSynchronized
  obtain ⟨x9, t9, hxs, hx1, hx2, hx3, hx4⟩ := x_rows B.named B.method (Stand.of_body B).code (atoms_spec (ws := w_Law_submit) B.pre _ List.mem_cons_self)
  dsimp only at hx1 hx2 hx3 hx4
  subst hsz
  have hD := hD0.self (sz := s.heap.size)
  generalize hAe : va_A [(h0, .inr (0, [.int m_dpi, .ref m_tape, .ref m_page, .ref m_sheet, .ref m_fonts, .ref m_macros, .ref m_raster, .ref m_interpreter, .ref m_picture, .ref m_coder, .ref m_reader, .ref m_file, .ref m_shown, .int m_taped, .int m_fault, .int m_ended, .int m_overruns, .int m_pictures]))] s.heap.size = A at hD hF ⊢
  have hA : ∀ q : Nat, s.heap.size ≤ q → A q := fun q h => by rw [← hAe]; exact Or.inr h
  have hS : va_S A s.heap s.heap [] := va_S.rf
  have hP : va_P (dC, dI) vcl [(h0, .inr (0, [.int m_dpi, .ref m_tape, .ref m_page, .ref m_sheet, .ref m_fonts, .ref m_macros, .ref m_raster, .ref m_interpreter, .ref m_picture, .ref m_coder, .ref m_reader, .ref m_file, .ref m_shown, .int m_taped, .int m_fault, .int m_ended, .int m_overruns, .int m_pictures]))] s.heap := hP
  have hl := lv_entry ([.ref h0, .int kd, .int nn, .ref ou]) (n := 5) (Nat.le_of_ble_eq_true rfl)
  rw [lg_entry_eq]
  generalize (lg_sl ([.ref h0, .int kd, .int nn, .ref ou]) ++ List.replicate (5 - (lg_sl ([.ref h0, .int kd, .int nn, .ref ou])).length) Slot.unset).toArray = ls at hl ⊢
  have hl : lv_has ls 5 [(0, .ref h0), (1, .int kd), (2, .int nn), (3, .ref ou)] := hl
  refine lv_aload_n hx hb d_Law_submit_0 rfl (lv_at hl 3 rfl) ?_
  refine lv_iconst (v := 0) hx hb d_Law_submit_1 (by decide) ?_
  refine lv_aload_n hx hb d_Law_submit_2 rfl (lv_at hl 0 rfl) ?_
  refine lv_iload_n hx hb d_Law_submit_3 rfl (lv_at hl 1 rfl) ?_
  refine lv_iload_n hx hb d_Law_submit_4 rfl (lv_at hl 2 rfl) ?_
  have hPc := hP.sub (ws' := [(h0, .inr (0, [.int m_dpi, .ref m_tape, .ref m_page, .ref m_sheet, .ref m_fonts, .ref m_macros, .ref m_raster, .ref m_interpreter, .ref m_picture, .ref m_coder, .ref m_reader, .ref m_file, .ref m_shown, .int m_taped, .int m_fault, .int m_ended, .int m_overruns, .int m_pictures]))]) [0] rfl
  have hDc := hD.sub (ws' := [(h0, .inr (0, [.int m_dpi, .ref m_tape, .ref m_page, .ref m_sheet, .ref m_fonts, .ref m_macros, .ref m_raster, .ref m_interpreter, .ref m_picture, .ref m_coder, .ref m_reader, .ref m_file, .ref m_shown, .int m_taped, .int m_fault, .int m_ended, .int m_overruns, .int m_pictures]))]) [0] (by decide) rfl
  have hKc := hK.sub (tys' := []) [] rfl
  have hFc := va_free (wc := [(h0, .inr (0, [.int m_dpi, .ref m_tape, .ref m_page, .ref m_sheet, .ref m_fonts, .ref m_macros, .ref m_raster, .ref m_interpreter, .ref m_picture, .ref m_coder, .ref m_reader, .ref m_file, .ref m_shown, .int m_taped, .int m_fault, .int m_ended, .int m_overruns, .int m_pictures]))]) hD hS hA [0] rfl
  refine w_callX (n := 2) (As := [.int kd, .int nn]) (rest := [.int 0, .ref ou]) (name := "java/lang/IllegalArgumentException") (own := R_Law) hx hb (c_xsubmit l hlt dC dI tt h0 m_dpi m_tape m_page m_sheet m_fonts m_macros m_raster m_interpreter m_picture m_coder m_reader m_file m_shown m_taped m_fault m_ended m_overruns m_pictures kd nn s.heap.size (hbad)) rfl hwd (gV gd_Main_submit wd_5_222 wd_5_223 wd_5_224 wd_1_1) rfl rfl ⟨Nat.le_of_ble_eq_true rfl, Nat.le_of_ble_eq_true rfl⟩ (by decide +kernel) rfl hown ⟨fun a U g mk q => by obtain ⟨q0, q1, qP, qK, qD, qF⟩ := q; exact ⟨q0, q1, qP, va_K.moved (u := U) (U := U.calling g mk a) (Vm.Alike.refl U.vm) qK, qD, SF.same (u := U) (U := U.calling g mk a) rfl qF⟩, va_recv hKc hPc (ci := 0) (q0 := 0) rfl rfl, fun U hU hW => ⟨rfl, by rw [hU], by rw [hU]; exact hPc, va_K.moved hW.alike hKc, hDc.weaken (fun _ _ _ _ => trivial), by rw [hU]; exact SF.narrow (SF.moved hW (SF.kept hF (fun a h1 h2 => hS.2.1 a h1 h2))) hFc⟩⟩ (hl.1.trans hml.symm) (lv_room (Nat.le_of_ble_eq_true rfl)) d_Law_submit_5 ⟨Nat.le_of_ble_eq_true rfl, Nat.le_of_ble_eq_true rfl⟩ hxs (by simp [covers, hx1, hx2]) (by rw [hx4]; decide) (by rw [hx4]; exact (hwd _ wd_5_220)) hx3 ?_
  clear hPc hDc hKc hFc
  intro q_1 H1 hz1 hk1
  replace hP := hP.kept (fun k x hx => hk1 x.1 ((hP k x hx).lt))
  replace hS : va_S A s.heap H1 _ := ⟨Nat.le_trans hS.1 hz1, fun q h1 h2 => (hk1 q (Nat.lt_of_lt_of_le h1 hS.1)).trans (hS.2.1 q h1 h2), hS.2.2⟩
  clear hz1 hk1
  generalize H1 = H at hP hS ⊢
  replace hP : va_P (dC, dI) vcl [(h0, .inr (0, [.int m_dpi, .ref m_tape, .ref m_page, .ref m_sheet, .ref m_fonts, .ref m_macros, .ref m_raster, .ref m_interpreter, .ref m_picture, .ref m_coder, .ref m_reader, .ref m_file, .ref m_shown, .int m_taped, .int m_fault, .int m_ended, .int m_overruns, .int m_pictures]))] H := hP
  replace hD : va_D A [(h0, .inr (0, [.int m_dpi, .ref m_tape, .ref m_page, .ref m_sheet, .ref m_fonts, .ref m_macros, .ref m_raster, .ref m_interpreter, .ref m_picture, .ref m_coder, .ref m_reader, .ref m_file, .ref m_shown, .int m_taped, .int m_fault, .int m_ended, .int m_overruns, .int m_pictures]))] := hD
  refine W.widen (k := 1) (n := 6) (by decide) (by decide) ?_
  refine lv_astore (lv' := [(4, .ref q_1), (0, .ref h0), (1, .int kd), (2, .int nn), (3, .ref ou)]) hx hb d_Law_submit_13 hl (by decide) rfl ?_
  clear hl
  intro ls hl
  refine lv_iconst (v := 1) hx hb d_Law_submit_15 (by decide) ?_
  have hP9 := hP.sub (ws' := []) [] rfl
  have hD9 := hD.sub (ws' := []) [] (by decide) rfl
  have hK9 := hK.sub (tys' := []) [] rfl
  exact W.iret (v := 1) hx hb hr (fun t ht hW => ⟨⟨1, (), rfl, (show (1 : Int32) = 1 from (by first | exact trivial | rfl | simp [*])), by rw [ht]; exact hP9, va_K.moved hW.alike hK9, hD9⟩, hS.F ht⟩) hS.2.2 d_Law_submit_16

abbrev at_c_Lsubmit_s (dC : Nat → ClassId) (dI : Nat → Nat → Nat) (h0 : Nat) (m_dpi : Int32) (m_tape : Nat) (m_page : Nat) (m_sheet : Nat) (m_fonts : Nat) (m_macros : Nat) (m_raster : Nat) (m_interpreter : Nat) (m_picture : Nat) (m_coder : Nat) (m_reader : Nat) (m_file : Nat) (m_shown : Nat) (m_ended : Int32) (m_overruns : Int32) (m_pictures : Int32) (i_tape : Nat) (i_page : Nat) (i_sheet : Nat) (i_fonts : Nat) (i_macros : Nat) (i_raster : Nat) (i_parser : Nat) (i_copies : Nat) (i_at : Nat) (i_ends : Nat) (i_called : Nat) (i_acts : Nat) (i_actIds : Nat) (i_actCount : Nat) (i_actNext : Nat) (i_ejecting : Int32) (i_then : Int32) (i_thenNumber : Int32) (i_thenStep : Int32) (c1 : ClassId) (f1 : Nat → Int32) (c2 : ClassId) (f2 : Nat → Int32) (c3 : ClassId) (f3 : Nat → Int32) (c4 : ClassId) (f4 : Nat → Int32) (ctp : ClassId) (ftp : Nat → Int32) (fb : Nat) (ftb : Nat) (fln : Int32) (flk : Int32) (nn : Int32) (ou : Nat) (cu : ClassId) (fu : Nat → Int64) (A : Nat → Prop) (u : Unit) (t : State) : Prop := match u with
  | _ => va_P (dC, dI) vcl [(ou, .inl (cu, 1, .inr (.inl (vp_updL fu 0 0))))] t.heap ∧ va_K (dC, dI) vcl [(cu, .long)] t ∧ va_D A [(ou, .inl (cu, 1, .inr (.inl (vp_updL fu 0 0))))]
abbrev po_c_Lsubmit_s (h0 : Nat) (m_dpi : Int32) (m_tape : Nat) (m_page : Nat) (m_sheet : Nat) (m_fonts : Nat) (m_macros : Nat) (m_raster : Nat) (m_interpreter : Nat) (m_picture : Nat) (m_coder : Nat) (m_reader : Nat) (m_file : Nat) (m_shown : Nat) (m_ended : Int32) (m_overruns : Int32) (m_pictures : Int32) (i_tape : Nat) (i_page : Nat) (i_sheet : Nat) (i_fonts : Nat) (i_macros : Nat) (i_raster : Nat) (i_parser : Nat) (i_copies : Nat) (i_at : Nat) (i_ends : Nat) (i_called : Nat) (i_acts : Nat) (i_actIds : Nat) (i_actCount : Nat) (i_actNext : Nat) (i_ejecting : Int32) (i_then : Int32) (i_thenNumber : Int32) (i_thenStep : Int32) (c1 : ClassId) (f1 : Nat → Int32) (c2 : ClassId) (f2 : Nat → Int32) (c3 : ClassId) (f3 : Nat → Int32) (c4 : ClassId) (f4 : Nat → Int32) (ctp : ClassId) (ftp : Nat → Int32) (fb : Nat) (ftb : Nat) (fln : Int32) (flk : Int32) (nn : Int32) (ou : Nat) (cu : ClassId) (fu : Nat → Int64) (r : Int32) (u : Unit) : Prop := match u with
  | _ => r = 0
abbrev q_c_Lsubmit_s (dC : Nat → ClassId) (dI : Nat → Nat → Nat) (h0 : Nat) (m_dpi : Int32) (m_tape : Nat) (m_page : Nat) (m_sheet : Nat) (m_fonts : Nat) (m_macros : Nat) (m_raster : Nat) (m_interpreter : Nat) (m_picture : Nat) (m_coder : Nat) (m_reader : Nat) (m_file : Nat) (m_shown : Nat) (m_ended : Int32) (m_overruns : Int32) (m_pictures : Int32) (i_tape : Nat) (i_page : Nat) (i_sheet : Nat) (i_fonts : Nat) (i_macros : Nat) (i_raster : Nat) (i_parser : Nat) (i_copies : Nat) (i_at : Nat) (i_ends : Nat) (i_called : Nat) (i_acts : Nat) (i_actIds : Nat) (i_actCount : Nat) (i_actNext : Nat) (i_ejecting : Int32) (i_then : Int32) (i_thenNumber : Int32) (i_thenStep : Int32) (c1 : ClassId) (f1 : Nat → Int32) (c2 : ClassId) (f2 : Nat → Int32) (c3 : ClassId) (f3 : Nat → Int32) (c4 : ClassId) (f4 : Nat → Int32) (ctp : ClassId) (ftp : Nat → Int32) (fb : Nat) (ftb : Nat) (fln : Int32) (flk : Int32) (nn : Int32) (ou : Nat) (cu : ClassId) (fu : Nat → Int64) (A : Nat → Prop) : Array Value → State → Outcome → State → Prop := va_Qi (po_c_Lsubmit_s h0 m_dpi m_tape m_page m_sheet m_fonts m_macros m_raster m_interpreter m_picture m_coder m_reader m_file m_shown m_ended m_overruns m_pictures i_tape i_page i_sheet i_fonts i_macros i_raster i_parser i_copies i_at i_ends i_called i_acts i_actIds i_actCount i_actNext i_ejecting i_then i_thenNumber i_thenStep c1 f1 c2 f2 c3 f3 c4 f4 ctp ftp fb ftb fln flk nn ou cu fu) (at_c_Lsubmit_s dC dI h0 m_dpi m_tape m_page m_sheet m_fonts m_macros m_raster m_interpreter m_picture m_coder m_reader m_file m_shown m_ended m_overruns m_pictures i_tape i_page i_sheet i_fonts i_macros i_raster i_parser i_copies i_at i_ends i_called i_acts i_actIds i_actCount i_actNext i_ejecting i_then i_thenNumber i_thenStep c1 f1 c2 f2 c3 f3 c4 f4 ctp ftp fb ftb fln flk nn ou cu fu A) A
abbrev rm_c_Lsubmit_s : Room := { frames := 4, cells := 0, slots := 0, locals := 81 }
set_option maxHeartbeats 4000000 in
set_option maxRecDepth 100000 in
theorem c_Lsubmit_s (l : Launch) (dC : Nat → ClassId) (dI : Nat → Nat → Nat) (tt : Nat → Nat) (h0 : Nat) (m_dpi : Int32) (m_tape : Nat) (m_page : Nat) (m_sheet : Nat) (m_fonts : Nat) (m_macros : Nat) (m_raster : Nat) (m_interpreter : Nat) (m_picture : Nat) (m_coder : Nat) (m_reader : Nat) (m_file : Nat) (m_shown : Nat) (m_ended : Int32) (m_overruns : Int32) (m_pictures : Int32) (i_tape : Nat) (i_page : Nat) (i_sheet : Nat) (i_fonts : Nat) (i_macros : Nat) (i_raster : Nat) (i_parser : Nat) (i_copies : Nat) (i_at : Nat) (i_ends : Nat) (i_called : Nat) (i_acts : Nat) (i_actIds : Nat) (i_actCount : Nat) (i_actNext : Nat) (i_ejecting : Int32) (i_then : Int32) (i_thenNumber : Int32) (i_thenStep : Int32) (c1 : ClassId) (f1 : Nat → Int32) (c2 : ClassId) (f2 : Nat → Int32) (c3 : ClassId) (f3 : Nat → Int32) (c4 : ClassId) (f4 : Nat → Int32) (ctp : ClassId) (ftp : Nat → Int32) (fb : Nat) (ftb : Nat) (fln : Int32) (flk : Int32) (nn : Int32) (ou : Nat) (cu : ClassId) (fu : Nat → Int64) (sz : Nat) (hn1 : ¬ nn < 1) (hn2 : nn ≤ 20) (q3 : f3 0 = 0) (q4 : f4 0 = 0) : Met l y_Law_submit w_Law_submit rm_c_Lsubmit_s (va_Pc [.ref h0, .int 0, .int nn, .ref ou] (fun U => U.heap.size = sz ∧ va_P (dC, dI) vcl [(h0, .inr (0, [.int m_dpi, .ref m_tape, .ref m_page, .ref m_sheet, .ref m_fonts, .ref m_macros, .ref m_raster, .ref m_interpreter, .ref m_picture, .ref m_coder, .ref m_reader, .ref m_file, .ref m_shown, .int 0, .int 0, .int m_ended, .int m_overruns, .int m_pictures])), (m_interpreter, .inr (4, [.ref i_tape, .ref i_page, .ref i_sheet, .ref i_fonts, .ref i_macros, .ref i_raster, .ref i_parser, .ref i_copies, .int 0, .ref i_at, .ref i_ends, .ref i_called, .ref i_acts, .ref i_actIds, .ref i_actCount, .ref i_actNext, .int i_ejecting, .int i_then, .int i_thenNumber, .int i_thenStep])), (i_at, .inl (c1, 3, .inl f1)), (i_ends, .inl (c2, 3, .inl f2)), (i_actNext, .inl (c3, 3, .inl f3)), (i_actCount, .inl (c4, 3, .inl f4)), (i_tape, .inl (ctp, 65536, .inl ftp)), (m_file, .inr (7, [.ref fb, .ref ftb, .int fln, .int 0, .int flk])), (ou, .inl (cu, 1, .inr (.inl fu)))] U.heap ∧ va_K (dC, dI) vcl [(c1, .int), (c2, .int), (c3, .int), (c4, .int), (ctp, .byte), (cu, .long)] U ∧ va_D (fun _ => True) [(h0, .inr (0, [.int m_dpi, .ref m_tape, .ref m_page, .ref m_sheet, .ref m_fonts, .ref m_macros, .ref m_raster, .ref m_interpreter, .ref m_picture, .ref m_coder, .ref m_reader, .ref m_file, .ref m_shown, .int 0, .int 0, .int m_ended, .int m_overruns, .int m_pictures])), (m_interpreter, .inr (4, [.ref i_tape, .ref i_page, .ref i_sheet, .ref i_fonts, .ref i_macros, .ref i_raster, .ref i_parser, .ref i_copies, .int 0, .ref i_at, .ref i_ends, .ref i_called, .ref i_acts, .ref i_actIds, .ref i_actCount, .ref i_actNext, .int i_ejecting, .int i_then, .int i_thenNumber, .int i_thenStep])), (i_at, .inl (c1, 3, .inl f1)), (i_ends, .inl (c2, 3, .inl f2)), (i_actNext, .inl (c3, 3, .inl f3)), (i_actCount, .inl (c4, 3, .inl f4)), (i_tape, .inl (ctp, 65536, .inl ftp)), (m_file, .inr (7, [.ref fb, .ref ftb, .int fln, .int 0, .int flk])), (ou, .inl (cu, 1, .inr (.inl fu)))] ∧ SF tt (va_A [(h0, .inr (0, [.int m_dpi, .ref m_tape, .ref m_page, .ref m_sheet, .ref m_fonts, .ref m_macros, .ref m_raster, .ref m_interpreter, .ref m_picture, .ref m_coder, .ref m_reader, .ref m_file, .ref m_shown, .int 0, .int 0, .int m_ended, .int m_overruns, .int m_pictures])), (m_interpreter, .inr (4, [.ref i_tape, .ref i_page, .ref i_sheet, .ref i_fonts, .ref i_macros, .ref i_raster, .ref i_parser, .ref i_copies, .int 0, .ref i_at, .ref i_ends, .ref i_called, .ref i_acts, .ref i_actIds, .ref i_actCount, .ref i_actNext, .int i_ejecting, .int i_then, .int i_thenNumber, .int i_thenStep])), (i_at, .inl (c1, 3, .inl f1)), (i_ends, .inl (c2, 3, .inl f2)), (i_actNext, .inl (c3, 3, .inl f3)), (i_actCount, .inl (c4, 3, .inl f4)), (i_tape, .inl (ctp, 65536, .inl ftp)), (m_file, .inr (7, [.ref fb, .ref ftb, .int fln, .int 0, .int flk])), (ou, .inl (cu, 1, .inr (.inl fu)))] sz) U U.heap)) (q_c_Lsubmit_s dC dI h0 m_dpi m_tape m_page m_sheet m_fonts m_macros m_raster m_interpreter m_picture m_coder m_reader m_file m_shown m_ended m_overruns m_pictures i_tape i_page i_sheet i_fonts i_macros i_raster i_parser i_copies i_at i_ends i_called i_acts i_actIds i_actCount i_actNext i_ejecting i_then i_thenNumber i_thenStep c1 f1 c2 f2 c3 f3 c4 f4 ctp ftp fb ftb fln flk nn ou cu fu (va_A [(h0, .inr (0, [.int m_dpi, .ref m_tape, .ref m_page, .ref m_sheet, .ref m_fonts, .ref m_macros, .ref m_raster, .ref m_interpreter, .ref m_picture, .ref m_coder, .ref m_reader, .ref m_file, .ref m_shown, .int 0, .int 0, .int m_ended, .int m_overruns, .int m_pictures])), (m_interpreter, .inr (4, [.ref i_tape, .ref i_page, .ref i_sheet, .ref i_fonts, .ref i_macros, .ref i_raster, .ref i_parser, .ref i_copies, .int 0, .ref i_at, .ref i_ends, .ref i_called, .ref i_acts, .ref i_actIds, .ref i_actCount, .ref i_actNext, .int i_ejecting, .int i_then, .int i_thenNumber, .int i_thenStep])), (i_at, .inl (c1, 3, .inl f1)), (i_ends, .inl (c2, 3, .inl f2)), (i_actNext, .inl (c3, 3, .inl f3)), (i_actCount, .inl (c4, 3, .inl f4)), (i_tape, .inl (ctp, 65536, .inl ftp)), (m_file, .inr (7, [.ref fb, .ref ftb, .int fln, .int 0, .int flk])), (ou, .inl (cu, 1, .inr (.inl fu)))] sz)) 0 0 (va_A [(h0, .inr (0, [.int m_dpi, .ref m_tape, .ref m_page, .ref m_sheet, .ref m_fonts, .ref m_macros, .ref m_raster, .ref m_interpreter, .ref m_picture, .ref m_coder, .ref m_reader, .ref m_file, .ref m_shown, .int 0, .int 0, .int m_ended, .int m_overruns, .int m_pictures])), (m_interpreter, .inr (4, [.ref i_tape, .ref i_page, .ref i_sheet, .ref i_fonts, .ref i_macros, .ref i_raster, .ref i_parser, .ref i_copies, .int 0, .ref i_at, .ref i_ends, .ref i_called, .ref i_acts, .ref i_actIds, .ref i_actCount, .ref i_actNext, .int i_ejecting, .int i_then, .int i_thenNumber, .int i_thenStep])), (i_at, .inl (c1, 3, .inl f1)), (i_ends, .inl (c2, 3, .inl f2)), (i_actNext, .inl (c3, 3, .inl f3)), (i_actCount, .inl (c4, 3, .inl f4)), (i_tape, .inl (ctp, 65536, .inl ftp)), (m_file, .inr (7, [.ref fb, .ref ftb, .int fln, .int 0, .int flk])), (ou, .inl (cu, 1, .inr (.inl fu)))] sz) := by
  refine va_MetW (hh := [(0, 10, 13, 13), (0, 10, 17, 15)]) (cc := b_Law_submit) (maxL := 5) (ret := (some .int)) (by decide) rfl ?_
  intro p e s m args below meth c s₁ B hml hv
  obtain ⟨rfl, hsz, hP, hK, hD0, hF⟩ := hv
  have hx := B.exec
  have hb := B.bytes
  have hr := B.returns
  have hwd : ∀ w ∈ gT, w.before _ s = true := fun w h => atoms_spec (ws := w_Law_submit) B.pre w (List.mem_cons_of_mem _ h)
  have hown : s.vm.findClass R_Law = some m.cls := findClass_of_methodNamed B.named
  have hlocks := B.notSynchronized
  obtain ⟨x9, t9, hxs, hx1, hx2, hx3, hx4⟩ := x_rows B.named B.method (Stand.of_body B).code (atoms_spec (ws := w_Law_submit) B.pre _ List.mem_cons_self)
  dsimp only at hx1 hx2 hx3 hx4
  subst hsz
  have hD := hD0.self (sz := s.heap.size)
  generalize hAe : va_A [(h0, .inr (0, [.int m_dpi, .ref m_tape, .ref m_page, .ref m_sheet, .ref m_fonts, .ref m_macros, .ref m_raster, .ref m_interpreter, .ref m_picture, .ref m_coder, .ref m_reader, .ref m_file, .ref m_shown, .int 0, .int 0, .int m_ended, .int m_overruns, .int m_pictures])), (m_interpreter, .inr (4, [.ref i_tape, .ref i_page, .ref i_sheet, .ref i_fonts, .ref i_macros, .ref i_raster, .ref i_parser, .ref i_copies, .int 0, .ref i_at, .ref i_ends, .ref i_called, .ref i_acts, .ref i_actIds, .ref i_actCount, .ref i_actNext, .int i_ejecting, .int i_then, .int i_thenNumber, .int i_thenStep])), (i_at, .inl (c1, 3, .inl f1)), (i_ends, .inl (c2, 3, .inl f2)), (i_actNext, .inl (c3, 3, .inl f3)), (i_actCount, .inl (c4, 3, .inl f4)), (i_tape, .inl (ctp, 65536, .inl ftp)), (m_file, .inr (7, [.ref fb, .ref ftb, .int fln, .int 0, .int flk])), (ou, .inl (cu, 1, .inr (.inl fu)))] s.heap.size = A at hD hF ⊢
  have hA : ∀ q : Nat, s.heap.size ≤ q → A q := fun q h => by rw [← hAe]; exact Or.inr h
  have hS : va_S A s.heap s.heap [] := va_S.rf
  have hP : va_P (dC, dI) vcl [(h0, .inr (0, [.int m_dpi, .ref m_tape, .ref m_page, .ref m_sheet, .ref m_fonts, .ref m_macros, .ref m_raster, .ref m_interpreter, .ref m_picture, .ref m_coder, .ref m_reader, .ref m_file, .ref m_shown, .int 0, .int 0, .int m_ended, .int m_overruns, .int m_pictures])), (m_interpreter, .inr (4, [.ref i_tape, .ref i_page, .ref i_sheet, .ref i_fonts, .ref i_macros, .ref i_raster, .ref i_parser, .ref i_copies, .int 0, .ref i_at, .ref i_ends, .ref i_called, .ref i_acts, .ref i_actIds, .ref i_actCount, .ref i_actNext, .int i_ejecting, .int i_then, .int i_thenNumber, .int i_thenStep])), (i_at, .inl (c1, 3, .inl f1)), (i_ends, .inl (c2, 3, .inl f2)), (i_actNext, .inl (c3, 3, .inl f3)), (i_actCount, .inl (c4, 3, .inl f4)), (i_tape, .inl (ctp, 65536, .inl ftp)), (m_file, .inr (7, [.ref fb, .ref ftb, .int fln, .int 0, .int flk])), (ou, .inl (cu, 1, .inr (.inl fu)))] s.heap := hP
  have hl := lv_entry ([.ref h0, .int 0, .int nn, .ref ou]) (n := 5) (Nat.le_of_ble_eq_true rfl)
  rw [lg_entry_eq]
  generalize (lg_sl ([.ref h0, .int 0, .int nn, .ref ou]) ++ List.replicate (5 - (lg_sl ([.ref h0, .int 0, .int nn, .ref ou])).length) Slot.unset).toArray = ls at hl ⊢
  have hl : lv_has ls 5 [(0, .ref h0), (1, .int 0), (2, .int nn), (3, .ref ou)] := hl
  refine lv_aload_n hx hb d_Law_submit_0 rfl (lv_at hl 3 rfl) ?_
  refine lv_iconst (v := 0) hx hb d_Law_submit_1 (by decide) ?_
  refine lv_aload_n hx hb d_Law_submit_2 rfl (lv_at hl 0 rfl) ?_
  refine lv_iload_n hx hb d_Law_submit_3 rfl (lv_at hl 1 rfl) ?_
  refine lv_iload_n hx hb d_Law_submit_4 rfl (lv_at hl 2 rfl) ?_
  have hPc := hP.sub (ws' := [(h0, .inr (0, [.int m_dpi, .ref m_tape, .ref m_page, .ref m_sheet, .ref m_fonts, .ref m_macros, .ref m_raster, .ref m_interpreter, .ref m_picture, .ref m_coder, .ref m_reader, .ref m_file, .ref m_shown, .int 0, .int 0, .int m_ended, .int m_overruns, .int m_pictures])), (m_interpreter, .inr (4, [.ref i_tape, .ref i_page, .ref i_sheet, .ref i_fonts, .ref i_macros, .ref i_raster, .ref i_parser, .ref i_copies, .int 0, .ref i_at, .ref i_ends, .ref i_called, .ref i_acts, .ref i_actIds, .ref i_actCount, .ref i_actNext, .int i_ejecting, .int i_then, .int i_thenNumber, .int i_thenStep])), (i_at, .inl (c1, 3, .inl f1)), (i_ends, .inl (c2, 3, .inl f2)), (i_actNext, .inl (c3, 3, .inl f3)), (i_actCount, .inl (c4, 3, .inl f4)), (i_tape, .inl (ctp, 65536, .inl ftp)), (m_file, .inr (7, [.ref fb, .ref ftb, .int fln, .int 0, .int flk]))]) [0, 1, 2, 3, 4, 5, 6, 7] rfl
  have hDc := hD.sub (ws' := [(h0, .inr (0, [.int m_dpi, .ref m_tape, .ref m_page, .ref m_sheet, .ref m_fonts, .ref m_macros, .ref m_raster, .ref m_interpreter, .ref m_picture, .ref m_coder, .ref m_reader, .ref m_file, .ref m_shown, .int 0, .int 0, .int m_ended, .int m_overruns, .int m_pictures])), (m_interpreter, .inr (4, [.ref i_tape, .ref i_page, .ref i_sheet, .ref i_fonts, .ref i_macros, .ref i_raster, .ref i_parser, .ref i_copies, .int 0, .ref i_at, .ref i_ends, .ref i_called, .ref i_acts, .ref i_actIds, .ref i_actCount, .ref i_actNext, .int i_ejecting, .int i_then, .int i_thenNumber, .int i_thenStep])), (i_at, .inl (c1, 3, .inl f1)), (i_ends, .inl (c2, 3, .inl f2)), (i_actNext, .inl (c3, 3, .inl f3)), (i_actCount, .inl (c4, 3, .inl f4)), (i_tape, .inl (ctp, 65536, .inl ftp)), (m_file, .inr (7, [.ref fb, .ref ftb, .int fln, .int 0, .int flk]))]) [0, 1, 2, 3, 4, 5, 6, 7] (by decide) rfl
  have hKc := hK.sub (tys' := [(c1, .int), (c2, .int), (c3, .int), (c4, .int), (ctp, .byte)]) [0, 1, 2, 3, 4] rfl
  have hFc := va_free (wc := [(h0, .inr (0, [.int m_dpi, .ref m_tape, .ref m_page, .ref m_sheet, .ref m_fonts, .ref m_macros, .ref m_raster, .ref m_interpreter, .ref m_picture, .ref m_coder, .ref m_reader, .ref m_file, .ref m_shown, .int 0, .int 0, .int m_ended, .int m_overruns, .int m_pictures])), (m_interpreter, .inr (4, [.ref i_tape, .ref i_page, .ref i_sheet, .ref i_fonts, .ref i_macros, .ref i_raster, .ref i_parser, .ref i_copies, .int 0, .ref i_at, .ref i_ends, .ref i_called, .ref i_acts, .ref i_actIds, .ref i_actCount, .ref i_actNext, .int i_ejecting, .int i_then, .int i_thenNumber, .int i_thenStep])), (i_at, .inl (c1, 3, .inl f1)), (i_ends, .inl (c2, 3, .inl f2)), (i_actNext, .inl (c3, 3, .inl f3)), (i_actCount, .inl (c4, 3, .inl f4)), (i_tape, .inl (ctp, 65536, .inl ftp)), (m_file, .inr (7, [.ref fb, .ref ftb, .int fln, .int 0, .int flk]))]) hD hS hA [0, 1, 2, 3, 4, 5, 6, 7] rfl
  refine va_calli (va_runV (As := [.int 0, .int nn]) (rest := [.int 0, .ref ou]) ⟨hx, hb, hml, hown, hwd⟩ (c_submit_s l dC dI tt h0 m_dpi m_tape m_page m_sheet m_fonts m_macros m_raster m_interpreter m_picture m_coder m_reader m_file m_shown m_ended m_overruns m_pictures i_tape i_page i_sheet i_fonts i_macros i_raster i_parser i_copies i_at i_ends i_called i_acts i_actIds i_actCount i_actNext i_ejecting i_then i_thenNumber i_thenStep c1 f1 c2 f2 c3 f3 c4 f4 ctp ftp fb ftb fln flk nn s.heap.size (hn1) (hn2) (q3) (q4)) (cwV 2 hwd (gV gd_Main_submit wd_5_222 wd_5_223 wd_5_224 wd_1_1) rfl rfl rfl (by decide +kernel) ⟨Nat.le_of_ble_eq_true rfl, Nat.le_of_ble_eq_true rfl⟩) ⟨fun a U g mk q => by obtain ⟨q0, q1, qP, qK, qD, qF⟩ := q; exact ⟨q0, q1, qP, va_K.moved (u := U) (U := U.calling g mk a) (Vm.Alike.refl U.vm) qK, qD, SF.same (u := U) (U := U.calling g mk a) rfl qF⟩, va_recv hKc hPc (ci := 0) (q0 := 0) rfl rfl, fun U hU hW => ⟨rfl, by rw [hU], by rw [hU]; exact hPc, va_K.moved hW.alike hKc, hDc.weaken (fun _ _ _ _ => trivial), by rw [hU]; exact SF.narrow (SF.moved hW (SF.kept hF (fun a h1 h2 => hS.2.1 a h1 h2))) hFc⟩⟩ rfl rfl hl.1 rfl (lv_room (Nat.le_of_ble_eq_true rfl)) d_Law_submit_5 ⟨Nat.le_of_ble_eq_true rfl, Nat.le_of_ble_eq_true rfl⟩) hS (fun q _ h => hFc q h) hFc ?_
  clear hPc hDc hKc hS
  intro r_1 u_2 t H1 locs ht hvm hw hB hz1 hk1 hS
  obtain ⟨hP1, hK1, hD1⟩ := hB
  rw [ht] at hP1
  have hK1 := va_K.moved hvm.symm hK1
  try dsimp only at hw
  have hJ := va_join (wr := [(ou, .inl (cu, 1, .inr (.inl fu)))]) (w1 := []) hP hD [0, 1, 2, 3, 4, 5, 6, 7] [8] rfl rfl (by decide) (by decide) hk1 hFc hP1 hD1
  clear hP hD hk1 hFc hP1 hD1 hz1
  obtain ⟨hP, hD⟩ := hJ
  clear hK1 ht hvm
  generalize H1 = H at hP hS ⊢
  replace hP : va_P (dC, dI) vcl [(ou, .inl (cu, 1, .inr (.inl fu)))] H := hP
  replace hD : va_D A [(ou, .inl (cu, 1, .inr (.inl fu)))] := hD
  obtain rfl := hw
  refine lv_i2l (v := 0) hx hb d_Law_submit_8 (by decide) ?_
  refine va_last hx hb hK hP hD hS 0 5 rfl rfl (show ¬ ((0 : Int32) < 0 ∨ 1 ≤ (0 : Int32).toNatClampNeg) by decide) d_Law_submit_9 ?_
  clear hP hD hS
  intro H locs hP hD hS
  rw [show (0 : Int32).toNatClampNeg = 0 by decide] at hP hD
  replace hP : va_P (dC, dI) vcl [(ou, .inl (cu, 1, .inr (.inl (vp_updL fu 0 0))))] H := hP
  replace hD : va_D A [(ou, .inl (cu, 1, .inr (.inl (vp_updL fu 0 0))))] := hD
  refine lv_goto (tgt := 21) hx hb d_Law_submit_10 (by decide) ?_
  refine lv_iconst (v := 0) hx hb d_Law_submit_21 (by decide) ?_
  have hP9 := hP.sub (ws' := [(ou, .inl (cu, 1, .inr (.inl (vp_updL fu 0 0))))]) [0] rfl
  have hD9 := hD.sub (ws' := [(ou, .inl (cu, 1, .inr (.inl (vp_updL fu 0 0))))]) [0] (by decide) rfl
  have hK9 := hK.sub (tys' := [(cu, .long)]) [5] rfl
  exact W.iret (v := 0) hx hb hr (fun t ht hW => ⟨⟨0, (), rfl, (show (0 : Int32) = 0 from (by first | exact trivial | rfl | simp [*])), by rw [ht]; exact hP9, va_K.moved hW.alike hK9, hD9⟩, hS.F ht⟩) hS.2.2 d_Law_submit_22

abbrev at_c_Lsubmit_p (dC : Nat → ClassId) (dI : Nat → Nat → Nat) (h0 : Nat) (m_dpi : Int32) (m_tape : Nat) (m_page : Nat) (m_sheet : Nat) (m_fonts : Nat) (m_macros : Nat) (m_raster : Nat) (m_interpreter : Nat) (m_picture : Nat) (m_coder : Nat) (m_reader : Nat) (m_file : Nat) (m_shown : Nat) (m_ended : Int32) (m_overruns : Int32) (m_pictures : Int32) (x_bytes : Nat) (x_length : Int32) (x_highFirst : Int32) (x_next : Int64) (x_stripsBefore : Int64) (x_types : Nat) (x_counts : Nat) (x_places : Nat) (cb : ClassId) (gb : Nat → Int32) (fb : Nat) (ftb : Nat) (fln : Int32) (flk : Int32) (nn : Int32) (ou : Nat) (cu : ClassId) (fu : Nat → Int64) (A : Nat → Prop) (u : Unit) (t : State) : Prop := match u with
  | _ => va_P (dC, dI) vcl [(ou, .inl (cu, 1, .inr (.inl (vp_updL fu 0 0))))] t.heap ∧ va_K (dC, dI) vcl [(cu, .long)] t ∧ va_D A [(ou, .inl (cu, 1, .inr (.inl (vp_updL fu 0 0))))]
abbrev po_c_Lsubmit_p (h0 : Nat) (m_dpi : Int32) (m_tape : Nat) (m_page : Nat) (m_sheet : Nat) (m_fonts : Nat) (m_macros : Nat) (m_raster : Nat) (m_interpreter : Nat) (m_picture : Nat) (m_coder : Nat) (m_reader : Nat) (m_file : Nat) (m_shown : Nat) (m_ended : Int32) (m_overruns : Int32) (m_pictures : Int32) (x_bytes : Nat) (x_length : Int32) (x_highFirst : Int32) (x_next : Int64) (x_stripsBefore : Int64) (x_types : Nat) (x_counts : Nat) (x_places : Nat) (cb : ClassId) (gb : Nat → Int32) (fb : Nat) (ftb : Nat) (fln : Int32) (flk : Int32) (nn : Int32) (ou : Nat) (cu : ClassId) (fu : Nat → Int64) (r : Int32) (u : Unit) : Prop := match u with
  | _ => r = 0
abbrev q_c_Lsubmit_p (dC : Nat → ClassId) (dI : Nat → Nat → Nat) (h0 : Nat) (m_dpi : Int32) (m_tape : Nat) (m_page : Nat) (m_sheet : Nat) (m_fonts : Nat) (m_macros : Nat) (m_raster : Nat) (m_interpreter : Nat) (m_picture : Nat) (m_coder : Nat) (m_reader : Nat) (m_file : Nat) (m_shown : Nat) (m_ended : Int32) (m_overruns : Int32) (m_pictures : Int32) (x_bytes : Nat) (x_length : Int32) (x_highFirst : Int32) (x_next : Int64) (x_stripsBefore : Int64) (x_types : Nat) (x_counts : Nat) (x_places : Nat) (cb : ClassId) (gb : Nat → Int32) (fb : Nat) (ftb : Nat) (fln : Int32) (flk : Int32) (nn : Int32) (ou : Nat) (cu : ClassId) (fu : Nat → Int64) (A : Nat → Prop) : Array Value → State → Outcome → State → Prop := va_Qi (po_c_Lsubmit_p h0 m_dpi m_tape m_page m_sheet m_fonts m_macros m_raster m_interpreter m_picture m_coder m_reader m_file m_shown m_ended m_overruns m_pictures x_bytes x_length x_highFirst x_next x_stripsBefore x_types x_counts x_places cb gb fb ftb fln flk nn ou cu fu) (at_c_Lsubmit_p dC dI h0 m_dpi m_tape m_page m_sheet m_fonts m_macros m_raster m_interpreter m_picture m_coder m_reader m_file m_shown m_ended m_overruns m_pictures x_bytes x_length x_highFirst x_next x_stripsBefore x_types x_counts x_places cb gb fb ftb fln flk nn ou cu fu A) A
abbrev rm_c_Lsubmit_p : Room := { frames := 4, cells := 0, slots := 0, locals := 85 }
set_option maxHeartbeats 4000000 in
set_option maxRecDepth 100000 in
theorem c_Lsubmit_p (l : Launch) (dC : Nat → ClassId) (dI : Nat → Nat → Nat) (tt : Nat → Nat) (h0 : Nat) (m_dpi : Int32) (m_tape : Nat) (m_page : Nat) (m_sheet : Nat) (m_fonts : Nat) (m_macros : Nat) (m_raster : Nat) (m_interpreter : Nat) (m_picture : Nat) (m_coder : Nat) (m_reader : Nat) (m_file : Nat) (m_shown : Nat) (m_ended : Int32) (m_overruns : Int32) (m_pictures : Int32) (x_bytes : Nat) (x_length : Int32) (x_highFirst : Int32) (x_next : Int64) (x_stripsBefore : Int64) (x_types : Nat) (x_counts : Nat) (x_places : Nat) (cb : ClassId) (gb : Nat → Int32) (fb : Nat) (ftb : Nat) (fln : Int32) (flk : Int32) (nn : Int32) (ou : Nat) (cu : ClassId) (fu : Nat → Int64) (sz : Nat) (hn1 : ¬ nn < 1) (hn2 : nn ≤ 20) : Met l y_Law_submit w_Law_submit rm_c_Lsubmit_p (va_Pc [.ref h0, .int 1, .int nn, .ref ou] (fun U => U.heap.size = sz ∧ va_P (dC, dI) vcl [(h0, .inr (0, [.int m_dpi, .ref m_tape, .ref m_page, .ref m_sheet, .ref m_fonts, .ref m_macros, .ref m_raster, .ref m_interpreter, .ref m_picture, .ref m_coder, .ref m_reader, .ref m_file, .ref m_shown, .int 0, .int 0, .int m_ended, .int m_overruns, .int m_pictures])), (m_picture, .inr (10, [.ref x_bytes, .int x_length, .int x_highFirst, .long x_next, .long x_stripsBefore, .ref x_types, .ref x_counts, .ref x_places])), (x_bytes, .inl (cb, 65536, .inl gb)), (m_file, .inr (7, [.ref fb, .ref ftb, .int fln, .int 0, .int flk])), (ou, .inl (cu, 1, .inr (.inl fu)))] U.heap ∧ va_K (dC, dI) vcl [(cb, .byte), (cu, .long)] U ∧ va_D (fun _ => True) [(h0, .inr (0, [.int m_dpi, .ref m_tape, .ref m_page, .ref m_sheet, .ref m_fonts, .ref m_macros, .ref m_raster, .ref m_interpreter, .ref m_picture, .ref m_coder, .ref m_reader, .ref m_file, .ref m_shown, .int 0, .int 0, .int m_ended, .int m_overruns, .int m_pictures])), (m_picture, .inr (10, [.ref x_bytes, .int x_length, .int x_highFirst, .long x_next, .long x_stripsBefore, .ref x_types, .ref x_counts, .ref x_places])), (x_bytes, .inl (cb, 65536, .inl gb)), (m_file, .inr (7, [.ref fb, .ref ftb, .int fln, .int 0, .int flk])), (ou, .inl (cu, 1, .inr (.inl fu)))] ∧ SF tt (va_A [(h0, .inr (0, [.int m_dpi, .ref m_tape, .ref m_page, .ref m_sheet, .ref m_fonts, .ref m_macros, .ref m_raster, .ref m_interpreter, .ref m_picture, .ref m_coder, .ref m_reader, .ref m_file, .ref m_shown, .int 0, .int 0, .int m_ended, .int m_overruns, .int m_pictures])), (m_picture, .inr (10, [.ref x_bytes, .int x_length, .int x_highFirst, .long x_next, .long x_stripsBefore, .ref x_types, .ref x_counts, .ref x_places])), (x_bytes, .inl (cb, 65536, .inl gb)), (m_file, .inr (7, [.ref fb, .ref ftb, .int fln, .int 0, .int flk])), (ou, .inl (cu, 1, .inr (.inl fu)))] sz) U U.heap)) (q_c_Lsubmit_p dC dI h0 m_dpi m_tape m_page m_sheet m_fonts m_macros m_raster m_interpreter m_picture m_coder m_reader m_file m_shown m_ended m_overruns m_pictures x_bytes x_length x_highFirst x_next x_stripsBefore x_types x_counts x_places cb gb fb ftb fln flk nn ou cu fu (va_A [(h0, .inr (0, [.int m_dpi, .ref m_tape, .ref m_page, .ref m_sheet, .ref m_fonts, .ref m_macros, .ref m_raster, .ref m_interpreter, .ref m_picture, .ref m_coder, .ref m_reader, .ref m_file, .ref m_shown, .int 0, .int 0, .int m_ended, .int m_overruns, .int m_pictures])), (m_picture, .inr (10, [.ref x_bytes, .int x_length, .int x_highFirst, .long x_next, .long x_stripsBefore, .ref x_types, .ref x_counts, .ref x_places])), (x_bytes, .inl (cb, 65536, .inl gb)), (m_file, .inr (7, [.ref fb, .ref ftb, .int fln, .int 0, .int flk])), (ou, .inl (cu, 1, .inr (.inl fu)))] sz)) 0 0 (va_A [(h0, .inr (0, [.int m_dpi, .ref m_tape, .ref m_page, .ref m_sheet, .ref m_fonts, .ref m_macros, .ref m_raster, .ref m_interpreter, .ref m_picture, .ref m_coder, .ref m_reader, .ref m_file, .ref m_shown, .int 0, .int 0, .int m_ended, .int m_overruns, .int m_pictures])), (m_picture, .inr (10, [.ref x_bytes, .int x_length, .int x_highFirst, .long x_next, .long x_stripsBefore, .ref x_types, .ref x_counts, .ref x_places])), (x_bytes, .inl (cb, 65536, .inl gb)), (m_file, .inr (7, [.ref fb, .ref ftb, .int fln, .int 0, .int flk])), (ou, .inl (cu, 1, .inr (.inl fu)))] sz) := by
  refine va_MetW (hh := [(0, 10, 13, 13), (0, 10, 17, 15)]) (cc := b_Law_submit) (maxL := 5) (ret := (some .int)) (by decide) rfl ?_
  intro p e s m args below meth c s₁ B hml hv
  obtain ⟨rfl, hsz, hP, hK, hD0, hF⟩ := hv
  have hx := B.exec
  have hb := B.bytes
  have hr := B.returns
  have hwd : ∀ w ∈ gT, w.before _ s = true := fun w h => atoms_spec (ws := w_Law_submit) B.pre w (List.mem_cons_of_mem _ h)
  have hown : s.vm.findClass R_Law = some m.cls := findClass_of_methodNamed B.named
  have hlocks := B.notSynchronized
  obtain ⟨x9, t9, hxs, hx1, hx2, hx3, hx4⟩ := x_rows B.named B.method (Stand.of_body B).code (atoms_spec (ws := w_Law_submit) B.pre _ List.mem_cons_self)
  dsimp only at hx1 hx2 hx3 hx4
  subst hsz
  have hD := hD0.self (sz := s.heap.size)
  generalize hAe : va_A [(h0, .inr (0, [.int m_dpi, .ref m_tape, .ref m_page, .ref m_sheet, .ref m_fonts, .ref m_macros, .ref m_raster, .ref m_interpreter, .ref m_picture, .ref m_coder, .ref m_reader, .ref m_file, .ref m_shown, .int 0, .int 0, .int m_ended, .int m_overruns, .int m_pictures])), (m_picture, .inr (10, [.ref x_bytes, .int x_length, .int x_highFirst, .long x_next, .long x_stripsBefore, .ref x_types, .ref x_counts, .ref x_places])), (x_bytes, .inl (cb, 65536, .inl gb)), (m_file, .inr (7, [.ref fb, .ref ftb, .int fln, .int 0, .int flk])), (ou, .inl (cu, 1, .inr (.inl fu)))] s.heap.size = A at hD hF ⊢
  have hA : ∀ q : Nat, s.heap.size ≤ q → A q := fun q h => by rw [← hAe]; exact Or.inr h
  have hS : va_S A s.heap s.heap [] := va_S.rf
  have hP : va_P (dC, dI) vcl [(h0, .inr (0, [.int m_dpi, .ref m_tape, .ref m_page, .ref m_sheet, .ref m_fonts, .ref m_macros, .ref m_raster, .ref m_interpreter, .ref m_picture, .ref m_coder, .ref m_reader, .ref m_file, .ref m_shown, .int 0, .int 0, .int m_ended, .int m_overruns, .int m_pictures])), (m_picture, .inr (10, [.ref x_bytes, .int x_length, .int x_highFirst, .long x_next, .long x_stripsBefore, .ref x_types, .ref x_counts, .ref x_places])), (x_bytes, .inl (cb, 65536, .inl gb)), (m_file, .inr (7, [.ref fb, .ref ftb, .int fln, .int 0, .int flk])), (ou, .inl (cu, 1, .inr (.inl fu)))] s.heap := hP
  have hl := lv_entry ([.ref h0, .int 1, .int nn, .ref ou]) (n := 5) (Nat.le_of_ble_eq_true rfl)
  rw [lg_entry_eq]
  generalize (lg_sl ([.ref h0, .int 1, .int nn, .ref ou]) ++ List.replicate (5 - (lg_sl ([.ref h0, .int 1, .int nn, .ref ou])).length) Slot.unset).toArray = ls at hl ⊢
  have hl : lv_has ls 5 [(0, .ref h0), (1, .int 1), (2, .int nn), (3, .ref ou)] := hl
  refine lv_aload_n hx hb d_Law_submit_0 rfl (lv_at hl 3 rfl) ?_
  refine lv_iconst (v := 0) hx hb d_Law_submit_1 (by decide) ?_
  refine lv_aload_n hx hb d_Law_submit_2 rfl (lv_at hl 0 rfl) ?_
  refine lv_iload_n hx hb d_Law_submit_3 rfl (lv_at hl 1 rfl) ?_
  refine lv_iload_n hx hb d_Law_submit_4 rfl (lv_at hl 2 rfl) ?_
  have hPc := hP.sub (ws' := [(h0, .inr (0, [.int m_dpi, .ref m_tape, .ref m_page, .ref m_sheet, .ref m_fonts, .ref m_macros, .ref m_raster, .ref m_interpreter, .ref m_picture, .ref m_coder, .ref m_reader, .ref m_file, .ref m_shown, .int 0, .int 0, .int m_ended, .int m_overruns, .int m_pictures])), (m_picture, .inr (10, [.ref x_bytes, .int x_length, .int x_highFirst, .long x_next, .long x_stripsBefore, .ref x_types, .ref x_counts, .ref x_places])), (x_bytes, .inl (cb, 65536, .inl gb)), (m_file, .inr (7, [.ref fb, .ref ftb, .int fln, .int 0, .int flk]))]) [0, 1, 2, 3] rfl
  have hDc := hD.sub (ws' := [(h0, .inr (0, [.int m_dpi, .ref m_tape, .ref m_page, .ref m_sheet, .ref m_fonts, .ref m_macros, .ref m_raster, .ref m_interpreter, .ref m_picture, .ref m_coder, .ref m_reader, .ref m_file, .ref m_shown, .int 0, .int 0, .int m_ended, .int m_overruns, .int m_pictures])), (m_picture, .inr (10, [.ref x_bytes, .int x_length, .int x_highFirst, .long x_next, .long x_stripsBefore, .ref x_types, .ref x_counts, .ref x_places])), (x_bytes, .inl (cb, 65536, .inl gb)), (m_file, .inr (7, [.ref fb, .ref ftb, .int fln, .int 0, .int flk]))]) [0, 1, 2, 3] (by decide) rfl
  have hKc := hK.sub (tys' := [(cb, .byte)]) [0] rfl
  have hFc := va_free (wc := [(h0, .inr (0, [.int m_dpi, .ref m_tape, .ref m_page, .ref m_sheet, .ref m_fonts, .ref m_macros, .ref m_raster, .ref m_interpreter, .ref m_picture, .ref m_coder, .ref m_reader, .ref m_file, .ref m_shown, .int 0, .int 0, .int m_ended, .int m_overruns, .int m_pictures])), (m_picture, .inr (10, [.ref x_bytes, .int x_length, .int x_highFirst, .long x_next, .long x_stripsBefore, .ref x_types, .ref x_counts, .ref x_places])), (x_bytes, .inl (cb, 65536, .inl gb)), (m_file, .inr (7, [.ref fb, .ref ftb, .int fln, .int 0, .int flk]))]) hD hS hA [0, 1, 2, 3] rfl
  refine va_calli (va_runV (As := [.int 1, .int nn]) (rest := [.int 0, .ref ou]) ⟨hx, hb, hml, hown, hwd⟩ (c_submit_p l dC dI tt h0 m_dpi m_tape m_page m_sheet m_fonts m_macros m_raster m_interpreter m_picture m_coder m_reader m_file m_shown m_ended m_overruns m_pictures x_bytes x_length x_highFirst x_next x_stripsBefore x_types x_counts x_places cb gb fb ftb fln flk nn s.heap.size (hn1) (hn2)) (cwV 2 hwd (gV gd_Main_submit wd_5_222 wd_5_223 wd_5_224 wd_1_1) rfl rfl rfl (by decide +kernel) ⟨Nat.le_of_ble_eq_true rfl, Nat.le_of_ble_eq_true rfl⟩) ⟨fun a U g mk q => by obtain ⟨q0, q1, qP, qK, qD, qF⟩ := q; exact ⟨q0, q1, qP, va_K.moved (u := U) (U := U.calling g mk a) (Vm.Alike.refl U.vm) qK, qD, SF.same (u := U) (U := U.calling g mk a) rfl qF⟩, va_recv hKc hPc (ci := 0) (q0 := 0) rfl rfl, fun U hU hW => ⟨rfl, by rw [hU], by rw [hU]; exact hPc, va_K.moved hW.alike hKc, hDc.weaken (fun _ _ _ _ => trivial), by rw [hU]; exact SF.narrow (SF.moved hW (SF.kept hF (fun a h1 h2 => hS.2.1 a h1 h2))) hFc⟩⟩ rfl rfl hl.1 rfl (lv_room (Nat.le_of_ble_eq_true rfl)) d_Law_submit_5 ⟨Nat.le_of_ble_eq_true rfl, Nat.le_of_ble_eq_true rfl⟩) hS (fun q _ h => hFc q h) hFc ?_
  clear hPc hDc hKc hS
  intro r_1 u_2 t H1 locs ht hvm hw hB hz1 hk1 hS
  obtain ⟨hP1, hK1, hD1⟩ := hB
  rw [ht] at hP1
  have hK1 := va_K.moved hvm.symm hK1
  try dsimp only at hw
  have hJ := va_join (wr := [(ou, .inl (cu, 1, .inr (.inl fu)))]) (w1 := []) hP hD [0, 1, 2, 3] [4] rfl rfl (by decide) (by decide) hk1 hFc hP1 hD1
  clear hP hD hk1 hFc hP1 hD1 hz1
  obtain ⟨hP, hD⟩ := hJ
  clear hK1 ht hvm
  generalize H1 = H at hP hS ⊢
  replace hP : va_P (dC, dI) vcl [(ou, .inl (cu, 1, .inr (.inl fu)))] H := hP
  replace hD : va_D A [(ou, .inl (cu, 1, .inr (.inl fu)))] := hD
  obtain rfl := hw
  refine lv_i2l (v := 0) hx hb d_Law_submit_8 (by decide) ?_
  refine va_last hx hb hK hP hD hS 0 1 rfl rfl (show ¬ ((0 : Int32) < 0 ∨ 1 ≤ (0 : Int32).toNatClampNeg) by decide) d_Law_submit_9 ?_
  clear hP hD hS
  intro H locs hP hD hS
  rw [show (0 : Int32).toNatClampNeg = 0 by decide] at hP hD
  replace hP : va_P (dC, dI) vcl [(ou, .inl (cu, 1, .inr (.inl (vp_updL fu 0 0))))] H := hP
  replace hD : va_D A [(ou, .inl (cu, 1, .inr (.inl (vp_updL fu 0 0))))] := hD
  refine lv_goto (tgt := 21) hx hb d_Law_submit_10 (by decide) ?_
  refine lv_iconst (v := 0) hx hb d_Law_submit_21 (by decide) ?_
  have hP9 := hP.sub (ws' := [(ou, .inl (cu, 1, .inr (.inl (vp_updL fu 0 0))))]) [0] rfl
  have hD9 := hD.sub (ws' := [(ou, .inl (cu, 1, .inr (.inl (vp_updL fu 0 0))))]) [0] (by decide) rfl
  have hK9 := hK.sub (tys' := [(cu, .long)]) [1] rfl
  exact W.iret (v := 0) hx hb hr (fun t ht hW => ⟨⟨0, (), rfl, (show (0 : Int32) = 0 from (by first | exact trivial | rfl | simp [*])), by rw [ht]; exact hP9, va_K.moved hW.alike hK9, hD9⟩, hS.F ht⟩) hS.2.2 d_Law_submit_22

abbrev at_c_LsheetOf (dC : Nat → ClassId) (dI : Nat → Nat → Nat) (h0 : Nat) (m_dpi : Int32) (m_tape : Nat) (m_page : Nat) (m_sheet : Nat) (m_fonts : Nat) (m_macros : Nat) (m_raster : Nat) (m_interpreter : Nat) (m_picture : Nat) (m_coder : Nat) (m_reader : Nat) (m_file : Nat) (m_shown : Nat) (m_taped : Int32) (m_fault : Int32) (m_ended : Int32) (m_overruns : Int32) (m_pictures : Int32) (sb : Nat) (stb : Nat) (slk : Int32) (pp : Int32) (w : Int32) (ou : Nat) (A : Nat → Prop) (u : Unit) (t : State) : Prop := match u with
  | _ => va_P (dC, dI) vcl [] t.heap ∧ va_K (dC, dI) vcl [] t ∧ va_D A []
abbrev po_c_LsheetOf (h0 : Nat) (m_dpi : Int32) (m_tape : Nat) (m_page : Nat) (m_sheet : Nat) (m_fonts : Nat) (m_macros : Nat) (m_raster : Nat) (m_interpreter : Nat) (m_picture : Nat) (m_coder : Nat) (m_reader : Nat) (m_file : Nat) (m_shown : Nat) (m_taped : Int32) (m_fault : Int32) (m_ended : Int32) (m_overruns : Int32) (m_pictures : Int32) (sb : Nat) (stb : Nat) (slk : Int32) (pp : Int32) (w : Int32) (ou : Nat) (r : Int32) (u : Unit) : Prop := match u with
  | _ => r = 1
abbrev q_c_LsheetOf (dC : Nat → ClassId) (dI : Nat → Nat → Nat) (h0 : Nat) (m_dpi : Int32) (m_tape : Nat) (m_page : Nat) (m_sheet : Nat) (m_fonts : Nat) (m_macros : Nat) (m_raster : Nat) (m_interpreter : Nat) (m_picture : Nat) (m_coder : Nat) (m_reader : Nat) (m_file : Nat) (m_shown : Nat) (m_taped : Int32) (m_fault : Int32) (m_ended : Int32) (m_overruns : Int32) (m_pictures : Int32) (sb : Nat) (stb : Nat) (slk : Int32) (pp : Int32) (w : Int32) (ou : Nat) (A : Nat → Prop) : Array Value → State → Outcome → State → Prop := va_Qi (po_c_LsheetOf h0 m_dpi m_tape m_page m_sheet m_fonts m_macros m_raster m_interpreter m_picture m_coder m_reader m_file m_shown m_taped m_fault m_ended m_overruns m_pictures sb stb slk pp w ou) (at_c_LsheetOf dC dI h0 m_dpi m_tape m_page m_sheet m_fonts m_macros m_raster m_interpreter m_picture m_coder m_reader m_file m_shown m_taped m_fault m_ended m_overruns m_pictures sb stb slk pp w ou A) A
abbrev rm_c_LsheetOf : Room := { frames := 7, cells := 1, slots := 6, locals := 104 }
set_option maxHeartbeats 4000000 in
set_option maxRecDepth 100000 in
theorem c_LsheetOf (l : Launch) (hlt : l.stackTraces = false) (dC : Nat → ClassId) (dI : Nat → Nat → Nat) (tt : Nat → Nat) (h0 : Nat) (m_dpi : Int32) (m_tape : Nat) (m_page : Nat) (m_sheet : Nat) (m_fonts : Nat) (m_macros : Nat) (m_raster : Nat) (m_interpreter : Nat) (m_picture : Nat) (m_coder : Nat) (m_reader : Nat) (m_file : Nat) (m_shown : Nat) (m_taped : Int32) (m_fault : Int32) (m_ended : Int32) (m_overruns : Int32) (m_pictures : Int32) (sb : Nat) (stb : Nat) (slk : Int32) (pp : Int32) (w : Int32) (ou : Nat) (sz : Nat)  : Met l y_Law_sheetOf w_Law_sheetOf rm_c_LsheetOf (va_Pc [.ref h0, .int pp, .int w, .ref ou] (fun U => U.heap.size = sz ∧ va_P (dC, dI) vcl [(h0, .inr (0, [.int m_dpi, .ref m_tape, .ref m_page, .ref m_sheet, .ref m_fonts, .ref m_macros, .ref m_raster, .ref m_interpreter, .ref m_picture, .ref m_coder, .ref m_reader, .ref m_file, .ref m_shown, .int m_taped, .int m_fault, .int m_ended, .int m_overruns, .int m_pictures])), (m_shown, .inr (7, [.ref sb, .ref stb, .int 0, .int 0, .int slk]))] U.heap ∧ va_K (dC, dI) vcl [] U ∧ va_D (fun _ => True) [(h0, .inr (0, [.int m_dpi, .ref m_tape, .ref m_page, .ref m_sheet, .ref m_fonts, .ref m_macros, .ref m_raster, .ref m_interpreter, .ref m_picture, .ref m_coder, .ref m_reader, .ref m_file, .ref m_shown, .int m_taped, .int m_fault, .int m_ended, .int m_overruns, .int m_pictures])), (m_shown, .inr (7, [.ref sb, .ref stb, .int 0, .int 0, .int slk]))] ∧ SF tt (va_A [(h0, .inr (0, [.int m_dpi, .ref m_tape, .ref m_page, .ref m_sheet, .ref m_fonts, .ref m_macros, .ref m_raster, .ref m_interpreter, .ref m_picture, .ref m_coder, .ref m_reader, .ref m_file, .ref m_shown, .int m_taped, .int m_fault, .int m_ended, .int m_overruns, .int m_pictures])), (m_shown, .inr (7, [.ref sb, .ref stb, .int 0, .int 0, .int slk]))] sz) U U.heap)) (q_c_LsheetOf dC dI h0 m_dpi m_tape m_page m_sheet m_fonts m_macros m_raster m_interpreter m_picture m_coder m_reader m_file m_shown m_taped m_fault m_ended m_overruns m_pictures sb stb slk pp w ou (va_A [(h0, .inr (0, [.int m_dpi, .ref m_tape, .ref m_page, .ref m_sheet, .ref m_fonts, .ref m_macros, .ref m_raster, .ref m_interpreter, .ref m_picture, .ref m_coder, .ref m_reader, .ref m_file, .ref m_shown, .int m_taped, .int m_fault, .int m_ended, .int m_overruns, .int m_pictures])), (m_shown, .inr (7, [.ref sb, .ref stb, .int 0, .int 0, .int slk]))] sz)) 1 6 (va_A [(h0, .inr (0, [.int m_dpi, .ref m_tape, .ref m_page, .ref m_sheet, .ref m_fonts, .ref m_macros, .ref m_raster, .ref m_interpreter, .ref m_picture, .ref m_coder, .ref m_reader, .ref m_file, .ref m_shown, .int m_taped, .int m_fault, .int m_ended, .int m_overruns, .int m_pictures])), (m_shown, .inr (7, [.ref sb, .ref stb, .int 0, .int 0, .int slk]))] sz) := by
  refine va_MetW (hh := [(0, 10, 13, 20)]) (cc := b_Law_sheetOf) (maxL := 5) (ret := (some .int)) (by decide) rfl ?_
  intro p e s m args below meth c s₁ B hml hv
  obtain ⟨rfl, hsz, hP, hK, hD0, hF⟩ := hv
  have hx := B.exec
  have hb := B.bytes
  have hr := B.returns
  have hwd : ∀ w ∈ gT, w.before _ s = true := fun w h => atoms_spec (ws := w_Law_sheetOf) B.pre w (List.mem_cons_of_mem _ h)
  have hown : s.vm.findClass R_Law = some m.cls := findClass_of_methodNamed B.named
  have hlocks := B.notSynchronized
  obtain ⟨x9, t9, hxs, hx1, hx2, hx3, hx4⟩ := x_rows B.named B.method (Stand.of_body B).code (atoms_spec (ws := w_Law_sheetOf) B.pre _ List.mem_cons_self)
  dsimp only at hx1 hx2 hx3 hx4
  subst hsz
  have hD := hD0.self (sz := s.heap.size)
  generalize hAe : va_A [(h0, .inr (0, [.int m_dpi, .ref m_tape, .ref m_page, .ref m_sheet, .ref m_fonts, .ref m_macros, .ref m_raster, .ref m_interpreter, .ref m_picture, .ref m_coder, .ref m_reader, .ref m_file, .ref m_shown, .int m_taped, .int m_fault, .int m_ended, .int m_overruns, .int m_pictures])), (m_shown, .inr (7, [.ref sb, .ref stb, .int 0, .int 0, .int slk]))] s.heap.size = A at hD hF ⊢
  have hA : ∀ q : Nat, s.heap.size ≤ q → A q := fun q h => by rw [← hAe]; exact Or.inr h
  have hS : va_S A s.heap s.heap [] := va_S.rf
  have hP : va_P (dC, dI) vcl [(h0, .inr (0, [.int m_dpi, .ref m_tape, .ref m_page, .ref m_sheet, .ref m_fonts, .ref m_macros, .ref m_raster, .ref m_interpreter, .ref m_picture, .ref m_coder, .ref m_reader, .ref m_file, .ref m_shown, .int m_taped, .int m_fault, .int m_ended, .int m_overruns, .int m_pictures])), (m_shown, .inr (7, [.ref sb, .ref stb, .int 0, .int 0, .int slk]))] s.heap := hP
  have hl := lv_entry ([.ref h0, .int pp, .int w, .ref ou]) (n := 5) (Nat.le_of_ble_eq_true rfl)
  rw [lg_entry_eq]
  generalize (lg_sl ([.ref h0, .int pp, .int w, .ref ou]) ++ List.replicate (5 - (lg_sl ([.ref h0, .int pp, .int w, .ref ou])).length) Slot.unset).toArray = ls at hl ⊢
  have hl : lv_has ls 5 [(0, .ref h0), (1, .int pp), (2, .int w), (3, .ref ou)] := hl
  refine lv_aload_n hx hb d_Law_sheetOf_0 rfl (lv_at hl 3 rfl) ?_
  refine lv_iconst (v := 0) hx hb d_Law_sheetOf_1 (by decide) ?_
  refine lv_aload_n hx hb d_Law_sheetOf_2 rfl (lv_at hl 0 rfl) ?_
  refine lv_iload_n hx hb d_Law_sheetOf_3 rfl (lv_at hl 1 rfl) ?_
  refine lv_iload_n hx hb d_Law_sheetOf_4 rfl (lv_at hl 2 rfl) ?_
  have hPc := hP.sub (ws' := [(h0, .inr (0, [.int m_dpi, .ref m_tape, .ref m_page, .ref m_sheet, .ref m_fonts, .ref m_macros, .ref m_raster, .ref m_interpreter, .ref m_picture, .ref m_coder, .ref m_reader, .ref m_file, .ref m_shown, .int m_taped, .int m_fault, .int m_ended, .int m_overruns, .int m_pictures])), (m_shown, .inr (7, [.ref sb, .ref stb, .int 0, .int 0, .int slk]))]) [0, 1] rfl
  have hDc := hD.sub (ws' := [(h0, .inr (0, [.int m_dpi, .ref m_tape, .ref m_page, .ref m_sheet, .ref m_fonts, .ref m_macros, .ref m_raster, .ref m_interpreter, .ref m_picture, .ref m_coder, .ref m_reader, .ref m_file, .ref m_shown, .int m_taped, .int m_fault, .int m_ended, .int m_overruns, .int m_pictures])), (m_shown, .inr (7, [.ref sb, .ref stb, .int 0, .int 0, .int slk]))]) [0, 1] (by decide) rfl
  have hKc := hK.sub (tys' := []) [] rfl
  have hFc := va_free (wc := [(h0, .inr (0, [.int m_dpi, .ref m_tape, .ref m_page, .ref m_sheet, .ref m_fonts, .ref m_macros, .ref m_raster, .ref m_interpreter, .ref m_picture, .ref m_coder, .ref m_reader, .ref m_file, .ref m_shown, .int m_taped, .int m_fault, .int m_ended, .int m_overruns, .int m_pictures])), (m_shown, .inr (7, [.ref sb, .ref stb, .int 0, .int 0, .int slk]))]) hD hS hA [0, 1] rfl
  refine w_callX (n := 2) (As := [.int pp, .int w]) (rest := [.int 0, .ref ou]) (name := "java/lang/IndexOutOfBoundsException") (own := R_Law) hx hb (c_xsheetOf l hlt dC dI tt h0 m_dpi m_tape m_page m_sheet m_fonts m_macros m_raster m_interpreter m_picture m_coder m_reader m_file m_shown m_taped m_fault m_ended m_overruns m_pictures sb stb slk pp w s.heap.size ) rfl hwd (gV gd_Main_sheetOf wd_9_3 wd_9_4 wd_9_5 wd_1_1) rfl rfl ⟨Nat.le_of_ble_eq_true rfl, Nat.le_of_ble_eq_true rfl⟩ (by decide +kernel) rfl hown ⟨fun a U g mk q => by obtain ⟨q0, q1, qP, qK, qD, qF⟩ := q; exact ⟨q0, q1, qP, va_K.moved (u := U) (U := U.calling g mk a) (Vm.Alike.refl U.vm) qK, qD, SF.same (u := U) (U := U.calling g mk a) rfl qF⟩, va_recv hKc hPc (ci := 0) (q0 := 0) rfl rfl, fun U hU hW => ⟨rfl, by rw [hU], by rw [hU]; exact hPc, va_K.moved hW.alike hKc, hDc.weaken (fun _ _ _ _ => trivial), by rw [hU]; exact SF.narrow (SF.moved hW (SF.kept hF (fun a h1 h2 => hS.2.1 a h1 h2))) hFc⟩⟩ (hl.1.trans hml.symm) (lv_room (Nat.le_of_ble_eq_true rfl)) d_Law_sheetOf_5 ⟨Nat.le_of_ble_eq_true rfl, Nat.le_of_ble_eq_true rfl⟩ hxs (by simp [covers, hx1, hx2]) (by rw [hx4]; decide) (by rw [hx4]; exact (hwd _ wd_9_2)) hx3 ?_
  clear hPc hDc hKc hFc
  intro q_1 H1 hz1 hk1
  replace hP := hP.kept (fun k x hx => hk1 x.1 ((hP k x hx).lt))
  replace hS : va_S A s.heap H1 _ := ⟨Nat.le_trans hS.1 hz1, fun q h1 h2 => (hk1 q (Nat.lt_of_lt_of_le h1 hS.1)).trans (hS.2.1 q h1 h2), hS.2.2⟩
  clear hz1 hk1
  generalize H1 = H at hP hS ⊢
  replace hP : va_P (dC, dI) vcl [(h0, .inr (0, [.int m_dpi, .ref m_tape, .ref m_page, .ref m_sheet, .ref m_fonts, .ref m_macros, .ref m_raster, .ref m_interpreter, .ref m_picture, .ref m_coder, .ref m_reader, .ref m_file, .ref m_shown, .int m_taped, .int m_fault, .int m_ended, .int m_overruns, .int m_pictures])), (m_shown, .inr (7, [.ref sb, .ref stb, .int 0, .int 0, .int slk]))] H := hP
  replace hD : va_D A [(h0, .inr (0, [.int m_dpi, .ref m_tape, .ref m_page, .ref m_sheet, .ref m_fonts, .ref m_macros, .ref m_raster, .ref m_interpreter, .ref m_picture, .ref m_coder, .ref m_reader, .ref m_file, .ref m_shown, .int m_taped, .int m_fault, .int m_ended, .int m_overruns, .int m_pictures])), (m_shown, .inr (7, [.ref sb, .ref stb, .int 0, .int 0, .int slk]))] := hD
  refine W.widen (k := 1) (n := 6) (by decide) (by decide) ?_
  refine lv_astore (lv' := [(4, .ref q_1), (0, .ref h0), (1, .int pp), (2, .int w), (3, .ref ou)]) hx hb d_Law_sheetOf_13 hl (by decide) rfl ?_
  clear hl
  intro ls hl
  refine lv_iconst (v := 1) hx hb d_Law_sheetOf_15 (by decide) ?_
  have hP9 := hP.sub (ws' := []) [] rfl
  have hD9 := hD.sub (ws' := []) [] (by decide) rfl
  have hK9 := hK.sub (tys' := []) [] rfl
  exact W.iret (v := 1) hx hb hr (fun t ht hW => ⟨⟨1, (), rfl, (show (1 : Int32) = 1 from (by first | exact trivial | rfl | simp [*])), by rw [ht]; exact hP9, va_K.moved hW.alike hK9, hD9⟩, hS.F ht⟩) hS.2.2 d_Law_sheetOf_16

abbrev rm_c_cell : Room := { frames := 0, cells := 0, slots := 0, locals := 0 }
set_option maxHeartbeats 4000000 in
/-- the law's cell(script, k) -/
theorem c_cell (l : Launch) (b L : Nat) (xs : Nat → Int32) (kv : Int32) (k : Nat) (ek : kv = nI k) (hk : k < 2147483648) (hL : L < 2147483648) : Met l y_Law_cell w_Law_cell rm_c_cell (va_Pc [.ref b, .int kv] (fun U => va_X b L xs U U.heap)) (vp_Si (fun r => r = if k < L then xs k else 0)) 0 0 (fun _ => False) := by
  refine Met.ofW (cc := b_Law_cell) (maxL := 2) (ret := (some .int)) (by decide) rfl ?_
  intro p e s m args below meth c s₁ B hml hv
  obtain ⟨rfl, hX⟩ := hv
  have hx := B.exec
  have hb := B.bytes
  have hr := B.returns
  have hlocks := B.notSynchronized
  have hbl : b < s.heap.size := by
    obtain ⟨scr, h1, -⟩ := hX
    exact (Array.getElem?_eq_some_iff.mp h1).1
  have hS : va_S (fun _ => False) s.heap s.heap [] := va_S.rf
  have hbA : ¬ (fun _ : Nat => False) b := fun h => h
  have hl := lv_entry ([.ref b, .int kv]) (n := 2) (Nat.le_of_ble_eq_true rfl)
  rw [lg_entry_eq]
  generalize (lg_sl ([.ref b, .int kv]) ++ List.replicate (2 - (lg_sl ([.ref b, .int kv])).length) Slot.unset).toArray = ls at hl ⊢
  have hl : lv_has ls 2 [(0, .ref b), (1, .int kv)] := hl
  refine lv_iload_n hx hb d_Law_cell_0 rfl (lv_at hl 1 rfl) ?_
  refine lv_aload_n hx hb d_Law_cell_1 rfl (lv_at hl 0 rfl) ?_
  refine va_slen hx hb hX hbl hbA hS d_Law_cell_2 ?_
  refine lv_icmp_ge (tgt := 12) hx hb d_Law_cell_3 (by decide) (fun c3 => ?_) (fun c3 => ?_)
  · refine lv_iconst (v := 0) hx hb d_Law_cell_12 (by decide) ?_
    have hn : ¬ k < L := fun h => nI_ge (a := k) (b := L) h (by omega) (by rw [← ek]; exact c3)
    exact W.iret (v := 0) hx hb hr (fun t ht hW => ⟨0, rfl, by rw [if_neg hn], ht⟩) (fun q hq => by cases hq) d_Law_cell_13
  · have hn : k < L := by
      rcases Nat.lt_or_ge k L with q | q
      · exact q
      · exact absurd (by rw [ek]; exact nI_le (a := L) (b := k) q (by omega)) c3
    have hc : kv.toNatClampNeg = k := by rw [ek]; exact nI_clamp (by omega)
    refine lv_aload_n hx hb d_Law_cell_6 rfl (lv_at hl 0 rfl) ?_
    refine lv_iload_n hx hb d_Law_cell_7 rfl (lv_at hl 1 rfl) ?_
    refine va_sld hx hb hX hbl hbA hS (by rw [ek]; exact vp_in_nI hn (by omega)) d_Law_cell_8 ?_
    rw [hc]
    refine lv_goto (tgt := 13) hx hb d_Law_cell_9 (by decide) ?_
    exact W.iret (v := xs k) hx hb hr (fun t ht hW => ⟨xs k, rfl, by rw [if_pos hn], ht⟩) (fun q hq => by cases hq) d_Law_cell_13