theorem wd_10_81 : (Jvm.Cond.code ({ cls := "SheetPrinterModel$Lines", name := "<init>", desc := "(I)V" } : Jvm.MethodName) prog_16_method_1_code (2 : Nat) (Option.none : Option Jvm.ClassFile.FieldType)) ∈ gT := gT_in (in_10 _ (List.mem_of_getElem? (i := 81) rfl)) rfl
theorem wd_10_82 : (Jvm.Cond.methodLink "SheetPrinterModel$Lines" (1 : Nat) ({ cls := "java/lang/Object", name := "<init>", desc := "()V" } : Jvm.MethodName)) ∈ gT := gT_in (in_10 _ (List.mem_of_getElem? (i := 82) rfl)) rfl
theorem wd_10_83 : (Jvm.Cond.fieldLink "SheetPrinterModel$Lines" (7 : Nat) "SheetPrinterModel$Lines" "whiteRests" "[I") ∈ gT := gT_in (in_10 _ (List.mem_of_getElem? (i := 83) rfl)) rfl
theorem wd_10_84 : (Jvm.Cond.fieldLink "SheetPrinterModel$Lines" (13 : Nat) "SheetPrinterModel$Lines" "blackRests" "[I") ∈ gT := gT_in (in_10 _ (List.mem_of_getElem? (i := 84) rfl)) rfl
theorem wd_10_85 : (Jvm.Cond.fieldLink "SheetPrinterModel$Lines" (16 : Nat) "SheetPrinterModel$Lines" "whiteBlocks" "[I") ∈ gT := gT_in (in_10 _ (List.mem_of_getElem? (i := 85) rfl)) rfl
theorem wd_10_86 : (Jvm.Cond.fieldLink "SheetPrinterModel$Lines" (19 : Nat) "SheetPrinterModel$Lines" "blackBlocks" "[I") ∈ gT := gT_in (in_10 _ (List.mem_of_getElem? (i := 86) rfl)) rfl
theorem wd_10_87 : (Jvm.Cond.fieldLink "SheetPrinterModel$Lines" (22 : Nat) "SheetPrinterModel$Lines" "blocks" "[I") ∈ gT := gT_in (in_10 _ (List.mem_of_getElem? (i := 87) rfl)) rfl
theorem wd_10_88 : (Jvm.Cond.fieldLink "SheetPrinterModel$Lines" (25 : Nat) "SheetPrinterModel$Lines" "modes" "[I") ∈ gT := gT_in (in_10 _ (List.mem_of_getElem? (i := 88) rfl)) rfl
theorem wd_10_90 : (Jvm.Cond.fieldLink "SheetPrinterModel$Lines" (28 : Nat) "SheetPrinterModel$Lines" "line" "[Z") ∈ gT := gT_in (in_10 _ (List.mem_of_getElem? (i := 90) rfl)) rfl
theorem wd_10_92 : (Jvm.Cond.fieldLink "SheetPrinterModel$Lines" (32 : Nat) "SheetPrinterModel$Lines" "above" "[Z") ∈ gT := gT_in (in_10 _ (List.mem_of_getElem? (i := 92) rfl)) rfl
theorem wd_10_93 : (Jvm.Cond.fieldLink "SheetPrinterModel$Lines" (41 : Nat) "SheetPrinterModel$Lines" "out" "[B") ∈ gT := gT_in (in_10 _ (List.mem_of_getElem? (i := 93) rfl)) rfl
theorem wd_10_105 : (Jvm.Cond.fieldLink "SheetPrinterModel$Lines" (35 : Nat) "SheetPrinterModel$Lines" "readLine" "[Z") ∈ gT := gT_in (in_10 _ (List.mem_of_getElem? (i := 105) rfl)) rfl
theorem wd_10_106 : (Jvm.Cond.fieldLink "SheetPrinterModel$Lines" (38 : Nat) "SheetPrinterModel$Lines" "readAbove" "[Z") ∈ gT := gT_in (in_10 _ (List.mem_of_getElem? (i := 106) rfl)) rfl
theorem wd_10_108 : (Jvm.Cond.laysFinal "SheetPrinterModel$Lines" "SheetPrinterModel$Lines" "whiteRests" "[I") ∈ gT := gT_in (in_10 _ (List.mem_of_getElem? (i := 108) rfl)) rfl
theorem wd_10_110 : (Jvm.Cond.laysFinal "SheetPrinterModel$Lines" "SheetPrinterModel$Lines" "blackRests" "[I") ∈ gT := gT_in (in_10 _ (List.mem_of_getElem? (i := 110) rfl)) rfl
theorem wd_10_112 : (Jvm.Cond.laysFinal "SheetPrinterModel$Lines" "SheetPrinterModel$Lines" "whiteBlocks" "[I") ∈ gT := gT_in (in_10 _ (List.mem_of_getElem? (i := 112) rfl)) rfl
theorem wd_10_114 : (Jvm.Cond.laysFinal "SheetPrinterModel$Lines" "SheetPrinterModel$Lines" "blackBlocks" "[I") ∈ gT := gT_in (in_10 _ (List.mem_of_getElem? (i := 114) rfl)) rfl
theorem wd_10_116 : (Jvm.Cond.laysFinal "SheetPrinterModel$Lines" "SheetPrinterModel$Lines" "blocks" "[I") ∈ gT := gT_in (in_10 _ (List.mem_of_getElem? (i := 116) rfl)) rfl
theorem wd_10_118 : (Jvm.Cond.laysFinal "SheetPrinterModel$Lines" "SheetPrinterModel$Lines" "modes" "[I") ∈ gT := gT_in (in_10 _ (List.mem_of_getElem? (i := 118) rfl)) rfl
theorem wd_10_120 : (Jvm.Cond.lays "SheetPrinterModel$Lines" "SheetPrinterModel$Lines" "width" "I") ∈ gT := gT_in (in_10 _ (List.mem_of_getElem? (i := 120) rfl)) rfl
theorem wd_10_122 : (Jvm.Cond.laysFinal "SheetPrinterModel$Lines" "SheetPrinterModel$Lines" "line" "[Z") ∈ gT := gT_in (in_10 _ (List.mem_of_getElem? (i := 122) rfl)) rfl
theorem wd_10_124 : (Jvm.Cond.laysFinal "SheetPrinterModel$Lines" "SheetPrinterModel$Lines" "above" "[Z") ∈ gT := gT_in (in_10 _ (List.mem_of_getElem? (i := 124) rfl)) rfl
theorem wd_10_126 : (Jvm.Cond.laysFinal "SheetPrinterModel$Lines" "SheetPrinterModel$Lines" "out" "[B") ∈ gT := gT_in (in_10 _ (List.mem_of_getElem? (i := 126) rfl)) rfl
theorem wd_10_128 : (Jvm.Cond.lays "SheetPrinterModel$Lines" "SheetPrinterModel$Lines" "bits" "J") ∈ gT := gT_in (in_10 _ (List.mem_of_getElem? (i := 128) rfl)) rfl
theorem wd_10_130 : (Jvm.Cond.lays "SheetPrinterModel$Lines" "SheetPrinterModel$Lines" "from" "[B") ∈ gT := gT_in (in_10 _ (List.mem_of_getElem? (i := 130) rfl)) rfl
theorem wd_10_132 : (Jvm.Cond.lays "SheetPrinterModel$Lines" "SheetPrinterModel$Lines" "place" "I") ∈ gT := gT_in (in_10 _ (List.mem_of_getElem? (i := 132) rfl)) rfl
theorem wd_10_134 : (Jvm.Cond.lays "SheetPrinterModel$Lines" "SheetPrinterModel$Lines" "bytes" "I") ∈ gT := gT_in (in_10 _ (List.mem_of_getElem? (i := 134) rfl)) rfl
theorem wd_10_136 : (Jvm.Cond.lays "SheetPrinterModel$Lines" "SheetPrinterModel$Lines" "turned" "Z") ∈ gT := gT_in (in_10 _ (List.mem_of_getElem? (i := 136) rfl)) rfl
theorem wd_10_138 : (Jvm.Cond.lays "SheetPrinterModel$Lines" "SheetPrinterModel$Lines" "at" "I") ∈ gT := gT_in (in_10 _ (List.mem_of_getElem? (i := 138) rfl)) rfl
theorem wd_10_140 : (Jvm.Cond.lays "SheetPrinterModel$Lines" "SheetPrinterModel$Lines" "fault" "I") ∈ gT := gT_in (in_10 _ (List.mem_of_getElem? (i := 140) rfl)) rfl
theorem wd_10_142 : (Jvm.Cond.lays "SheetPrinterModel$Lines" "SheetPrinterModel$Lines" "ended" "Z") ∈ gT := gT_in (in_10 _ (List.mem_of_getElem? (i := 142) rfl)) rfl
theorem wd_10_144 : (Jvm.Cond.lays "SheetPrinterModel$Lines" "SheetPrinterModel$Lines" "turns" "Z") ∈ gT := gT_in (in_10 _ (List.mem_of_getElem? (i := 144) rfl)) rfl
theorem wd_10_146 : (Jvm.Cond.laysFinal "SheetPrinterModel$Lines" "SheetPrinterModel$Lines" "readLine" "[Z") ∈ gT := gT_in (in_10 _ (List.mem_of_getElem? (i := 146) rfl)) rfl
theorem wd_10_148 : (Jvm.Cond.laysFinal "SheetPrinterModel$Lines" "SheetPrinterModel$Lines" "readAbove" "[Z") ∈ gT := gT_in (in_10 _ (List.mem_of_getElem? (i := 148) rfl)) rfl
theorem i_mLines : ∀ w ∈ u_ws R_mLines F_mLines 21, w ∈ gT := by
  intro w h
  obtain ⟨k, hk, rfl⟩ := List.mem_map.mp h
  have hk := List.mem_range.mp hk
  match k, hk with
  | 0, _ => exact wd_10_108
  | 1, _ => exact wd_10_110
  | 2, _ => exact wd_10_112
  | 3, _ => exact wd_10_114
  | 4, _ => exact wd_10_116
  | 5, _ => exact wd_10_118
  | 6, _ => exact wd_10_120
  | 7, _ => exact wd_10_122
  | 8, _ => exact wd_10_124
  | 9, _ => exact wd_10_126
  | 10, _ => exact wd_10_128
  | 11, _ => exact wd_10_130
  | 12, _ => exact wd_10_132
  | 13, _ => exact wd_10_134
  | 14, _ => exact wd_10_136
  | 15, _ => exact wd_10_138
  | 16, _ => exact wd_10_140
  | 17, _ => exact wd_10_142
  | 18, _ => exact wd_10_144
  | 19, _ => exact wd_10_146
  | 20, _ => exact wd_10_148
  | k + 21, hk => exact absurd hk (by omega)
abbrev b_mLines_init : ByteArray := prog_16_method_1_code
abbrev y_mLines_init : MethodName := ⟨"SheetPrinterModel$Lines", "<init>", "(I)V"⟩
abbrev w_mLines_init : List Cond := .code y_mLines_init b_mLines_init 2 none :: gT
theorem gd_mLines_init : GoodIn gT w_mLines_init := gW wd_10_81
theorem d_mLines_init_0 : decode b_mLines_init 0 = .ok (.aload_n 0, 1) := by decide +kernel
theorem d_mLines_init_1 : decode b_mLines_init 1 = .ok (.invokespecial 1, 3) := by decide +kernel
theorem d_mLines_init_4 : decode b_mLines_init 4 = .ok (.aload_n 0, 1) := by decide +kernel
theorem d_mLines_init_5 : decode b_mLines_init 5 = .ok (.bipush 64, 2) := by decide +kernel
theorem d_mLines_init_7 : decode b_mLines_init 7 = .ok (.newarray .int, 2) := by decide +kernel
theorem d_mLines_init_9 : decode b_mLines_init 9 = .ok (.dup, 1) := by decide +kernel
theorem d_mLines_init_10 : decode b_mLines_init 10 = .ok (.iconst 0, 1) := by decide +kernel
theorem d_mLines_init_11 : decode b_mLines_init 11 = .ok (.sipush 309, 3) := by decide +kernel
theorem d_mLines_init_14 : decode b_mLines_init 14 = .ok (.iastore, 1) := by decide +kernel
theorem d_mLines_init_15 : decode b_mLines_init 15 = .ok (.dup, 1) := by decide +kernel
theorem d_mLines_init_16 : decode b_mLines_init 16 = .ok (.iconst 1, 1) := by decide +kernel
theorem d_mLines_init_17 : decode b_mLines_init 17 = .ok (.bipush 71, 2) := by decide +kernel
theorem d_mLines_init_19 : decode b_mLines_init 19 = .ok (.iastore, 1) := by decide +kernel
theorem d_mLines_init_20 : decode b_mLines_init 20 = .ok (.dup, 1) := by decide +kernel
theorem d_mLines_init_21 : decode b_mLines_init 21 = .ok (.iconst 2, 1) := by decide +kernel
theorem d_mLines_init_22 : decode b_mLines_init 22 = .ok (.bipush 23, 2) := by decide +kernel
theorem d_mLines_init_24 : decode b_mLines_init 24 = .ok (.iastore, 1) := by decide +kernel
theorem d_mLines_init_25 : decode b_mLines_init 25 = .ok (.dup, 1) := by decide +kernel
theorem d_mLines_init_26 : decode b_mLines_init 26 = .ok (.iconst 3, 1) := by decide +kernel
theorem d_mLines_init_27 : decode b_mLines_init 27 = .ok (.bipush 24, 2) := by decide +kernel
theorem d_mLines_init_29 : decode b_mLines_init 29 = .ok (.iastore, 1) := by decide +kernel
theorem d_mLines_init_30 : decode b_mLines_init 30 = .ok (.dup, 1) := by decide +kernel
theorem d_mLines_init_31 : decode b_mLines_init 31 = .ok (.iconst 4, 1) := by decide +kernel
theorem d_mLines_init_32 : decode b_mLines_init 32 = .ok (.bipush 27, 2) := by decide +kernel
theorem d_mLines_init_34 : decode b_mLines_init 34 = .ok (.iastore, 1) := by decide +kernel
theorem d_mLines_init_35 : decode b_mLines_init 35 = .ok (.dup, 1) := by decide +kernel
theorem d_mLines_init_36 : decode b_mLines_init 36 = .ok (.iconst 5, 1) := by decide +kernel
theorem d_mLines_init_37 : decode b_mLines_init 37 = .ok (.bipush 28, 2) := by decide +kernel
theorem d_mLines_init_39 : decode b_mLines_init 39 = .ok (.iastore, 1) := by decide +kernel
theorem d_mLines_init_40 : decode b_mLines_init 40 = .ok (.dup, 1) := by decide +kernel
theorem d_mLines_init_41 : decode b_mLines_init 41 = .ok (.bipush 6, 2) := by decide +kernel
theorem d_mLines_init_43 : decode b_mLines_init 43 = .ok (.bipush 30, 2) := by decide +kernel
theorem d_mLines_init_45 : decode b_mLines_init 45 = .ok (.iastore, 1) := by decide +kernel
theorem d_mLines_init_46 : decode b_mLines_init 46 = .ok (.dup, 1) := by decide +kernel
theorem d_mLines_init_47 : decode b_mLines_init 47 = .ok (.bipush 7, 2) := by decide +kernel
theorem d_mLines_init_49 : decode b_mLines_init 49 = .ok (.bipush 31, 2) := by decide +kernel
theorem d_mLines_init_51 : decode b_mLines_init 51 = .ok (.iastore, 1) := by decide +kernel
theorem d_mLines_init_52 : decode b_mLines_init 52 = .ok (.dup, 1) := by decide +kernel
theorem d_mLines_init_53 : decode b_mLines_init 53 = .ok (.bipush 8, 2) := by decide +kernel
theorem d_mLines_init_55 : decode b_mLines_init 55 = .ok (.bipush 51, 2) := by decide +kernel
theorem d_mLines_init_57 : decode b_mLines_init 57 = .ok (.iastore, 1) := by decide +kernel
theorem d_mLines_init_58 : decode b_mLines_init 58 = .ok (.dup, 1) := by decide +kernel
theorem d_mLines_init_59 : decode b_mLines_init 59 = .ok (.bipush 9, 2) := by decide +kernel
theorem d_mLines_init_61 : decode b_mLines_init 61 = .ok (.bipush 52, 2) := by decide +kernel
theorem d_mLines_init_63 : decode b_mLines_init 63 = .ok (.iastore, 1) := by decide +kernel
theorem d_mLines_init_64 : decode b_mLines_init 64 = .ok (.dup, 1) := by decide +kernel
theorem d_mLines_init_65 : decode b_mLines_init 65 = .ok (.bipush 10, 2) := by decide +kernel
theorem d_mLines_init_67 : decode b_mLines_init 67 = .ok (.bipush 39, 2) := by decide +kernel
theorem d_mLines_init_69 : decode b_mLines_init 69 = .ok (.iastore, 1) := by decide +kernel
theorem d_mLines_init_70 : decode b_mLines_init 70 = .ok (.dup, 1) := by decide +kernel
theorem d_mLines_init_71 : decode b_mLines_init 71 = .ok (.bipush 11, 2) := by decide +kernel
theorem d_mLines_init_73 : decode b_mLines_init 73 = .ok (.bipush 40, 2) := by decide +kernel
theorem d_mLines_init_75 : decode b_mLines_init 75 = .ok (.iastore, 1) := by decide +kernel
theorem d_mLines_init_76 : decode b_mLines_init 76 = .ok (.dup, 1) := by decide +kernel
theorem d_mLines_init_77 : decode b_mLines_init 77 = .ok (.bipush 12, 2) := by decide +kernel
theorem d_mLines_init_79 : decode b_mLines_init 79 = .ok (.bipush 72, 2) := by decide +kernel
theorem d_mLines_init_81 : decode b_mLines_init 81 = .ok (.iastore, 1) := by decide +kernel
theorem d_mLines_init_82 : decode b_mLines_init 82 = .ok (.dup, 1) := by decide +kernel
theorem d_mLines_init_83 : decode b_mLines_init 83 = .ok (.bipush 13, 2) := by decide +kernel
theorem d_mLines_init_85 : decode b_mLines_init 85 = .ok (.bipush 67, 2) := by decide +kernel
theorem d_mLines_init_87 : decode b_mLines_init 87 = .ok (.iastore, 1) := by decide +kernel
theorem d_mLines_init_88 : decode b_mLines_init 88 = .ok (.dup, 1) := by decide +kernel
theorem d_mLines_init_89 : decode b_mLines_init 89 = .ok (.bipush 14, 2) := by decide +kernel
theorem d_mLines_init_91 : decode b_mLines_init 91 = .ok (.bipush 116, 2) := by decide +kernel
theorem d_mLines_init_93 : decode b_mLines_init 93 = .ok (.iastore, 1) := by decide +kernel
theorem d_mLines_init_94 : decode b_mLines_init 94 = .ok (.dup, 1) := by decide +kernel
theorem d_mLines_init_95 : decode b_mLines_init 95 = .ok (.bipush 15, 2) := by decide +kernel
theorem d_mLines_init_97 : decode b_mLines_init 97 = .ok (.bipush 117, 2) := by decide +kernel
theorem d_mLines_init_99 : decode b_mLines_init 99 = .ok (.iastore, 1) := by decide +kernel
theorem d_mLines_init_100 : decode b_mLines_init 100 = .ok (.dup, 1) := by decide +kernel
theorem d_mLines_init_101 : decode b_mLines_init 101 = .ok (.bipush 16, 2) := by decide +kernel
theorem d_mLines_init_103 : decode b_mLines_init 103 = .ok (.bipush 106, 2) := by decide +kernel
theorem d_mLines_init_105 : decode b_mLines_init 105 = .ok (.iastore, 1) := by decide +kernel
theorem d_mLines_init_106 : decode b_mLines_init 106 = .ok (.dup, 1) := by decide +kernel
theorem d_mLines_init_107 : decode b_mLines_init 107 = .ok (.bipush 17, 2) := by decide +kernel
theorem d_mLines_init_109 : decode b_mLines_init 109 = .ok (.bipush 107, 2) := by decide +kernel
theorem d_mLines_init_111 : decode b_mLines_init 111 = .ok (.iastore, 1) := by decide +kernel
theorem d_mLines_init_112 : decode b_mLines_init 112 = .ok (.dup, 1) := by decide +kernel
theorem d_mLines_init_113 : decode b_mLines_init 113 = .ok (.bipush 18, 2) := by decide +kernel
theorem d_mLines_init_115 : decode b_mLines_init 115 = .ok (.sipush 167, 3) := by decide +kernel
theorem d_mLines_init_118 : decode b_mLines_init 118 = .ok (.iastore, 1) := by decide +kernel
theorem d_mLines_init_119 : decode b_mLines_init 119 = .ok (.dup, 1) := by decide +kernel
theorem d_mLines_init_120 : decode b_mLines_init 120 = .ok (.bipush 19, 2) := by decide +kernel
theorem d_mLines_init_122 : decode b_mLines_init 122 = .ok (.sipush 140, 3) := by decide +kernel
theorem d_mLines_init_125 : decode b_mLines_init 125 = .ok (.iastore, 1) := by decide +kernel
theorem d_mLines_init_126 : decode b_mLines_init 126 = .ok (.dup, 1) := by decide +kernel
theorem d_mLines_init_127 : decode b_mLines_init 127 = .ok (.bipush 20, 2) := by decide +kernel
theorem d_mLines_init_129 : decode b_mLines_init 129 = .ok (.sipush 136, 3) := by decide +kernel
theorem d_mLines_init_132 : decode b_mLines_init 132 = .ok (.iastore, 1) := by decide +kernel
theorem d_mLines_init_133 : decode b_mLines_init 133 = .ok (.dup, 1) := by decide +kernel
theorem d_mLines_init_134 : decode b_mLines_init 134 = .ok (.bipush 21, 2) := by decide +kernel
theorem d_mLines_init_136 : decode b_mLines_init 136 = .ok (.sipush 151, 3) := by decide +kernel
theorem d_mLines_init_139 : decode b_mLines_init 139 = .ok (.iastore, 1) := by decide +kernel
theorem d_mLines_init_140 : decode b_mLines_init 140 = .ok (.dup, 1) := by decide +kernel
theorem d_mLines_init_141 : decode b_mLines_init 141 = .ok (.bipush 22, 2) := by decide +kernel
theorem d_mLines_init_143 : decode b_mLines_init 143 = .ok (.sipush 131, 3) := by decide +kernel
theorem d_mLines_init_146 : decode b_mLines_init 146 = .ok (.iastore, 1) := by decide +kernel
theorem d_mLines_init_147 : decode b_mLines_init 147 = .ok (.dup, 1) := by decide +kernel
theorem d_mLines_init_148 : decode b_mLines_init 148 = .ok (.bipush 23, 2) := by decide +kernel
theorem d_mLines_init_150 : decode b_mLines_init 150 = .ok (.sipush 132, 3) := by decide +kernel
theorem d_mLines_init_153 : decode b_mLines_init 153 = .ok (.iastore, 1) := by decide +kernel
theorem d_mLines_init_154 : decode b_mLines_init 154 = .ok (.dup, 1) := by decide +kernel
theorem d_mLines_init_155 : decode b_mLines_init 155 = .ok (.bipush 24, 2) := by decide +kernel
theorem d_mLines_init_157 : decode b_mLines_init 157 = .ok (.sipush 168, 3) := by decide +kernel
theorem d_mLines_init_160 : decode b_mLines_init 160 = .ok (.iastore, 1) := by decide +kernel
theorem d_mLines_init_161 : decode b_mLines_init 161 = .ok (.dup, 1) := by decide +kernel
theorem d_mLines_init_162 : decode b_mLines_init 162 = .ok (.bipush 25, 2) := by decide +kernel
theorem d_mLines_init_164 : decode b_mLines_init 164 = .ok (.sipush 171, 3) := by decide +kernel
theorem d_mLines_init_167 : decode b_mLines_init 167 = .ok (.iastore, 1) := by decide +kernel
theorem d_mLines_init_168 : decode b_mLines_init 168 = .ok (.dup, 1) := by decide +kernel
theorem d_mLines_init_169 : decode b_mLines_init 169 = .ok (.bipush 26, 2) := by decide +kernel
theorem d_mLines_init_171 : decode b_mLines_init 171 = .ok (.sipush 147, 3) := by decide +kernel
theorem d_mLines_init_174 : decode b_mLines_init 174 = .ok (.iastore, 1) := by decide +kernel
theorem d_mLines_init_175 : decode b_mLines_init 175 = .ok (.dup, 1) := by decide +kernel
theorem d_mLines_init_176 : decode b_mLines_init 176 = .ok (.bipush 27, 2) := by decide +kernel
theorem d_mLines_init_178 : decode b_mLines_init 178 = .ok (.sipush 164, 3) := by decide +kernel
theorem d_mLines_init_181 : decode b_mLines_init 181 = .ok (.iastore, 1) := by decide +kernel
theorem d_mLines_init_182 : decode b_mLines_init 182 = .ok (.dup, 1) := by decide +kernel
theorem d_mLines_init_183 : decode b_mLines_init 183 = .ok (.bipush 28, 2) := by decide +kernel
theorem d_mLines_init_185 : decode b_mLines_init 185 = .ok (.sipush 152, 3) := by decide +kernel
theorem d_mLines_init_188 : decode b_mLines_init 188 = .ok (.iastore, 1) := by decide +kernel
theorem d_mLines_init_189 : decode b_mLines_init 189 = .ok (.dup, 1) := by decide +kernel
theorem d_mLines_init_190 : decode b_mLines_init 190 = .ok (.bipush 29, 2) := by decide +kernel
theorem d_mLines_init_192 : decode b_mLines_init 192 = .ok (.sipush 258, 3) := by decide +kernel
theorem d_mLines_init_195 : decode b_mLines_init 195 = .ok (.iastore, 1) := by decide +kernel
theorem d_mLines_init_196 : decode b_mLines_init 196 = .ok (.dup, 1) := by decide +kernel
theorem d_mLines_init_197 : decode b_mLines_init 197 = .ok (.bipush 30, 2) := by decide +kernel
theorem d_mLines_init_199 : decode b_mLines_init 199 = .ok (.sipush 259, 3) := by decide +kernel
theorem d_mLines_init_202 : decode b_mLines_init 202 = .ok (.iastore, 1) := by decide +kernel
theorem d_mLines_init_203 : decode b_mLines_init 203 = .ok (.dup, 1) := by decide +kernel
theorem d_mLines_init_204 : decode b_mLines_init 204 = .ok (.bipush 31, 2) := by decide +kernel
theorem d_mLines_init_206 : decode b_mLines_init 206 = .ok (.sipush 282, 3) := by decide +kernel
theorem d_mLines_init_209 : decode b_mLines_init 209 = .ok (.iastore, 1) := by decide +kernel
theorem d_mLines_init_210 : decode b_mLines_init 210 = .ok (.dup, 1) := by decide +kernel
theorem d_mLines_init_211 : decode b_mLines_init 211 = .ok (.bipush 32, 2) := by decide +kernel
theorem d_mLines_init_213 : decode b_mLines_init 213 = .ok (.sipush 283, 3) := by decide +kernel
theorem d_mLines_init_216 : decode b_mLines_init 216 = .ok (.iastore, 1) := by decide +kernel
theorem d_mLines_init_217 : decode b_mLines_init 217 = .ok (.dup, 1) := by decide +kernel
theorem d_mLines_init_218 : decode b_mLines_init 218 = .ok (.bipush 33, 2) := by decide +kernel
theorem d_mLines_init_220 : decode b_mLines_init 220 = .ok (.sipush 274, 3) := by decide +kernel
theorem d_mLines_init_223 : decode b_mLines_init 223 = .ok (.iastore, 1) := by decide +kernel
theorem d_mLines_init_224 : decode b_mLines_init 224 = .ok (.dup, 1) := by decide +kernel
theorem d_mLines_init_225 : decode b_mLines_init 225 = .ok (.bipush 34, 2) := by decide +kernel
theorem d_mLines_init_227 : decode b_mLines_init 227 = .ok (.sipush 275, 3) := by decide +kernel
theorem d_mLines_init_230 : decode b_mLines_init 230 = .ok (.iastore, 1) := by decide +kernel
theorem d_mLines_init_231 : decode b_mLines_init 231 = .ok (.dup, 1) := by decide +kernel
theorem d_mLines_init_232 : decode b_mLines_init 232 = .ok (.bipush 35, 2) := by decide +kernel
theorem d_mLines_init_234 : decode b_mLines_init 234 = .ok (.sipush 276, 3) := by decide +kernel
theorem d_mLines_init_237 : decode b_mLines_init 237 = .ok (.iastore, 1) := by decide +kernel
theorem d_mLines_init_238 : decode b_mLines_init 238 = .ok (.dup, 1) := by decide +kernel
theorem d_mLines_init_239 : decode b_mLines_init 239 = .ok (.bipush 36, 2) := by decide +kernel
theorem d_mLines_init_241 : decode b_mLines_init 241 = .ok (.sipush 277, 3) := by decide +kernel
theorem d_mLines_init_244 : decode b_mLines_init 244 = .ok (.iastore, 1) := by decide +kernel
theorem d_mLines_init_245 : decode b_mLines_init 245 = .ok (.dup, 1) := by decide +kernel
theorem d_mLines_init_246 : decode b_mLines_init 246 = .ok (.bipush 37, 2) := by decide +kernel
theorem d_mLines_init_248 : decode b_mLines_init 248 = .ok (.sipush 278, 3) := by decide +kernel
theorem d_mLines_init_251 : decode b_mLines_init 251 = .ok (.iastore, 1) := by decide +kernel
theorem d_mLines_init_252 : decode b_mLines_init 252 = .ok (.dup, 1) := by decide +kernel
theorem d_mLines_init_253 : decode b_mLines_init 253 = .ok (.bipush 38, 2) := by decide +kernel
theorem d_mLines_init_255 : decode b_mLines_init 255 = .ok (.sipush 279, 3) := by decide +kernel
theorem d_mLines_init_258 : decode b_mLines_init 258 = .ok (.iastore, 1) := by decide +kernel
theorem d_mLines_init_259 : decode b_mLines_init 259 = .ok (.dup, 1) := by decide +kernel
theorem d_mLines_init_260 : decode b_mLines_init 260 = .ok (.bipush 39, 2) := by decide +kernel
theorem d_mLines_init_262 : decode b_mLines_init 262 = .ok (.sipush 296, 3) := by decide +kernel
theorem d_mLines_init_265 : decode b_mLines_init 265 = .ok (.iastore, 1) := by decide +kernel
theorem d_mLines_init_266 : decode b_mLines_init 266 = .ok (.dup, 1) := by decide +kernel
theorem d_mLines_init_267 : decode b_mLines_init 267 = .ok (.bipush 40, 2) := by decide +kernel
theorem d_mLines_init_269 : decode b_mLines_init 269 = .ok (.sipush 297, 3) := by decide +kernel
theorem d_mLines_init_272 : decode b_mLines_init 272 = .ok (.iastore, 1) := by decide +kernel
theorem d_mLines_init_273 : decode b_mLines_init 273 = .ok (.dup, 1) := by decide +kernel
theorem d_mLines_init_274 : decode b_mLines_init 274 = .ok (.bipush 41, 2) := by decide +kernel
theorem d_mLines_init_276 : decode b_mLines_init 276 = .ok (.sipush 298, 3) := by decide +kernel
theorem d_mLines_init_279 : decode b_mLines_init 279 = .ok (.iastore, 1) := by decide +kernel
theorem d_mLines_init_280 : decode b_mLines_init 280 = .ok (.dup, 1) := by decide +kernel
theorem d_mLines_init_281 : decode b_mLines_init 281 = .ok (.bipush 42, 2) := by decide +kernel
theorem d_mLines_init_283 : decode b_mLines_init 283 = .ok (.sipush 299, 3) := by decide +kernel
theorem d_mLines_init_286 : decode b_mLines_init 286 = .ok (.iastore, 1) := by decide +kernel
theorem d_mLines_init_287 : decode b_mLines_init 287 = .ok (.dup, 1) := by decide +kernel
theorem d_mLines_init_288 : decode b_mLines_init 288 = .ok (.bipush 43, 2) := by decide +kernel
theorem d_mLines_init_290 : decode b_mLines_init 290 = .ok (.sipush 300, 3) := by decide +kernel
theorem d_mLines_init_293 : decode b_mLines_init 293 = .ok (.iastore, 1) := by decide +kernel
theorem d_mLines_init_294 : decode b_mLines_init 294 = .ok (.dup, 1) := by decide +kernel
theorem d_mLines_init_295 : decode b_mLines_init 295 = .ok (.bipush 44, 2) := by decide +kernel
theorem d_mLines_init_297 : decode b_mLines_init 297 = .ok (.sipush 301, 3) := by decide +kernel
theorem d_mLines_init_300 : decode b_mLines_init 300 = .ok (.iastore, 1) := by decide +kernel
theorem d_mLines_init_301 : decode b_mLines_init 301 = .ok (.dup, 1) := by decide +kernel
theorem d_mLines_init_302 : decode b_mLines_init 302 = .ok (.bipush 45, 2) := by decide +kernel
theorem d_mLines_init_304 : decode b_mLines_init 304 = .ok (.sipush 260, 3) := by decide +kernel
theorem d_mLines_init_307 : decode b_mLines_init 307 = .ok (.iastore, 1) := by decide +kernel
theorem d_mLines_init_308 : decode b_mLines_init 308 = .ok (.dup, 1) := by decide +kernel
theorem d_mLines_init_309 : decode b_mLines_init 309 = .ok (.bipush 46, 2) := by decide +kernel
theorem d_mLines_init_311 : decode b_mLines_init 311 = .ok (.sipush 261, 3) := by decide +kernel
theorem d_mLines_init_314 : decode b_mLines_init 314 = .ok (.iastore, 1) := by decide +kernel
theorem d_mLines_init_315 : decode b_mLines_init 315 = .ok (.dup, 1) := by decide +kernel
theorem d_mLines_init_316 : decode b_mLines_init 316 = .ok (.bipush 47, 2) := by decide +kernel
theorem d_mLines_init_318 : decode b_mLines_init 318 = .ok (.sipush 266, 3) := by decide +kernel
theorem d_mLines_init_321 : decode b_mLines_init 321 = .ok (.iastore, 1) := by decide +kernel
theorem d_mLines_init_322 : decode b_mLines_init 322 = .ok (.dup, 1) := by decide +kernel
theorem d_mLines_init_323 : decode b_mLines_init 323 = .ok (.bipush 48, 2) := by decide +kernel
theorem d_mLines_init_325 : decode b_mLines_init 325 = .ok (.sipush 267, 3) := by decide +kernel
theorem d_mLines_init_328 : decode b_mLines_init 328 = .ok (.iastore, 1) := by decide +kernel
theorem d_mLines_init_329 : decode b_mLines_init 329 = .ok (.dup, 1) := by decide +kernel
theorem d_mLines_init_330 : decode b_mLines_init 330 = .ok (.bipush 49, 2) := by decide +kernel
theorem d_mLines_init_332 : decode b_mLines_init 332 = .ok (.sipush 338, 3) := by decide +kernel
theorem d_mLines_init_335 : decode b_mLines_init 335 = .ok (.iastore, 1) := by decide +kernel
theorem d_mLines_init_336 : decode b_mLines_init 336 = .ok (.dup, 1) := by decide +kernel
theorem d_mLines_init_337 : decode b_mLines_init 337 = .ok (.bipush 50, 2) := by decide +kernel
theorem d_mLines_init_339 : decode b_mLines_init 339 = .ok (.sipush 339, 3) := by decide +kernel
theorem d_mLines_init_342 : decode b_mLines_init 342 = .ok (.iastore, 1) := by decide +kernel
theorem d_mLines_init_343 : decode b_mLines_init 343 = .ok (.dup, 1) := by decide +kernel
theorem d_mLines_init_344 : decode b_mLines_init 344 = .ok (.bipush 51, 2) := by decide +kernel
theorem d_mLines_init_346 : decode b_mLines_init 346 = .ok (.sipush 340, 3) := by decide +kernel
theorem d_mLines_init_349 : decode b_mLines_init 349 = .ok (.iastore, 1) := by decide +kernel
theorem d_mLines_init_350 : decode b_mLines_init 350 = .ok (.dup, 1) := by decide +kernel
theorem d_mLines_init_351 : decode b_mLines_init 351 = .ok (.bipush 52, 2) := by decide +kernel
theorem d_mLines_init_353 : decode b_mLines_init 353 = .ok (.sipush 341, 3) := by decide +kernel
theorem d_mLines_init_356 : decode b_mLines_init 356 = .ok (.iastore, 1) := by decide +kernel
theorem d_mLines_init_357 : decode b_mLines_init 357 = .ok (.dup, 1) := by decide +kernel
theorem d_mLines_init_358 : decode b_mLines_init 358 = .ok (.bipush 53, 2) := by decide +kernel
theorem d_mLines_init_360 : decode b_mLines_init 360 = .ok (.sipush 292, 3) := by decide +kernel
theorem d_mLines_init_363 : decode b_mLines_init 363 = .ok (.iastore, 1) := by decide +kernel
theorem d_mLines_init_364 : decode b_mLines_init 364 = .ok (.dup, 1) := by decide +kernel
theorem d_mLines_init_365 : decode b_mLines_init 365 = .ok (.bipush 54, 2) := by decide +kernel
theorem d_mLines_init_367 : decode b_mLines_init 367 = .ok (.sipush 293, 3) := by decide +kernel
theorem d_mLines_init_370 : decode b_mLines_init 370 = .ok (.iastore, 1) := by decide +kernel
theorem d_mLines_init_371 : decode b_mLines_init 371 = .ok (.dup, 1) := by decide +kernel
theorem d_mLines_init_372 : decode b_mLines_init 372 = .ok (.bipush 55, 2) := by decide +kernel
theorem d_mLines_init_374 : decode b_mLines_init 374 = .ok (.sipush 344, 3) := by decide +kernel
theorem d_mLines_init_377 : decode b_mLines_init 377 = .ok (.iastore, 1) := by decide +kernel
theorem d_mLines_init_378 : decode b_mLines_init 378 = .ok (.dup, 1) := by decide +kernel
theorem d_mLines_init_379 : decode b_mLines_init 379 = .ok (.bipush 56, 2) := by decide +kernel
theorem d_mLines_init_381 : decode b_mLines_init 381 = .ok (.sipush 345, 3) := by decide +kernel
theorem d_mLines_init_384 : decode b_mLines_init 384 = .ok (.iastore, 1) := by decide +kernel
theorem d_mLines_init_385 : decode b_mLines_init 385 = .ok (.dup, 1) := by decide +kernel
theorem d_mLines_init_386 : decode b_mLines_init 386 = .ok (.bipush 57, 2) := by decide +kernel
theorem d_mLines_init_388 : decode b_mLines_init 388 = .ok (.sipush 346, 3) := by decide +kernel
theorem d_mLines_init_391 : decode b_mLines_init 391 = .ok (.iastore, 1) := by decide +kernel
theorem d_mLines_init_392 : decode b_mLines_init 392 = .ok (.dup, 1) := by decide +kernel
theorem d_mLines_init_393 : decode b_mLines_init 393 = .ok (.bipush 58, 2) := by decide +kernel
theorem d_mLines_init_395 : decode b_mLines_init 395 = .ok (.sipush 347, 3) := by decide +kernel
theorem d_mLines_init_398 : decode b_mLines_init 398 = .ok (.iastore, 1) := by decide +kernel
theorem d_mLines_init_399 : decode b_mLines_init 399 = .ok (.dup, 1) := by decide +kernel
theorem d_mLines_init_400 : decode b_mLines_init 400 = .ok (.bipush 59, 2) := by decide +kernel
theorem d_mLines_init_402 : decode b_mLines_init 402 = .ok (.sipush 330, 3) := by decide +kernel
theorem d_mLines_init_405 : decode b_mLines_init 405 = .ok (.iastore, 1) := by decide +kernel
theorem d_mLines_init_406 : decode b_mLines_init 406 = .ok (.dup, 1) := by decide +kernel
theorem d_mLines_init_407 : decode b_mLines_init 407 = .ok (.bipush 60, 2) := by decide +kernel
theorem d_mLines_init_409 : decode b_mLines_init 409 = .ok (.sipush 331, 3) := by decide +kernel
theorem d_mLines_init_412 : decode b_mLines_init 412 = .ok (.iastore, 1) := by decide +kernel
theorem d_mLines_init_413 : decode b_mLines_init 413 = .ok (.dup, 1) := by decide +kernel
theorem d_mLines_init_414 : decode b_mLines_init 414 = .ok (.bipush 61, 2) := by decide +kernel
theorem d_mLines_init_416 : decode b_mLines_init 416 = .ok (.sipush 306, 3) := by decide +kernel
theorem d_mLines_init_419 : decode b_mLines_init 419 = .ok (.iastore, 1) := by decide +kernel
theorem d_mLines_init_420 : decode b_mLines_init 420 = .ok (.dup, 1) := by decide +kernel
theorem d_mLines_init_421 : decode b_mLines_init 421 = .ok (.bipush 62, 2) := by decide +kernel
theorem d_mLines_init_423 : decode b_mLines_init 423 = .ok (.sipush 307, 3) := by decide +kernel
theorem d_mLines_init_426 : decode b_mLines_init 426 = .ok (.iastore, 1) := by decide +kernel
theorem d_mLines_init_427 : decode b_mLines_init 427 = .ok (.dup, 1) := by decide +kernel
theorem d_mLines_init_428 : decode b_mLines_init 428 = .ok (.bipush 63, 2) := by decide +kernel
theorem d_mLines_init_430 : decode b_mLines_init 430 = .ok (.sipush 308, 3) := by decide +kernel
theorem d_mLines_init_433 : decode b_mLines_init 433 = .ok (.iastore, 1) := by decide +kernel
theorem d_mLines_init_434 : decode b_mLines_init 434 = .ok (.putfield 7, 3) := by decide +kernel
theorem d_mLines_init_437 : decode b_mLines_init 437 = .ok (.aload_n 0, 1) := by decide +kernel
theorem d_mLines_init_438 : decode b_mLines_init 438 = .ok (.bipush 64, 2) := by decide +kernel
theorem d_mLines_init_440 : decode b_mLines_init 440 = .ok (.newarray .int, 2) := by decide +kernel
theorem d_mLines_init_442 : decode b_mLines_init 442 = .ok (.dup, 1) := by decide +kernel
theorem d_mLines_init_443 : decode b_mLines_init 443 = .ok (.iconst 0, 1) := by decide +kernel
theorem d_mLines_init_444 : decode b_mLines_init 444 = .ok (.sipush 1079, 3) := by decide +kernel
theorem d_mLines_init_447 : decode b_mLines_init 447 = .ok (.iastore, 1) := by decide +kernel
theorem d_mLines_init_448 : decode b_mLines_init 448 = .ok (.dup, 1) := by decide +kernel
theorem d_mLines_init_449 : decode b_mLines_init 449 = .ok (.iconst 1, 1) := by decide +kernel
theorem d_mLines_init_450 : decode b_mLines_init 450 = .ok (.bipush 10, 2) := by decide +kernel
theorem d_mLines_init_452 : decode b_mLines_init 452 = .ok (.iastore, 1) := by decide +kernel
theorem d_mLines_init_453 : decode b_mLines_init 453 = .ok (.dup, 1) := by decide +kernel
theorem d_mLines_init_454 : decode b_mLines_init 454 = .ok (.iconst 2, 1) := by decide +kernel
theorem d_mLines_init_455 : decode b_mLines_init 455 = .ok (.bipush 7, 2) := by decide +kernel
theorem d_mLines_init_457 : decode b_mLines_init 457 = .ok (.iastore, 1) := by decide +kernel
theorem d_mLines_init_458 : decode b_mLines_init 458 = .ok (.dup, 1) := by decide +kernel
theorem d_mLines_init_459 : decode b_mLines_init 459 = .ok (.iconst 3, 1) := by decide +kernel
theorem d_mLines_init_460 : decode b_mLines_init 460 = .ok (.bipush 6, 2) := by decide +kernel
theorem d_mLines_init_462 : decode b_mLines_init 462 = .ok (.iastore, 1) := by decide +kernel
theorem d_mLines_init_463 : decode b_mLines_init 463 = .ok (.dup, 1) := by decide +kernel
theorem d_mLines_init_464 : decode b_mLines_init 464 = .ok (.iconst 4, 1) := by decide +kernel
theorem d_mLines_init_465 : decode b_mLines_init 465 = .ok (.bipush 11, 2) := by decide +kernel
theorem d_mLines_init_467 : decode b_mLines_init 467 = .ok (.iastore, 1) := by decide +kernel
theorem d_mLines_init_468 : decode b_mLines_init 468 = .ok (.dup, 1) := by decide +kernel
theorem d_mLines_init_469 : decode b_mLines_init 469 = .ok (.iconst 5, 1) := by decide +kernel
theorem d_mLines_init_470 : decode b_mLines_init 470 = .ok (.bipush 19, 2) := by decide +kernel
theorem d_mLines_init_472 : decode b_mLines_init 472 = .ok (.iastore, 1) := by decide +kernel
theorem d_mLines_init_473 : decode b_mLines_init 473 = .ok (.dup, 1) := by decide +kernel
theorem d_mLines_init_474 : decode b_mLines_init 474 = .ok (.bipush 6, 2) := by decide +kernel
theorem d_mLines_init_476 : decode b_mLines_init 476 = .ok (.bipush 18, 2) := by decide +kernel
theorem d_mLines_init_478 : decode b_mLines_init 478 = .ok (.iastore, 1) := by decide +kernel
theorem d_mLines_init_479 : decode b_mLines_init 479 = .ok (.dup, 1) := by decide +kernel
theorem d_mLines_init_480 : decode b_mLines_init 480 = .ok (.bipush 7, 2) := by decide +kernel
theorem d_mLines_init_482 : decode b_mLines_init 482 = .ok (.bipush 35, 2) := by decide +kernel
theorem d_mLines_init_484 : decode b_mLines_init 484 = .ok (.iastore, 1) := by decide +kernel
theorem d_mLines_init_485 : decode b_mLines_init 485 = .ok (.dup, 1) := by decide +kernel
theorem d_mLines_init_486 : decode b_mLines_init 486 = .ok (.bipush 8, 2) := by decide +kernel
theorem d_mLines_init_488 : decode b_mLines_init 488 = .ok (.bipush 69, 2) := by decide +kernel
theorem d_mLines_init_490 : decode b_mLines_init 490 = .ok (.iastore, 1) := by decide +kernel
theorem d_mLines_init_491 : decode b_mLines_init 491 = .ok (.dup, 1) := by decide +kernel
theorem d_mLines_init_492 : decode b_mLines_init 492 = .ok (.bipush 9, 2) := by decide +kernel
theorem d_mLines_init_494 : decode b_mLines_init 494 = .ok (.bipush 68, 2) := by decide +kernel
theorem d_mLines_init_496 : decode b_mLines_init 496 = .ok (.iastore, 1) := by decide +kernel
theorem d_mLines_init_497 : decode b_mLines_init 497 = .ok (.dup, 1) := by decide +kernel
theorem d_mLines_init_498 : decode b_mLines_init 498 = .ok (.bipush 10, 2) := by decide +kernel
theorem d_mLines_init_500 : decode b_mLines_init 500 = .ok (.sipush 132, 3) := by decide +kernel
theorem d_mLines_init_503 : decode b_mLines_init 503 = .ok (.iastore, 1) := by decide +kernel
theorem d_mLines_init_504 : decode b_mLines_init 504 = .ok (.dup, 1) := by decide +kernel
theorem d_mLines_init_505 : decode b_mLines_init 505 = .ok (.bipush 11, 2) := by decide +kernel
theorem d_mLines_init_507 : decode b_mLines_init 507 = .ok (.sipush 133, 3) := by decide +kernel
theorem d_mLines_init_510 : decode b_mLines_init 510 = .ok (.iastore, 1) := by decide +kernel
theorem d_mLines_init_511 : decode b_mLines_init 511 = .ok (.dup, 1) := by decide +kernel
theorem d_mLines_init_512 : decode b_mLines_init 512 = .ok (.bipush 12, 2) := by decide +kernel
theorem d_mLines_init_514 : decode b_mLines_init 514 = .ok (.sipush 135, 3) := by decide +kernel
theorem d_mLines_init_517 : decode b_mLines_init 517 = .ok (.iastore, 1) := by decide +kernel
theorem d_mLines_init_518 : decode b_mLines_init 518 = .ok (.dup, 1) := by decide +kernel
theorem d_mLines_init_519 : decode b_mLines_init 519 = .ok (.bipush 13, 2) := by decide +kernel
theorem d_mLines_init_521 : decode b_mLines_init 521 = .ok (.sipush 260, 3) := by decide +kernel
theorem d_mLines_init_524 : decode b_mLines_init 524 = .ok (.iastore, 1) := by decide +kernel
theorem d_mLines_init_525 : decode b_mLines_init 525 = .ok (.dup, 1) := by decide +kernel
theorem d_mLines_init_526 : decode b_mLines_init 526 = .ok (.bipush 14, 2) := by decide +kernel
theorem d_mLines_init_528 : decode b_mLines_init 528 = .ok (.sipush 263, 3) := by decide +kernel
theorem d_mLines_init_531 : decode b_mLines_init 531 = .ok (.iastore, 1) := by decide +kernel
theorem d_mLines_init_532 : decode b_mLines_init 532 = .ok (.dup, 1) := by decide +kernel
theorem d_mLines_init_533 : decode b_mLines_init 533 = .ok (.bipush 15, 2) := by decide +kernel
theorem d_mLines_init_535 : decode b_mLines_init 535 = .ok (.sipush 536, 3) := by decide +kernel
theorem d_mLines_init_538 : decode b_mLines_init 538 = .ok (.iastore, 1) := by decide +kernel
theorem d_mLines_init_539 : decode b_mLines_init 539 = .ok (.dup, 1) := by decide +kernel
theorem d_mLines_init_540 : decode b_mLines_init 540 = .ok (.bipush 16, 2) := by decide +kernel
theorem d_mLines_init_542 : decode b_mLines_init 542 = .ok (.sipush 1047, 3) := by decide +kernel
theorem d_mLines_init_545 : decode b_mLines_init 545 = .ok (.iastore, 1) := by decide +kernel
theorem d_mLines_init_546 : decode b_mLines_init 546 = .ok (.dup, 1) := by decide +kernel
theorem d_mLines_init_547 : decode b_mLines_init 547 = .ok (.bipush 17, 2) := by decide +kernel
theorem d_mLines_init_549 : decode b_mLines_init 549 = .ok (.sipush 1048, 3) := by decide +kernel
theorem d_mLines_init_552 : decode b_mLines_init 552 = .ok (.iastore, 1) := by decide +kernel
theorem d_mLines_init_553 : decode b_mLines_init 553 = .ok (.dup, 1) := by decide +kernel
theorem d_mLines_init_554 : decode b_mLines_init 554 = .ok (.bipush 18, 2) := by decide +kernel
theorem d_mLines_init_556 : decode b_mLines_init 556 = .ok (.sipush 1032, 3) := by decide +kernel
theorem d_mLines_init_559 : decode b_mLines_init 559 = .ok (.iastore, 1) := by decide +kernel
theorem d_mLines_init_560 : decode b_mLines_init 560 = .ok (.dup, 1) := by decide +kernel
theorem d_mLines_init_561 : decode b_mLines_init 561 = .ok (.bipush 19, 2) := by decide +kernel
theorem d_mLines_init_563 : decode b_mLines_init 563 = .ok (.sipush 2151, 3) := by decide +kernel
theorem d_mLines_init_566 : decode b_mLines_init 566 = .ok (.iastore, 1) := by decide +kernel
theorem d_mLines_init_567 : decode b_mLines_init 567 = .ok (.dup, 1) := by decide +kernel
theorem d_mLines_init_568 : decode b_mLines_init 568 = .ok (.bipush 20, 2) := by decide +kernel
theorem d_mLines_init_570 : decode b_mLines_init 570 = .ok (.sipush 2152, 3) := by decide +kernel
theorem d_mLines_init_573 : decode b_mLines_init 573 = .ok (.iastore, 1) := by decide +kernel
theorem d_mLines_init_574 : decode b_mLines_init 574 = .ok (.dup, 1) := by decide +kernel
theorem d_mLines_init_575 : decode b_mLines_init 575 = .ok (.bipush 21, 2) := by decide +kernel
theorem d_mLines_init_577 : decode b_mLines_init 577 = .ok (.sipush 2156, 3) := by decide +kernel
theorem d_mLines_init_580 : decode b_mLines_init 580 = .ok (.iastore, 1) := by decide +kernel
theorem d_mLines_init_581 : decode b_mLines_init 581 = .ok (.dup, 1) := by decide +kernel
theorem d_mLines_init_582 : decode b_mLines_init 582 = .ok (.bipush 22, 2) := by decide +kernel
theorem d_mLines_init_584 : decode b_mLines_init 584 = .ok (.sipush 2103, 3) := by decide +kernel
theorem d_mLines_init_587 : decode b_mLines_init 587 = .ok (.iastore, 1) := by decide +kernel
theorem d_mLines_init_588 : decode b_mLines_init 588 = .ok (.dup, 1) := by decide +kernel
theorem d_mLines_init_589 : decode b_mLines_init 589 = .ok (.bipush 23, 2) := by decide +kernel
theorem d_mLines_init_591 : decode b_mLines_init 591 = .ok (.sipush 2088, 3) := by decide +kernel
theorem d_mLines_init_594 : decode b_mLines_init 594 = .ok (.iastore, 1) := by decide +kernel
theorem d_mLines_init_595 : decode b_mLines_init 595 = .ok (.dup, 1) := by decide +kernel
theorem d_mLines_init_596 : decode b_mLines_init 596 = .ok (.bipush 24, 2) := by decide +kernel
theorem d_mLines_init_598 : decode b_mLines_init 598 = .ok (.sipush 2071, 3) := by decide +kernel
theorem d_mLines_init_601 : decode b_mLines_init 601 = .ok (.iastore, 1) := by decide +kernel
theorem d_mLines_init_602 : decode b_mLines_init 602 = .ok (.dup, 1) := by decide +kernel
theorem d_mLines_init_603 : decode b_mLines_init 603 = .ok (.bipush 25, 2) := by decide +kernel
theorem d_mLines_init_605 : decode b_mLines_init 605 = .ok (.sipush 2072, 3) := by decide +kernel
theorem d_mLines_init_608 : decode b_mLines_init 608 = .ok (.iastore, 1) := by decide +kernel
theorem d_mLines_init_609 : decode b_mLines_init 609 = .ok (.dup, 1) := by decide +kernel
theorem d_mLines_init_610 : decode b_mLines_init 610 = .ok (.bipush 26, 2) := by decide +kernel
theorem d_mLines_init_612 : decode b_mLines_init 612 = .ok (.sipush 4298, 3) := by decide +kernel
theorem d_mLines_init_615 : decode b_mLines_init 615 = .ok (.iastore, 1) := by decide +kernel
theorem d_mLines_init_616 : decode b_mLines_init 616 = .ok (.dup, 1) := by decide +kernel
theorem d_mLines_init_617 : decode b_mLines_init 617 = .ok (.bipush 27, 2) := by decide +kernel
theorem d_mLines_init_619 : decode b_mLines_init 619 = .ok (.sipush 4299, 3) := by decide +kernel
theorem d_mLines_init_622 : decode b_mLines_init 622 = .ok (.iastore, 1) := by decide +kernel
theorem d_mLines_init_623 : decode b_mLines_init 623 = .ok (.dup, 1) := by decide +kernel
theorem d_mLines_init_624 : decode b_mLines_init 624 = .ok (.bipush 28, 2) := by decide +kernel
theorem d_mLines_init_626 : decode b_mLines_init 626 = .ok (.sipush 4300, 3) := by decide +kernel
theorem d_mLines_init_629 : decode b_mLines_init 629 = .ok (.iastore, 1) := by decide +kernel
theorem d_mLines_init_630 : decode b_mLines_init 630 = .ok (.dup, 1) := by decide +kernel
theorem d_mLines_init_631 : decode b_mLines_init 631 = .ok (.bipush 29, 2) := by decide +kernel
theorem d_mLines_init_633 : decode b_mLines_init 633 = .ok (.sipush 4301, 3) := by decide +kernel
theorem d_mLines_init_636 : decode b_mLines_init 636 = .ok (.iastore, 1) := by decide +kernel
theorem d_mLines_init_637 : decode b_mLines_init 637 = .ok (.dup, 1) := by decide +kernel
theorem d_mLines_init_638 : decode b_mLines_init 638 = .ok (.bipush 30, 2) := by decide +kernel
theorem d_mLines_init_640 : decode b_mLines_init 640 = .ok (.sipush 4200, 3) := by decide +kernel
theorem d_mLines_init_643 : decode b_mLines_init 643 = .ok (.iastore, 1) := by decide +kernel
theorem d_mLines_init_644 : decode b_mLines_init 644 = .ok (.dup, 1) := by decide +kernel
theorem d_mLines_init_645 : decode b_mLines_init 645 = .ok (.bipush 31, 2) := by decide +kernel
theorem d_mLines_init_647 : decode b_mLines_init 647 = .ok (.sipush 4201, 3) := by decide +kernel
theorem d_mLines_init_650 : decode b_mLines_init 650 = .ok (.iastore, 1) := by decide +kernel
theorem d_mLines_init_651 : decode b_mLines_init 651 = .ok (.dup, 1) := by decide +kernel
theorem d_mLines_init_652 : decode b_mLines_init 652 = .ok (.bipush 32, 2) := by decide +kernel
theorem d_mLines_init_654 : decode b_mLines_init 654 = .ok (.sipush 4202, 3) := by decide +kernel
theorem d_mLines_init_657 : decode b_mLines_init 657 = .ok (.iastore, 1) := by decide +kernel
theorem d_mLines_init_658 : decode b_mLines_init 658 = .ok (.dup, 1) := by decide +kernel
theorem d_mLines_init_659 : decode b_mLines_init 659 = .ok (.bipush 33, 2) := by decide +kernel
theorem d_mLines_init_661 : decode b_mLines_init 661 = .ok (.sipush 4203, 3) := by decide +kernel
theorem d_mLines_init_664 : decode b_mLines_init 664 = .ok (.iastore, 1) := by decide +kernel
theorem d_mLines_init_665 : decode b_mLines_init 665 = .ok (.dup, 1) := by decide +kernel
theorem d_mLines_init_666 : decode b_mLines_init 666 = .ok (.bipush 34, 2) := by decide +kernel
theorem d_mLines_init_668 : decode b_mLines_init 668 = .ok (.sipush 4306, 3) := by decide +kernel
theorem d_mLines_init_671 : decode b_mLines_init 671 = .ok (.iastore, 1) := by decide +kernel
theorem d_mLines_init_672 : decode b_mLines_init 672 = .ok (.dup, 1) := by decide +kernel
theorem d_mLines_init_673 : decode b_mLines_init 673 = .ok (.bipush 35, 2) := by decide +kernel
theorem d_mLines_init_675 : decode b_mLines_init 675 = .ok (.sipush 4307, 3) := by decide +kernel
theorem d_mLines_init_678 : decode b_mLines_init 678 = .ok (.iastore, 1) := by decide +kernel
theorem d_mLines_init_679 : decode b_mLines_init 679 = .ok (.dup, 1) := by decide +kernel
theorem d_mLines_init_680 : decode b_mLines_init 680 = .ok (.bipush 36, 2) := by decide +kernel
theorem d_mLines_init_682 : decode b_mLines_init 682 = .ok (.sipush 4308, 3) := by decide +kernel
theorem d_mLines_init_685 : decode b_mLines_init 685 = .ok (.iastore, 1) := by decide +kernel
theorem d_mLines_init_686 : decode b_mLines_init 686 = .ok (.dup, 1) := by decide +kernel
theorem d_mLines_init_687 : decode b_mLines_init 687 = .ok (.bipush 37, 2) := by decide +kernel
theorem d_mLines_init_689 : decode b_mLines_init 689 = .ok (.sipush 4309, 3) := by decide +kernel
theorem d_mLines_init_692 : decode b_mLines_init 692 = .ok (.iastore, 1) := by decide +kernel
theorem d_mLines_init_693 : decode b_mLines_init 693 = .ok (.dup, 1) := by decide +kernel
theorem d_mLines_init_694 : decode b_mLines_init 694 = .ok (.bipush 38, 2) := by decide +kernel
theorem d_mLines_init_696 : decode b_mLines_init 696 = .ok (.sipush 4310, 3) := by decide +kernel
theorem d_mLines_init_699 : decode b_mLines_init 699 = .ok (.iastore, 1) := by decide +kernel
theorem d_mLines_init_700 : decode b_mLines_init 700 = .ok (.dup, 1) := by decide +kernel
theorem d_mLines_init_701 : decode b_mLines_init 701 = .ok (.bipush 39, 2) := by decide +kernel
theorem d_mLines_init_703 : decode b_mLines_init 703 = .ok (.sipush 4311, 3) := by decide +kernel
theorem d_mLines_init_706 : decode b_mLines_init 706 = .ok (.iastore, 1) := by decide +kernel
theorem d_mLines_init_707 : decode b_mLines_init 707 = .ok (.dup, 1) := by decide +kernel
theorem d_mLines_init_708 : decode b_mLines_init 708 = .ok (.bipush 40, 2) := by decide +kernel
theorem d_mLines_init_710 : decode b_mLines_init 710 = .ok (.sipush 4204, 3) := by decide +kernel
theorem d_mLines_init_713 : decode b_mLines_init 713 = .ok (.iastore, 1) := by decide +kernel
theorem d_mLines_init_714 : decode b_mLines_init 714 = .ok (.dup, 1) := by decide +kernel
theorem d_mLines_init_715 : decode b_mLines_init 715 = .ok (.bipush 41, 2) := by decide +kernel
theorem d_mLines_init_717 : decode b_mLines_init 717 = .ok (.sipush 4205, 3) := by decide +kernel
theorem d_mLines_init_720 : decode b_mLines_init 720 = .ok (.iastore, 1) := by decide +kernel
theorem d_mLines_init_721 : decode b_mLines_init 721 = .ok (.dup, 1) := by decide +kernel
theorem d_mLines_init_722 : decode b_mLines_init 722 = .ok (.bipush 42, 2) := by decide +kernel
theorem d_mLines_init_724 : decode b_mLines_init 724 = .ok (.sipush 4314, 3) := by decide +kernel
theorem d_mLines_init_727 : decode b_mLines_init 727 = .ok (.iastore, 1) := by decide +kernel
theorem d_mLines_init_728 : decode b_mLines_init 728 = .ok (.dup, 1) := by decide +kernel
theorem d_mLines_init_729 : decode b_mLines_init 729 = .ok (.bipush 43, 2) := by decide +kernel
theorem d_mLines_init_731 : decode b_mLines_init 731 = .ok (.sipush 4315, 3) := by decide +kernel
theorem d_mLines_init_734 : decode b_mLines_init 734 = .ok (.iastore, 1) := by decide +kernel
theorem d_mLines_init_735 : decode b_mLines_init 735 = .ok (.dup, 1) := by decide +kernel
theorem d_mLines_init_736 : decode b_mLines_init 736 = .ok (.bipush 44, 2) := by decide +kernel
theorem d_mLines_init_738 : decode b_mLines_init 738 = .ok (.sipush 4180, 3) := by decide +kernel
theorem d_mLines_init_741 : decode b_mLines_init 741 = .ok (.iastore, 1) := by decide +kernel
theorem d_mLines_init_742 : decode b_mLines_init 742 = .ok (.dup, 1) := by decide +kernel
theorem d_mLines_init_743 : decode b_mLines_init 743 = .ok (.bipush 45, 2) := by decide +kernel
theorem d_mLines_init_745 : decode b_mLines_init 745 = .ok (.sipush 4181, 3) := by decide +kernel
theorem d_mLines_init_748 : decode b_mLines_init 748 = .ok (.iastore, 1) := by decide +kernel
theorem d_mLines_init_749 : decode b_mLines_init 749 = .ok (.dup, 1) := by decide +kernel
theorem d_mLines_init_750 : decode b_mLines_init 750 = .ok (.bipush 46, 2) := by decide +kernel
theorem d_mLines_init_752 : decode b_mLines_init 752 = .ok (.sipush 4182, 3) := by decide +kernel
theorem d_mLines_init_755 : decode b_mLines_init 755 = .ok (.iastore, 1) := by decide +kernel
theorem d_mLines_init_756 : decode b_mLines_init 756 = .ok (.dup, 1) := by decide +kernel
theorem d_mLines_init_757 : decode b_mLines_init 757 = .ok (.bipush 47, 2) := by decide +kernel
theorem d_mLines_init_759 : decode b_mLines_init 759 = .ok (.sipush 4183, 3) := by decide +kernel
theorem d_mLines_init_762 : decode b_mLines_init 762 = .ok (.iastore, 1) := by decide +kernel
theorem d_mLines_init_763 : decode b_mLines_init 763 = .ok (.dup, 1) := by decide +kernel
theorem d_mLines_init_764 : decode b_mLines_init 764 = .ok (.bipush 48, 2) := by decide +kernel
theorem d_mLines_init_766 : decode b_mLines_init 766 = .ok (.sipush 4196, 3) := by decide +kernel
theorem d_mLines_init_769 : decode b_mLines_init 769 = .ok (.iastore, 1) := by decide +kernel
theorem d_mLines_init_770 : decode b_mLines_init 770 = .ok (.dup, 1) := by decide +kernel
theorem d_mLines_init_771 : decode b_mLines_init 771 = .ok (.bipush 49, 2) := by decide +kernel
theorem d_mLines_init_773 : decode b_mLines_init 773 = .ok (.sipush 4197, 3) := by decide +kernel
theorem d_mLines_init_776 : decode b_mLines_init 776 = .ok (.iastore, 1) := by decide +kernel
theorem d_mLines_init_777 : decode b_mLines_init 777 = .ok (.dup, 1) := by decide +kernel
theorem d_mLines_init_778 : decode b_mLines_init 778 = .ok (.bipush 50, 2) := by decide +kernel
theorem d_mLines_init_780 : decode b_mLines_init 780 = .ok (.sipush 4178, 3) := by decide +kernel
theorem d_mLines_init_783 : decode b_mLines_init 783 = .ok (.iastore, 1) := by decide +kernel
theorem d_mLines_init_784 : decode b_mLines_init 784 = .ok (.dup, 1) := by decide +kernel
theorem d_mLines_init_785 : decode b_mLines_init 785 = .ok (.bipush 51, 2) := by decide +kernel
theorem d_mLines_init_787 : decode b_mLines_init 787 = .ok (.sipush 4179, 3) := by decide +kernel
theorem d_mLines_init_790 : decode b_mLines_init 790 = .ok (.iastore, 1) := by decide +kernel
theorem d_mLines_init_791 : decode b_mLines_init 791 = .ok (.dup, 1) := by decide +kernel
theorem d_mLines_init_792 : decode b_mLines_init 792 = .ok (.bipush 52, 2) := by decide +kernel
theorem d_mLines_init_794 : decode b_mLines_init 794 = .ok (.sipush 4132, 3) := by decide +kernel
theorem d_mLines_init_797 : decode b_mLines_init 797 = .ok (.iastore, 1) := by decide +kernel
theorem d_mLines_init_798 : decode b_mLines_init 798 = .ok (.dup, 1) := by decide +kernel
theorem d_mLines_init_799 : decode b_mLines_init 799 = .ok (.bipush 53, 2) := by decide +kernel
theorem d_mLines_init_801 : decode b_mLines_init 801 = .ok (.sipush 4151, 3) := by decide +kernel
theorem d_mLines_init_804 : decode b_mLines_init 804 = .ok (.iastore, 1) := by decide +kernel
theorem d_mLines_init_805 : decode b_mLines_init 805 = .ok (.dup, 1) := by decide +kernel
theorem d_mLines_init_806 : decode b_mLines_init 806 = .ok (.bipush 54, 2) := by decide +kernel
theorem d_mLines_init_808 : decode b_mLines_init 808 = .ok (.sipush 4152, 3) := by decide +kernel
theorem d_mLines_init_811 : decode b_mLines_init 811 = .ok (.iastore, 1) := by decide +kernel
theorem d_mLines_init_812 : decode b_mLines_init 812 = .ok (.dup, 1) := by decide +kernel
theorem d_mLines_init_813 : decode b_mLines_init 813 = .ok (.bipush 55, 2) := by decide +kernel
theorem d_mLines_init_815 : decode b_mLines_init 815 = .ok (.sipush 4135, 3) := by decide +kernel
theorem d_mLines_init_818 : decode b_mLines_init 818 = .ok (.iastore, 1) := by decide +kernel
theorem d_mLines_init_819 : decode b_mLines_init 819 = .ok (.dup, 1) := by decide +kernel
theorem d_mLines_init_820 : decode b_mLines_init 820 = .ok (.bipush 56, 2) := by decide +kernel
theorem d_mLines_init_822 : decode b_mLines_init 822 = .ok (.sipush 4136, 3) := by decide +kernel
theorem d_mLines_init_825 : decode b_mLines_init 825 = .ok (.iastore, 1) := by decide +kernel
theorem d_mLines_init_826 : decode b_mLines_init 826 = .ok (.dup, 1) := by decide +kernel
theorem d_mLines_init_827 : decode b_mLines_init 827 = .ok (.bipush 57, 2) := by decide +kernel
theorem d_mLines_init_829 : decode b_mLines_init 829 = .ok (.sipush 4184, 3) := by decide +kernel
theorem d_mLines_init_832 : decode b_mLines_init 832 = .ok (.iastore, 1) := by decide +kernel
theorem d_mLines_init_833 : decode b_mLines_init 833 = .ok (.dup, 1) := by decide +kernel
theorem d_mLines_init_834 : decode b_mLines_init 834 = .ok (.bipush 58, 2) := by decide +kernel
theorem d_mLines_init_836 : decode b_mLines_init 836 = .ok (.sipush 4185, 3) := by decide +kernel
theorem d_mLines_init_839 : decode b_mLines_init 839 = .ok (.iastore, 1) := by decide +kernel
theorem d_mLines_init_840 : decode b_mLines_init 840 = .ok (.dup, 1) := by decide +kernel
theorem d_mLines_init_841 : decode b_mLines_init 841 = .ok (.bipush 59, 2) := by decide +kernel
theorem d_mLines_init_843 : decode b_mLines_init 843 = .ok (.sipush 4139, 3) := by decide +kernel
theorem d_mLines_init_846 : decode b_mLines_init 846 = .ok (.iastore, 1) := by decide +kernel
theorem d_mLines_init_847 : decode b_mLines_init 847 = .ok (.dup, 1) := by decide +kernel
theorem d_mLines_init_848 : decode b_mLines_init 848 = .ok (.bipush 60, 2) := by decide +kernel
theorem d_mLines_init_850 : decode b_mLines_init 850 = .ok (.sipush 4140, 3) := by decide +kernel
theorem d_mLines_init_853 : decode b_mLines_init 853 = .ok (.iastore, 1) := by decide +kernel
theorem d_mLines_init_854 : decode b_mLines_init 854 = .ok (.dup, 1) := by decide +kernel
theorem d_mLines_init_855 : decode b_mLines_init 855 = .ok (.bipush 61, 2) := by decide +kernel
theorem d_mLines_init_857 : decode b_mLines_init 857 = .ok (.sipush 4186, 3) := by decide +kernel
theorem d_mLines_init_860 : decode b_mLines_init 860 = .ok (.iastore, 1) := by decide +kernel
theorem d_mLines_init_861 : decode b_mLines_init 861 = .ok (.dup, 1) := by decide +kernel
theorem d_mLines_init_862 : decode b_mLines_init 862 = .ok (.bipush 62, 2) := by decide +kernel
theorem d_mLines_init_864 : decode b_mLines_init 864 = .ok (.sipush 4198, 3) := by decide +kernel
theorem d_mLines_init_867 : decode b_mLines_init 867 = .ok (.iastore, 1) := by decide +kernel
theorem d_mLines_init_868 : decode b_mLines_init 868 = .ok (.dup, 1) := by decide +kernel
theorem d_mLines_init_869 : decode b_mLines_init 869 = .ok (.bipush 63, 2) := by decide +kernel
theorem d_mLines_init_871 : decode b_mLines_init 871 = .ok (.sipush 4199, 3) := by decide +kernel
theorem d_mLines_init_874 : decode b_mLines_init 874 = .ok (.iastore, 1) := by decide +kernel
theorem d_mLines_init_875 : decode b_mLines_init 875 = .ok (.putfield 13, 3) := by decide +kernel
theorem d_mLines_init_878 : decode b_mLines_init 878 = .ok (.aload_n 0, 1) := by decide +kernel
theorem d_mLines_init_879 : decode b_mLines_init 879 = .ok (.bipush 27, 2) := by decide +kernel
theorem d_mLines_init_881 : decode b_mLines_init 881 = .ok (.newarray .int, 2) := by decide +kernel
theorem d_mLines_init_883 : decode b_mLines_init 883 = .ok (.dup, 1) := by decide +kernel
theorem d_mLines_init_884 : decode b_mLines_init 884 = .ok (.iconst 0, 1) := by decide +kernel
theorem d_mLines_init_885 : decode b_mLines_init 885 = .ok (.bipush 59, 2) := by decide +kernel
theorem d_mLines_init_887 : decode b_mLines_init 887 = .ok (.iastore, 1) := by decide +kernel
theorem d_mLines_init_888 : decode b_mLines_init 888 = .ok (.dup, 1) := by decide +kernel
theorem d_mLines_init_889 : decode b_mLines_init 889 = .ok (.iconst 1, 1) := by decide +kernel
theorem d_mLines_init_890 : decode b_mLines_init 890 = .ok (.bipush 50, 2) := by decide +kernel
theorem d_mLines_init_892 : decode b_mLines_init 892 = .ok (.iastore, 1) := by decide +kernel
theorem d_mLines_init_893 : decode b_mLines_init 893 = .ok (.dup, 1) := by decide +kernel
theorem d_mLines_init_894 : decode b_mLines_init 894 = .ok (.iconst 2, 1) := by decide +kernel
theorem d_mLines_init_895 : decode b_mLines_init 895 = .ok (.bipush 87, 2) := by decide +kernel
theorem d_mLines_init_897 : decode b_mLines_init 897 = .ok (.iastore, 1) := by decide +kernel
theorem d_mLines_init_898 : decode b_mLines_init 898 = .ok (.dup, 1) := by decide +kernel
theorem d_mLines_init_899 : decode b_mLines_init 899 = .ok (.iconst 3, 1) := by decide +kernel
theorem d_mLines_init_900 : decode b_mLines_init 900 = .ok (.sipush 183, 3) := by decide +kernel
theorem d_mLines_init_903 : decode b_mLines_init 903 = .ok (.iastore, 1) := by decide +kernel
theorem d_mLines_init_904 : decode b_mLines_init 904 = .ok (.dup, 1) := by decide +kernel
theorem d_mLines_init_905 : decode b_mLines_init 905 = .ok (.iconst 4, 1) := by decide +kernel
theorem d_mLines_init_906 : decode b_mLines_init 906 = .ok (.sipush 310, 3) := by decide +kernel
theorem d_mLines_init_909 : decode b_mLines_init 909 = .ok (.iastore, 1) := by decide +kernel
theorem d_mLines_init_910 : decode b_mLines_init 910 = .ok (.dup, 1) := by decide +kernel
theorem d_mLines_init_911 : decode b_mLines_init 911 = .ok (.iconst 5, 1) := by decide +kernel
theorem d_mLines_init_912 : decode b_mLines_init 912 = .ok (.sipush 311, 3) := by decide +kernel
theorem d_mLines_init_915 : decode b_mLines_init 915 = .ok (.iastore, 1) := by decide +kernel
theorem d_mLines_init_916 : decode b_mLines_init 916 = .ok (.dup, 1) := by decide +kernel
theorem d_mLines_init_917 : decode b_mLines_init 917 = .ok (.bipush 6, 2) := by decide +kernel
theorem d_mLines_init_919 : decode b_mLines_init 919 = .ok (.sipush 356, 3) := by decide +kernel
theorem d_mLines_init_922 : decode b_mLines_init 922 = .ok (.iastore, 1) := by decide +kernel
theorem d_mLines_init_923 : decode b_mLines_init 923 = .ok (.dup, 1) := by decide +kernel
theorem d_mLines_init_924 : decode b_mLines_init 924 = .ok (.bipush 7, 2) := by decide +kernel
theorem d_mLines_init_926 : decode b_mLines_init 926 = .ok (.sipush 357, 3) := by decide +kernel
theorem d_mLines_init_929 : decode b_mLines_init 929 = .ok (.iastore, 1) := by decide +kernel
theorem d_mLines_init_930 : decode b_mLines_init 930 = .ok (.dup, 1) := by decide +kernel
theorem d_mLines_init_931 : decode b_mLines_init 931 = .ok (.bipush 8, 2) := by decide +kernel
theorem d_mLines_init_933 : decode b_mLines_init 933 = .ok (.sipush 360, 3) := by decide +kernel
theorem d_mLines_init_936 : decode b_mLines_init 936 = .ok (.iastore, 1) := by decide +kernel
theorem d_mLines_init_937 : decode b_mLines_init 937 = .ok (.dup, 1) := by decide +kernel
theorem d_mLines_init_938 : decode b_mLines_init 938 = .ok (.bipush 9, 2) := by decide +kernel
theorem d_mLines_init_940 : decode b_mLines_init 940 = .ok (.sipush 359, 3) := by decide +kernel
theorem d_mLines_init_943 : decode b_mLines_init 943 = .ok (.iastore, 1) := by decide +kernel
theorem d_mLines_init_944 : decode b_mLines_init 944 = .ok (.dup, 1) := by decide +kernel
theorem d_mLines_init_945 : decode b_mLines_init 945 = .ok (.bipush 10, 2) := by decide +kernel
theorem d_mLines_init_947 : decode b_mLines_init 947 = .ok (.sipush 716, 3) := by decide +kernel
theorem d_mLines_init_950 : decode b_mLines_init 950 = .ok (.iastore, 1) := by decide +kernel
theorem d_mLines_init_951 : decode b_mLines_init 951 = .ok (.dup, 1) := by decide +kernel
theorem d_mLines_init_952 : decode b_mLines_init 952 = .ok (.bipush 11, 2) := by decide +kernel
theorem d_mLines_init_954 : decode b_mLines_init 954 = .ok (.sipush 717, 3) := by decide +kernel
theorem d_mLines_init_957 : decode b_mLines_init 957 = .ok (.iastore, 1) := by decide +kernel
theorem d_mLines_init_958 : decode b_mLines_init 958 = .ok (.dup, 1) := by decide +kernel
theorem d_mLines_init_959 : decode b_mLines_init 959 = .ok (.bipush 12, 2) := by decide +kernel
theorem d_mLines_init_961 : decode b_mLines_init 961 = .ok (.sipush 722, 3) := by decide +kernel
theorem d_mLines_init_964 : decode b_mLines_init 964 = .ok (.iastore, 1) := by decide +kernel
theorem d_mLines_init_965 : decode b_mLines_init 965 = .ok (.dup, 1) := by decide +kernel
theorem d_mLines_init_966 : decode b_mLines_init 966 = .ok (.bipush 13, 2) := by decide +kernel
theorem d_mLines_init_968 : decode b_mLines_init 968 = .ok (.sipush 723, 3) := by decide +kernel
theorem d_mLines_init_971 : decode b_mLines_init 971 = .ok (.iastore, 1) := by decide +kernel
theorem d_mLines_init_972 : decode b_mLines_init 972 = .ok (.dup, 1) := by decide +kernel
theorem d_mLines_init_973 : decode b_mLines_init 973 = .ok (.bipush 14, 2) := by decide +kernel
theorem d_mLines_init_975 : decode b_mLines_init 975 = .ok (.sipush 724, 3) := by decide +kernel
theorem d_mLines_init_978 : decode b_mLines_init 978 = .ok (.iastore, 1) := by decide +kernel
theorem d_mLines_init_979 : decode b_mLines_init 979 = .ok (.dup, 1) := by decide +kernel
theorem d_mLines_init_980 : decode b_mLines_init 980 = .ok (.bipush 15, 2) := by decide +kernel
theorem d_mLines_init_982 : decode b_mLines_init 982 = .ok (.sipush 725, 3) := by decide +kernel
theorem d_mLines_init_985 : decode b_mLines_init 985 = .ok (.iastore, 1) := by decide +kernel
theorem d_mLines_init_986 : decode b_mLines_init 986 = .ok (.dup, 1) := by decide +kernel
theorem d_mLines_init_987 : decode b_mLines_init 987 = .ok (.bipush 16, 2) := by decide +kernel
theorem d_mLines_init_989 : decode b_mLines_init 989 = .ok (.sipush 726, 3) := by decide +kernel
theorem d_mLines_init_992 : decode b_mLines_init 992 = .ok (.iastore, 1) := by decide +kernel
theorem d_mLines_init_993 : decode b_mLines_init 993 = .ok (.dup, 1) := by decide +kernel
theorem d_mLines_init_994 : decode b_mLines_init 994 = .ok (.bipush 17, 2) := by decide +kernel
theorem d_mLines_init_996 : decode b_mLines_init 996 = .ok (.sipush 727, 3) := by decide +kernel
theorem d_mLines_init_999 : decode b_mLines_init 999 = .ok (.iastore, 1) := by decide +kernel
theorem d_mLines_init_1000 : decode b_mLines_init 1000 = .ok (.dup, 1) := by decide +kernel
theorem d_mLines_init_1001 : decode b_mLines_init 1001 = .ok (.bipush 18, 2) := by decide +kernel
theorem d_mLines_init_1003 : decode b_mLines_init 1003 = .ok (.sipush 728, 3) := by decide +kernel
theorem d_mLines_init_1006 : decode b_mLines_init 1006 = .ok (.iastore, 1) := by decide +kernel
theorem d_mLines_init_1007 : decode b_mLines_init 1007 = .ok (.dup, 1) := by decide +kernel
theorem d_mLines_init_1008 : decode b_mLines_init 1008 = .ok (.bipush 19, 2) := by decide +kernel
theorem d_mLines_init_1010 : decode b_mLines_init 1010 = .ok (.sipush 729, 3) := by decide +kernel
theorem d_mLines_init_1013 : decode b_mLines_init 1013 = .ok (.iastore, 1) := by decide +kernel
theorem d_mLines_init_1014 : decode b_mLines_init 1014 = .ok (.dup, 1) := by decide +kernel
theorem d_mLines_init_1015 : decode b_mLines_init 1015 = .ok (.bipush 20, 2) := by decide +kernel
theorem d_mLines_init_1017 : decode b_mLines_init 1017 = .ok (.sipush 730, 3) := by decide +kernel
theorem d_mLines_init_1020 : decode b_mLines_init 1020 = .ok (.iastore, 1) := by decide +kernel
theorem d_mLines_init_1021 : decode b_mLines_init 1021 = .ok (.dup, 1) := by decide +kernel
theorem d_mLines_init_1022 : decode b_mLines_init 1022 = .ok (.bipush 21, 2) := by decide +kernel
theorem d_mLines_init_1024 : decode b_mLines_init 1024 = .ok (.sipush 731, 3) := by decide +kernel
theorem d_mLines_init_1027 : decode b_mLines_init 1027 = .ok (.iastore, 1) := by decide +kernel
theorem d_mLines_init_1028 : decode b_mLines_init 1028 = .ok (.dup, 1) := by decide +kernel
theorem d_mLines_init_1029 : decode b_mLines_init 1029 = .ok (.bipush 22, 2) := by decide +kernel
theorem d_mLines_init_1031 : decode b_mLines_init 1031 = .ok (.sipush 664, 3) := by decide +kernel
theorem d_mLines_init_1034 : decode b_mLines_init 1034 = .ok (.iastore, 1) := by decide +kernel
theorem d_mLines_init_1035 : decode b_mLines_init 1035 = .ok (.dup, 1) := by decide +kernel
theorem d_mLines_init_1036 : decode b_mLines_init 1036 = .ok (.bipush 23, 2) := by decide +kernel
theorem d_mLines_init_1038 : decode b_mLines_init 1038 = .ok (.sipush 665, 3) := by decide +kernel
theorem d_mLines_init_1041 : decode b_mLines_init 1041 = .ok (.iastore, 1) := by decide +kernel
theorem d_mLines_init_1042 : decode b_mLines_init 1042 = .ok (.dup, 1) := by decide +kernel
theorem d_mLines_init_1043 : decode b_mLines_init 1043 = .ok (.bipush 24, 2) := by decide +kernel
theorem d_mLines_init_1045 : decode b_mLines_init 1045 = .ok (.sipush 666, 3) := by decide +kernel
theorem d_mLines_init_1048 : decode b_mLines_init 1048 = .ok (.iastore, 1) := by decide +kernel
theorem d_mLines_init_1049 : decode b_mLines_init 1049 = .ok (.dup, 1) := by decide +kernel
theorem d_mLines_init_1050 : decode b_mLines_init 1050 = .ok (.bipush 25, 2) := by decide +kernel
theorem d_mLines_init_1052 : decode b_mLines_init 1052 = .ok (.bipush 88, 2) := by decide +kernel
theorem d_mLines_init_1054 : decode b_mLines_init 1054 = .ok (.iastore, 1) := by decide +kernel
theorem d_mLines_init_1055 : decode b_mLines_init 1055 = .ok (.dup, 1) := by decide +kernel
theorem d_mLines_init_1056 : decode b_mLines_init 1056 = .ok (.bipush 26, 2) := by decide +kernel
theorem d_mLines_init_1058 : decode b_mLines_init 1058 = .ok (.sipush 667, 3) := by decide +kernel
theorem d_mLines_init_1061 : decode b_mLines_init 1061 = .ok (.iastore, 1) := by decide +kernel
theorem d_mLines_init_1062 : decode b_mLines_init 1062 = .ok (.putfield 16, 3) := by decide +kernel
theorem d_mLines_init_1065 : decode b_mLines_init 1065 = .ok (.aload_n 0, 1) := by decide +kernel
theorem d_mLines_init_1066 : decode b_mLines_init 1066 = .ok (.bipush 27, 2) := by decide +kernel
theorem d_mLines_init_1068 : decode b_mLines_init 1068 = .ok (.newarray .int, 2) := by decide +kernel
theorem d_mLines_init_1070 : decode b_mLines_init 1070 = .ok (.dup, 1) := by decide +kernel
theorem d_mLines_init_1071 : decode b_mLines_init 1071 = .ok (.iconst 0, 1) := by decide +kernel
theorem d_mLines_init_1072 : decode b_mLines_init 1072 = .ok (.sipush 1039, 3) := by decide +kernel
theorem d_mLines_init_1075 : decode b_mLines_init 1075 = .ok (.iastore, 1) := by decide +kernel
theorem d_mLines_init_1076 : decode b_mLines_init 1076 = .ok (.dup, 1) := by decide +kernel
theorem d_mLines_init_1077 : decode b_mLines_init 1077 = .ok (.iconst 1, 1) := by decide +kernel
theorem d_mLines_init_1078 : decode b_mLines_init 1078 = .ok (.sipush 4296, 3) := by decide +kernel
theorem d_mLines_init_1081 : decode b_mLines_init 1081 = .ok (.iastore, 1) := by decide +kernel
theorem d_mLines_init_1082 : decode b_mLines_init 1082 = .ok (.dup, 1) := by decide +kernel
theorem d_mLines_init_1083 : decode b_mLines_init 1083 = .ok (.iconst 2, 1) := by decide +kernel
theorem d_mLines_init_1084 : decode b_mLines_init 1084 = .ok (.sipush 4297, 3) := by decide +kernel
theorem d_mLines_init_1087 : decode b_mLines_init 1087 = .ok (.iastore, 1) := by decide +kernel
theorem d_mLines_init_1088 : decode b_mLines_init 1088 = .ok (.dup, 1) := by decide +kernel
theorem d_mLines_init_1089 : decode b_mLines_init 1089 = .ok (.iconst 3, 1) := by decide +kernel
theorem d_mLines_init_1090 : decode b_mLines_init 1090 = .ok (.sipush 4187, 3) := by decide +kernel
theorem d_mLines_init_1093 : decode b_mLines_init 1093 = .ok (.iastore, 1) := by decide +kernel
theorem d_mLines_init_1094 : decode b_mLines_init 1094 = .ok (.dup, 1) := by decide +kernel
theorem d_mLines_init_1095 : decode b_mLines_init 1095 = .ok (.iconst 4, 1) := by decide +kernel
theorem d_mLines_init_1096 : decode b_mLines_init 1096 = .ok (.sipush 4147, 3) := by decide +kernel
theorem d_mLines_init_1099 : decode b_mLines_init 1099 = .ok (.iastore, 1) := by decide +kernel
theorem d_mLines_init_1100 : decode b_mLines_init 1100 = .ok (.dup, 1) := by decide +kernel
theorem d_mLines_init_1101 : decode b_mLines_init 1101 = .ok (.iconst 5, 1) := by decide +kernel
theorem d_mLines_init_1102 : decode b_mLines_init 1102 = .ok (.sipush 4148, 3) := by decide +kernel
theorem d_mLines_init_1105 : decode b_mLines_init 1105 = .ok (.iastore, 1) := by decide +kernel
theorem d_mLines_init_1106 : decode b_mLines_init 1106 = .ok (.dup, 1) := by decide +kernel
theorem d_mLines_init_1107 : decode b_mLines_init 1107 = .ok (.bipush 6, 2) := by decide +kernel
theorem d_mLines_init_1109 : decode b_mLines_init 1109 = .ok (.sipush 4149, 3) := by decide +kernel
theorem d_mLines_init_1112 : decode b_mLines_init 1112 = .ok (.iastore, 1) := by decide +kernel
theorem d_mLines_init_1113 : decode b_mLines_init 1113 = .ok (.dup, 1) := by decide +kernel
theorem d_mLines_init_1114 : decode b_mLines_init 1114 = .ok (.bipush 7, 2) := by decide +kernel
theorem d_mLines_init_1116 : decode b_mLines_init 1116 = .ok (.sipush 8300, 3) := by decide +kernel
theorem d_mLines_init_1119 : decode b_mLines_init 1119 = .ok (.iastore, 1) := by decide +kernel
theorem d_mLines_init_1120 : decode b_mLines_init 1120 = .ok (.dup, 1) := by decide +kernel
theorem d_mLines_init_1121 : decode b_mLines_init 1121 = .ok (.bipush 8, 2) := by decide +kernel
theorem d_mLines_init_1123 : decode b_mLines_init 1123 = .ok (.sipush 8301, 3) := by decide +kernel
theorem d_mLines_init_1126 : decode b_mLines_init 1126 = .ok (.iastore, 1) := by decide +kernel
theorem d_mLines_init_1127 : decode b_mLines_init 1127 = .ok (.dup, 1) := by decide +kernel
theorem d_mLines_init_1128 : decode b_mLines_init 1128 = .ok (.bipush 9, 2) := by decide +kernel
theorem d_mLines_init_1130 : decode b_mLines_init 1130 = .ok (.sipush 8266, 3) := by decide +kernel
theorem d_mLines_init_1133 : decode b_mLines_init 1133 = .ok (.iastore, 1) := by decide +kernel
theorem d_mLines_init_1134 : decode b_mLines_init 1134 = .ok (.dup, 1) := by decide +kernel
theorem d_mLines_init_1135 : decode b_mLines_init 1135 = .ok (.bipush 10, 2) := by decide +kernel
theorem d_mLines_init_1137 : decode b_mLines_init 1137 = .ok (.sipush 8267, 3) := by decide +kernel
theorem d_mLines_init_1140 : decode b_mLines_init 1140 = .ok (.iastore, 1) := by decide +kernel
theorem d_mLines_init_1141 : decode b_mLines_init 1141 = .ok (.dup, 1) := by decide +kernel
theorem d_mLines_init_1142 : decode b_mLines_init 1142 = .ok (.bipush 11, 2) := by decide +kernel
theorem d_mLines_init_1144 : decode b_mLines_init 1144 = .ok (.sipush 8268, 3) := by decide +kernel
theorem d_mLines_init_1147 : decode b_mLines_init 1147 = .ok (.iastore, 1) := by decide +kernel
theorem d_mLines_init_1148 : decode b_mLines_init 1148 = .ok (.dup, 1) := by decide +kernel
theorem d_mLines_init_1149 : decode b_mLines_init 1149 = .ok (.bipush 12, 2) := by decide +kernel
theorem d_mLines_init_1151 : decode b_mLines_init 1151 = .ok (.sipush 8269, 3) := by decide +kernel
theorem d_mLines_init_1154 : decode b_mLines_init 1154 = .ok (.iastore, 1) := by decide +kernel
theorem d_mLines_init_1155 : decode b_mLines_init 1155 = .ok (.dup, 1) := by decide +kernel
theorem d_mLines_init_1156 : decode b_mLines_init 1156 = .ok (.bipush 13, 2) := by decide +kernel
theorem d_mLines_init_1158 : decode b_mLines_init 1158 = .ok (.sipush 8306, 3) := by decide +kernel
theorem d_mLines_init_1161 : decode b_mLines_init 1161 = .ok (.iastore, 1) := by decide +kernel
theorem d_mLines_init_1162 : decode b_mLines_init 1162 = .ok (.dup, 1) := by decide +kernel
theorem d_mLines_init_1163 : decode b_mLines_init 1163 = .ok (.bipush 14, 2) := by decide +kernel
theorem d_mLines_init_1165 : decode b_mLines_init 1165 = .ok (.sipush 8307, 3) := by decide +kernel
theorem d_mLines_init_1168 : decode b_mLines_init 1168 = .ok (.iastore, 1) := by decide +kernel
theorem d_mLines_init_1169 : decode b_mLines_init 1169 = .ok (.dup, 1) := by decide +kernel
theorem d_mLines_init_1170 : decode b_mLines_init 1170 = .ok (.bipush 15, 2) := by decide +kernel
theorem d_mLines_init_1172 : decode b_mLines_init 1172 = .ok (.sipush 8308, 3) := by decide +kernel
theorem d_mLines_init_1175 : decode b_mLines_init 1175 = .ok (.iastore, 1) := by decide +kernel
theorem d_mLines_init_1176 : decode b_mLines_init 1176 = .ok (.dup, 1) := by decide +kernel
theorem d_mLines_init_1177 : decode b_mLines_init 1177 = .ok (.bipush 16, 2) := by decide +kernel
theorem d_mLines_init_1179 : decode b_mLines_init 1179 = .ok (.sipush 8309, 3) := by decide +kernel
theorem d_mLines_init_1182 : decode b_mLines_init 1182 = .ok (.iastore, 1) := by decide +kernel
theorem d_mLines_init_1183 : decode b_mLines_init 1183 = .ok (.dup, 1) := by decide +kernel
theorem d_mLines_init_1184 : decode b_mLines_init 1184 = .ok (.bipush 17, 2) := by decide +kernel
theorem d_mLines_init_1186 : decode b_mLines_init 1186 = .ok (.sipush 8310, 3) := by decide +kernel
theorem d_mLines_init_1189 : decode b_mLines_init 1189 = .ok (.iastore, 1) := by decide +kernel
theorem d_mLines_init_1190 : decode b_mLines_init 1190 = .ok (.dup, 1) := by decide +kernel
theorem d_mLines_init_1191 : decode b_mLines_init 1191 = .ok (.bipush 18, 2) := by decide +kernel
theorem d_mLines_init_1193 : decode b_mLines_init 1193 = .ok (.sipush 8311, 3) := by decide +kernel
theorem d_mLines_init_1196 : decode b_mLines_init 1196 = .ok (.iastore, 1) := by decide +kernel
theorem d_mLines_init_1197 : decode b_mLines_init 1197 = .ok (.dup, 1) := by decide +kernel
theorem d_mLines_init_1198 : decode b_mLines_init 1198 = .ok (.bipush 19, 2) := by decide +kernel
theorem d_mLines_init_1200 : decode b_mLines_init 1200 = .ok (.sipush 8274, 3) := by decide +kernel
theorem d_mLines_init_1203 : decode b_mLines_init 1203 = .ok (.iastore, 1) := by decide +kernel
theorem d_mLines_init_1204 : decode b_mLines_init 1204 = .ok (.dup, 1) := by decide +kernel
theorem d_mLines_init_1205 : decode b_mLines_init 1205 = .ok (.bipush 20, 2) := by decide +kernel
theorem d_mLines_init_1207 : decode b_mLines_init 1207 = .ok (.sipush 8275, 3) := by decide +kernel
theorem d_mLines_init_1210 : decode b_mLines_init 1210 = .ok (.iastore, 1) := by decide +kernel
theorem d_mLines_init_1211 : decode b_mLines_init 1211 = .ok (.dup, 1) := by decide +kernel
theorem d_mLines_init_1212 : decode b_mLines_init 1212 = .ok (.bipush 21, 2) := by decide +kernel
theorem d_mLines_init_1214 : decode b_mLines_init 1214 = .ok (.sipush 8276, 3) := by decide +kernel
theorem d_mLines_init_1217 : decode b_mLines_init 1217 = .ok (.iastore, 1) := by decide +kernel
theorem d_mLines_init_1218 : decode b_mLines_init 1218 = .ok (.dup, 1) := by decide +kernel
theorem d_mLines_init_1219 : decode b_mLines_init 1219 = .ok (.bipush 22, 2) := by decide +kernel
theorem d_mLines_init_1221 : decode b_mLines_init 1221 = .ok (.sipush 8277, 3) := by decide +kernel
theorem d_mLines_init_1224 : decode b_mLines_init 1224 = .ok (.iastore, 1) := by decide +kernel
theorem d_mLines_init_1225 : decode b_mLines_init 1225 = .ok (.dup, 1) := by decide +kernel
theorem d_mLines_init_1226 : decode b_mLines_init 1226 = .ok (.bipush 23, 2) := by decide +kernel
theorem d_mLines_init_1228 : decode b_mLines_init 1228 = .ok (.sipush 8282, 3) := by decide +kernel
theorem d_mLines_init_1231 : decode b_mLines_init 1231 = .ok (.iastore, 1) := by decide +kernel
theorem d_mLines_init_1232 : decode b_mLines_init 1232 = .ok (.dup, 1) := by decide +kernel
theorem d_mLines_init_1233 : decode b_mLines_init 1233 = .ok (.bipush 24, 2) := by decide +kernel
theorem d_mLines_init_1235 : decode b_mLines_init 1235 = .ok (.sipush 8283, 3) := by decide +kernel
theorem d_mLines_init_1238 : decode b_mLines_init 1238 = .ok (.iastore, 1) := by decide +kernel
theorem d_mLines_init_1239 : decode b_mLines_init 1239 = .ok (.dup, 1) := by decide +kernel
theorem d_mLines_init_1240 : decode b_mLines_init 1240 = .ok (.bipush 25, 2) := by decide +kernel
theorem d_mLines_init_1242 : decode b_mLines_init 1242 = .ok (.sipush 8292, 3) := by decide +kernel
theorem d_mLines_init_1245 : decode b_mLines_init 1245 = .ok (.iastore, 1) := by decide +kernel
theorem d_mLines_init_1246 : decode b_mLines_init 1246 = .ok (.dup, 1) := by decide +kernel
theorem d_mLines_init_1247 : decode b_mLines_init 1247 = .ok (.bipush 26, 2) := by decide +kernel
theorem d_mLines_init_1249 : decode b_mLines_init 1249 = .ok (.sipush 8293, 3) := by decide +kernel
theorem d_mLines_init_1252 : decode b_mLines_init 1252 = .ok (.iastore, 1) := by decide +kernel
theorem d_mLines_init_1253 : decode b_mLines_init 1253 = .ok (.putfield 19, 3) := by decide +kernel
theorem d_mLines_init_1256 : decode b_mLines_init 1256 = .ok (.aload_n 0, 1) := by decide +kernel
theorem d_mLines_init_1257 : decode b_mLines_init 1257 = .ok (.bipush 13, 2) := by decide +kernel
theorem d_mLines_init_1259 : decode b_mLines_init 1259 = .ok (.newarray .int, 2) := by decide +kernel
theorem d_mLines_init_1261 : decode b_mLines_init 1261 = .ok (.dup, 1) := by decide +kernel
theorem d_mLines_init_1262 : decode b_mLines_init 1262 = .ok (.iconst 0, 1) := by decide +kernel
theorem d_mLines_init_1263 : decode b_mLines_init 1263 = .ok (.sipush 2056, 3) := by decide +kernel
theorem d_mLines_init_1266 : decode b_mLines_init 1266 = .ok (.iastore, 1) := by decide +kernel
theorem d_mLines_init_1267 : decode b_mLines_init 1267 = .ok (.dup, 1) := by decide +kernel
theorem d_mLines_init_1268 : decode b_mLines_init 1268 = .ok (.iconst 1, 1) := by decide +kernel
theorem d_mLines_init_1269 : decode b_mLines_init 1269 = .ok (.sipush 2060, 3) := by decide +kernel
theorem d_mLines_init_1272 : decode b_mLines_init 1272 = .ok (.iastore, 1) := by decide +kernel
theorem d_mLines_init_1273 : decode b_mLines_init 1273 = .ok (.dup, 1) := by decide +kernel
theorem d_mLines_init_1274 : decode b_mLines_init 1274 = .ok (.iconst 2, 1) := by decide +kernel
theorem d_mLines_init_1275 : decode b_mLines_init 1275 = .ok (.sipush 2061, 3) := by decide +kernel
theorem d_mLines_init_1278 : decode b_mLines_init 1278 = .ok (.iastore, 1) := by decide +kernel
theorem d_mLines_init_1279 : decode b_mLines_init 1279 = .ok (.dup, 1) := by decide +kernel
theorem d_mLines_init_1280 : decode b_mLines_init 1280 = .ok (.iconst 3, 1) := by decide +kernel
theorem d_mLines_init_1281 : decode b_mLines_init 1281 = .ok (.sipush 4114, 3) := by decide +kernel
theorem d_mLines_init_1284 : decode b_mLines_init 1284 = .ok (.iastore, 1) := by decide +kernel
theorem d_mLines_init_1285 : decode b_mLines_init 1285 = .ok (.dup, 1) := by decide +kernel
theorem d_mLines_init_1286 : decode b_mLines_init 1286 = .ok (.iconst 4, 1) := by decide +kernel
theorem d_mLines_init_1287 : decode b_mLines_init 1287 = .ok (.sipush 4115, 3) := by decide +kernel
theorem d_mLines_init_1290 : decode b_mLines_init 1290 = .ok (.iastore, 1) := by decide +kernel
theorem d_mLines_init_1291 : decode b_mLines_init 1291 = .ok (.dup, 1) := by decide +kernel
theorem d_mLines_init_1292 : decode b_mLines_init 1292 = .ok (.iconst 5, 1) := by decide +kernel
theorem d_mLines_init_1293 : decode b_mLines_init 1293 = .ok (.sipush 4116, 3) := by decide +kernel
theorem d_mLines_init_1296 : decode b_mLines_init 1296 = .ok (.iastore, 1) := by decide +kernel
theorem d_mLines_init_1297 : decode b_mLines_init 1297 = .ok (.dup, 1) := by decide +kernel
theorem d_mLines_init_1298 : decode b_mLines_init 1298 = .ok (.bipush 6, 2) := by decide +kernel
theorem d_mLines_init_1300 : decode b_mLines_init 1300 = .ok (.sipush 4117, 3) := by decide +kernel
theorem d_mLines_init_1303 : decode b_mLines_init 1303 = .ok (.iastore, 1) := by decide +kernel
theorem d_mLines_init_1304 : decode b_mLines_init 1304 = .ok (.dup, 1) := by decide +kernel
theorem d_mLines_init_1305 : decode b_mLines_init 1305 = .ok (.bipush 7, 2) := by decide +kernel
theorem d_mLines_init_1307 : decode b_mLines_init 1307 = .ok (.sipush 4118, 3) := by decide +kernel
theorem d_mLines_init_1310 : decode b_mLines_init 1310 = .ok (.iastore, 1) := by decide +kernel
theorem d_mLines_init_1311 : decode b_mLines_init 1311 = .ok (.dup, 1) := by decide +kernel
theorem d_mLines_init_1312 : decode b_mLines_init 1312 = .ok (.bipush 8, 2) := by decide +kernel
theorem d_mLines_init_1314 : decode b_mLines_init 1314 = .ok (.sipush 4119, 3) := by decide +kernel
theorem d_mLines_init_1317 : decode b_mLines_init 1317 = .ok (.iastore, 1) := by decide +kernel
theorem d_mLines_init_1318 : decode b_mLines_init 1318 = .ok (.dup, 1) := by decide +kernel
theorem d_mLines_init_1319 : decode b_mLines_init 1319 = .ok (.bipush 9, 2) := by decide +kernel
theorem d_mLines_init_1321 : decode b_mLines_init 1321 = .ok (.sipush 4124, 3) := by decide +kernel
theorem d_mLines_init_1324 : decode b_mLines_init 1324 = .ok (.iastore, 1) := by decide +kernel
theorem d_mLines_init_1325 : decode b_mLines_init 1325 = .ok (.dup, 1) := by decide +kernel
theorem d_mLines_init_1326 : decode b_mLines_init 1326 = .ok (.bipush 10, 2) := by decide +kernel
theorem d_mLines_init_1328 : decode b_mLines_init 1328 = .ok (.sipush 4125, 3) := by decide +kernel
theorem d_mLines_init_1331 : decode b_mLines_init 1331 = .ok (.iastore, 1) := by decide +kernel
theorem d_mLines_init_1332 : decode b_mLines_init 1332 = .ok (.dup, 1) := by decide +kernel
theorem d_mLines_init_1333 : decode b_mLines_init 1333 = .ok (.bipush 11, 2) := by decide +kernel
theorem d_mLines_init_1335 : decode b_mLines_init 1335 = .ok (.sipush 4126, 3) := by decide +kernel
theorem d_mLines_init_1338 : decode b_mLines_init 1338 = .ok (.iastore, 1) := by decide +kernel
theorem d_mLines_init_1339 : decode b_mLines_init 1339 = .ok (.dup, 1) := by decide +kernel
theorem d_mLines_init_1340 : decode b_mLines_init 1340 = .ok (.bipush 12, 2) := by decide +kernel
theorem d_mLines_init_1342 : decode b_mLines_init 1342 = .ok (.sipush 4127, 3) := by decide +kernel
theorem d_mLines_init_1345 : decode b_mLines_init 1345 = .ok (.iastore, 1) := by decide +kernel
theorem d_mLines_init_1346 : decode b_mLines_init 1346 = .ok (.putfield 22, 3) := by decide +kernel
theorem d_mLines_init_1349 : decode b_mLines_init 1349 = .ok (.aload_n 0, 1) := by decide +kernel
theorem d_mLines_init_1350 : decode b_mLines_init 1350 = .ok (.bipush 10, 2) := by decide +kernel
theorem d_mLines_init_1352 : decode b_mLines_init 1352 = .ok (.newarray .int, 2) := by decide +kernel
theorem d_mLines_init_1354 : decode b_mLines_init 1354 = .ok (.dup, 1) := by decide +kernel
theorem d_mLines_init_1355 : decode b_mLines_init 1355 = .ok (.iconst 0, 1) := by decide +kernel
theorem d_mLines_init_1356 : decode b_mLines_init 1356 = .ok (.bipush 17, 2) := by decide +kernel
theorem d_mLines_init_1358 : decode b_mLines_init 1358 = .ok (.iastore, 1) := by decide +kernel
theorem d_mLines_init_1359 : decode b_mLines_init 1359 = .ok (.dup, 1) := by decide +kernel
theorem d_mLines_init_1360 : decode b_mLines_init 1360 = .ok (.iconst 1, 1) := by decide +kernel
theorem d_mLines_init_1361 : decode b_mLines_init 1361 = .ok (.bipush 9, 2) := by decide +kernel
theorem d_mLines_init_1363 : decode b_mLines_init 1363 = .ok (.iastore, 1) := by decide +kernel
theorem d_mLines_init_1364 : decode b_mLines_init 1364 = .ok (.dup, 1) := by decide +kernel
theorem d_mLines_init_1365 : decode b_mLines_init 1365 = .ok (.iconst 2, 1) := by decide +kernel
theorem d_mLines_init_1366 : decode b_mLines_init 1366 = .ok (.sipush 130, 3) := by decide +kernel
theorem d_mLines_init_1369 : decode b_mLines_init 1369 = .ok (.iastore, 1) := by decide +kernel
theorem d_mLines_init_1370 : decode b_mLines_init 1370 = .ok (.dup, 1) := by decide +kernel
theorem d_mLines_init_1371 : decode b_mLines_init 1371 = .ok (.iconst 3, 1) := by decide +kernel
theorem d_mLines_init_1372 : decode b_mLines_init 1372 = .ok (.bipush 66, 2) := by decide +kernel
theorem d_mLines_init_1374 : decode b_mLines_init 1374 = .ok (.iastore, 1) := by decide +kernel
theorem d_mLines_init_1375 : decode b_mLines_init 1375 = .ok (.dup, 1) := by decide +kernel
theorem d_mLines_init_1376 : decode b_mLines_init 1376 = .ok (.iconst 4, 1) := by decide +kernel
theorem d_mLines_init_1377 : decode b_mLines_init 1377 = .ok (.bipush 10, 2) := by decide +kernel
theorem d_mLines_init_1379 : decode b_mLines_init 1379 = .ok (.iastore, 1) := by decide +kernel
theorem d_mLines_init_1380 : decode b_mLines_init 1380 = .ok (.dup, 1) := by decide +kernel
theorem d_mLines_init_1381 : decode b_mLines_init 1381 = .ok (.iconst 5, 1) := by decide +kernel
theorem d_mLines_init_1382 : decode b_mLines_init 1382 = .ok (.iconst 3, 1) := by decide +kernel
theorem d_mLines_init_1383 : decode b_mLines_init 1383 = .ok (.iastore, 1) := by decide +kernel
theorem d_mLines_init_1384 : decode b_mLines_init 1384 = .ok (.dup, 1) := by decide +kernel
theorem d_mLines_init_1385 : decode b_mLines_init 1385 = .ok (.bipush 6, 2) := by decide +kernel
theorem d_mLines_init_1387 : decode b_mLines_init 1387 = .ok (.bipush 11, 2) := by decide +kernel
theorem d_mLines_init_1389 : decode b_mLines_init 1389 = .ok (.iastore, 1) := by decide +kernel
theorem d_mLines_init_1390 : decode b_mLines_init 1390 = .ok (.dup, 1) := by decide +kernel
theorem d_mLines_init_1391 : decode b_mLines_init 1391 = .ok (.bipush 7, 2) := by decide +kernel
theorem d_mLines_init_1393 : decode b_mLines_init 1393 = .ok (.bipush 67, 2) := by decide +kernel
theorem d_mLines_init_1395 : decode b_mLines_init 1395 = .ok (.iastore, 1) := by decide +kernel
theorem d_mLines_init_1396 : decode b_mLines_init 1396 = .ok (.dup, 1) := by decide +kernel
theorem d_mLines_init_1397 : decode b_mLines_init 1397 = .ok (.bipush 8, 2) := by decide +kernel
theorem d_mLines_init_1399 : decode b_mLines_init 1399 = .ok (.sipush 131, 3) := by decide +kernel
theorem d_mLines_init_1402 : decode b_mLines_init 1402 = .ok (.iastore, 1) := by decide +kernel
theorem d_mLines_init_1403 : decode b_mLines_init 1403 = .ok (.dup, 1) := by decide +kernel
theorem d_mLines_init_1404 : decode b_mLines_init 1404 = .ok (.bipush 9, 2) := by decide +kernel
theorem d_mLines_init_1406 : decode b_mLines_init 1406 = .ok (.sipush 4097, 3) := by decide +kernel
theorem d_mLines_init_1409 : decode b_mLines_init 1409 = .ok (.iastore, 1) := by decide +kernel
theorem d_mLines_init_1410 : decode b_mLines_init 1410 = .ok (.putfield 25, 3) := by decide +kernel
theorem d_mLines_init_1413 : decode b_mLines_init 1413 = .ok (.aload_n 0, 1) := by decide +kernel
theorem d_mLines_init_1414 : decode b_mLines_init 1414 = .ok (.sipush 10000, 3) := by decide +kernel
theorem d_mLines_init_1417 : decode b_mLines_init 1417 = .ok (.newarray .boolean, 2) := by decide +kernel
theorem d_mLines_init_1419 : decode b_mLines_init 1419 = .ok (.putfield 28, 3) := by decide +kernel
theorem d_mLines_init_1422 : decode b_mLines_init 1422 = .ok (.aload_n 0, 1) := by decide +kernel
theorem d_mLines_init_1423 : decode b_mLines_init 1423 = .ok (.sipush 10000, 3) := by decide +kernel
theorem d_mLines_init_1426 : decode b_mLines_init 1426 = .ok (.newarray .boolean, 2) := by decide +kernel
theorem d_mLines_init_1428 : decode b_mLines_init 1428 = .ok (.putfield 32, 3) := by decide +kernel
theorem d_mLines_init_1431 : decode b_mLines_init 1431 = .ok (.aload_n 0, 1) := by decide +kernel
theorem d_mLines_init_1432 : decode b_mLines_init 1432 = .ok (.sipush 10000, 3) := by decide +kernel
theorem d_mLines_init_1435 : decode b_mLines_init 1435 = .ok (.newarray .boolean, 2) := by decide +kernel
theorem d_mLines_init_1437 : decode b_mLines_init 1437 = .ok (.putfield 35, 3) := by decide +kernel
theorem d_mLines_init_1440 : decode b_mLines_init 1440 = .ok (.aload_n 0, 1) := by decide +kernel
theorem d_mLines_init_1441 : decode b_mLines_init 1441 = .ok (.sipush 10000, 3) := by decide +kernel
theorem d_mLines_init_1444 : decode b_mLines_init 1444 = .ok (.newarray .boolean, 2) := by decide +kernel
theorem d_mLines_init_1446 : decode b_mLines_init 1446 = .ok (.putfield 38, 3) := by decide +kernel
theorem d_mLines_init_1449 : decode b_mLines_init 1449 = .ok (.aload_n 0, 1) := by decide +kernel
theorem d_mLines_init_1450 : decode b_mLines_init 1450 = .ok (.iload_n 1, 1) := by decide +kernel
theorem d_mLines_init_1451 : decode b_mLines_init 1451 = .ok (.newarray .byte, 2) := by decide +kernel
theorem d_mLines_init_1453 : decode b_mLines_init 1453 = .ok (.putfield 41, 3) := by decide +kernel
theorem d_mLines_init_1456 : decode b_mLines_init 1456 = .ok (.return_, 1) := by decide +kernel
