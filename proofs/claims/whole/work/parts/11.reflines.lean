theorem wd_10_81 : (Jvm.Cond.code ({ cls := "SheetPrinterModel$Lines", name := "<init>", desc := "(I)V" } : Jvm.MethodName) prog_16_method_1_code (2 : Nat) (Option.none : Option Jvm.ClassFile.FieldType)) ∈ gT := gT_in (in_10 _ (List.mem_of_getElem? (i := 81) rfl)) rfl
theorem wd_10_82 : (Jvm.Cond.methodLink "SheetPrinterModel$Lines" (1 : Nat) ({ cls := "java/lang/Object", name := "<init>", desc := "()V" } : Jvm.MethodName)) ∈ gT := gT_in (in_10 _ (List.mem_of_getElem? (i := 82) rfl)) rfl
theorem wd_10_83 : (Jvm.Cond.fieldLink "SheetPrinterModel$Lines" (7 : Nat) "SheetPrinterModel$Lines" "whiteRests" "[I") ∈ gT := gT_in (in_10 _ (List.mem_of_getElem? (i := 83) rfl)) rfl
theorem wd_10_84 : (Jvm.Cond.fieldLink "SheetPrinterModel$Lines" (13 : Nat) "SheetPrinterModel$Lines" "blackRests" "[I") ∈ gT := gT_in (in_10 _ (List.mem_of_getElem? (i := 84) rfl)) rfl
theorem wd_10_85 : (Jvm.Cond.fieldLink "SheetPrinterModel$Lines" (16 : Nat) "SheetPrinterModel$Lines" "whiteBlocks" "[I") ∈ gT := gT_in (in_10 _ (List.mem_of_getElem? (i := 85) rfl)) rfl
theorem wd_10_86 : (Jvm.Cond.fieldLink "SheetPrinterModel$Lines" (19 : Nat) "SheetPrinterModel$Lines" "blackBlocks" "[I") ∈ gT := gT_in (in_10 _ (List.mem_of_getElem? (i := 86) rfl)) rfl
theorem wd_10_87 : (Jvm.Cond.fieldLink "SheetPrinterModel$Lines" (22 : Nat) "SheetPrinterModel$Lines" "blocks" "[I") ∈ gT := gT_in (in_10 _ (List.mem_of_getElem? (i := 87) rfl)) rfl
theorem wd_10_88 : (Jvm.Cond.fieldLink "SheetPrinterModel$Lines" (25 : Nat) "SheetPrinterModel$Lines" "modes" "[I") ∈ gT := gT_in (in_10 _ (List.mem_of_getElem? (i := 88) rfl)) rfl
theorem wd_10_90 : (Jvm.Cond.fieldLink "SheetPrinterModel$Lines" (28 : Nat) "SheetPrinterModel$Lines" "line" "[Z") ∈ gT := gT_in (in_10 _ (List.mem_of_getElem? (i := 90) rfl)) rfl
theorem wd_10_92 : (Jvm.Cond.fieldLink "SheetPrinterModel$Lines" (32 : Nat) "SheetPrinterModel$Lines" "above" "[Z") ∈ gT := gT_in (in_10 _ (List.mem_of_getElem? (i := 92) rfl)) rfl
theorem wd_10_93 : (Jvm.Cond.fieldLink "SheetPrinterModel$Lines" (41 : Nat) "SheetPrinterModel$Lines" "out" "[B") ∈ gT := gT_in (in_10 _ (List.mem_of_getElem? (i := 93) rfl)) rfl
theorem wd_10_105 : (Jvm.Cond.fieldLink "SheetPrinterModel$Lines" (35 : Nat) "SheetPrinterModel$Lines" "readLine" "[Z") ∈ gT := gT_in (in_10 _ (List.mem_of_getElem? (i := 105) rfl)) rfl
theorem wd_10_106 : (Jvm.Cond.fieldLink "SheetPrinterModel$Lines" (38 : Nat) "SheetPrinterModel$Lines" "readAbove" "[Z") ∈ gT := gT_in (in_10 _ (List.mem_of_getElem? (i := 106) rfl)) rfl
theorem wd_10_108 : (Jvm.Cond.laysFinal "SheetPrinterModel$Lines" "SheetPrinterModel$Lines" "whiteRests" "[I") ∈ gT := gT_in (in_10 _ (List.mem_of_getElem? (i := 108) rfl)) rfl
theorem wd_10_110 : (Jvm.Cond.laysFinal "SheetPrinterModel$Lines" "SheetPrinterModel$Lines" "blackRests" "[I") ∈ gT := gT_in (in_10 _ (List.mem_of_getElem? (i := 110) rfl)) rfl
theorem wd_10_112 : (Jvm.Cond.laysFinal "SheetPrinterModel$Lines" "SheetPrinterModel$Lines" "whiteBlocks" "[I") ∈ gT := gT_in (in_10 _ (List.mem_of_getElem? (i := 112) rfl)) rfl
theorem wd_10_114 : (Jvm.Cond.laysFinal "SheetPrinterModel$Lines" "SheetPrinterModel$Lines" "blackBlocks" "[I") ∈ gT := gT_in (in_10 _ (List.mem_of_getElem? (i := 114) rfl)) rfl
theorem wd_10_116 : (Jvm.Cond.laysFinal "SheetPrinterModel$Lines" "SheetPrinterModel$Lines" "blocks" "[I") ∈ gT := gT_in (in_10 _ (List.mem_of_getElem? (i := 116) rfl)) rfl
theorem wd_10_118 : (Jvm.Cond.laysFinal "SheetPrinterModel$Lines" "SheetPrinterModel$Lines" "modes" "[I") ∈ gT := gT_in (in_10 _ (List.mem_of_getElem? (i := 118) rfl)) rfl
theorem wd_10_120 : (Jvm.Cond.lays "SheetPrinterModel$Lines" "SheetPrinterModel$Lines" "width" "I") ∈ gT := gT_in (in_10 _ (List.mem_of_getElem? (i := 120) rfl)) rfl
theorem wd_10_122 : (Jvm.Cond.laysFinal "SheetPrinterModel$Lines" "SheetPrinterModel$Lines" "line" "[Z") ∈ gT := gT_in (in_10 _ (List.mem_of_getElem? (i := 122) rfl)) rfl
theorem wd_10_124 : (Jvm.Cond.laysFinal "SheetPrinterModel$Lines" "SheetPrinterModel$Lines" "above" "[Z") ∈ gT := gT_in (in_10 _ (List.mem_of_getElem? (i := 124) rfl)) rfl
theorem wd_10_126 : (Jvm.Cond.laysFinal "SheetPrinterModel$Lines" "SheetPrinterModel$Lines" "out" "[B") ∈ gT := gT_in (in_10 _ (List.mem_of_getElem? (i := 126) rfl)) rfl
theorem wd_10_128 : (Jvm.Cond.lays "SheetPrinterModel$Lines" "SheetPrinterModel$Lines" "bits" "J") ∈ gT := gT_in (in_10 _ (List.mem_of_getElem? (i := 128) rfl)) rfl
theorem wd_10_130 : (Jvm.Cond.lays "SheetPrinterModel$Lines" "SheetPrinterModel$Lines" "from" "[B") ∈ gT := gT_in (in_10 _ (List.mem_of_getElem? (i := 130) rfl)) rfl
theorem wd_10_132 : (Jvm.Cond.lays "SheetPrinterModel$Lines" "SheetPrinterModel$Lines" "place" "I") ∈ gT := gT_in (in_10 _ (List.mem_of_getElem? (i := 132) rfl)) rfl
theorem wd_10_134 : (Jvm.Cond.lays "SheetPrinterModel$Lines" "SheetPrinterModel$Lines" "bytes" "I") ∈ gT := gT_in (in_10 _ (List.mem_of_getElem? (i := 134) rfl)) rfl
theorem wd_10_136 : (Jvm.Cond.lays "SheetPrinterModel$Lines" "SheetPrinterModel$Lines" "turned" "Z") ∈ gT := gT_in (in_10 _ (List.mem_of_getElem? (i := 136) rfl)) rfl
theorem wd_10_138 : (Jvm.Cond.lays "SheetPrinterModel$Lines" "SheetPrinterModel$Lines" "at" "I") ∈ gT := gT_in (in_10 _ (List.mem_of_getElem? (i := 138) rfl)) rfl
theorem wd_10_140 : (Jvm.Cond.lays "SheetPrinterModel$Lines" "SheetPrinterModel$Lines" "fault" "I") ∈ gT := gT_in (in_10 _ (List.mem_of_getElem? (i := 140) rfl)) rfl
theorem wd_10_142 : (Jvm.Cond.lays "SheetPrinterModel$Lines" "SheetPrinterModel$Lines" "ended" "Z") ∈ gT := gT_in (in_10 _ (List.mem_of_getElem? (i := 142) rfl)) rfl
theorem wd_10_144 : (Jvm.Cond.lays "SheetPrinterModel$Lines" "SheetPrinterModel$Lines" "turns" "Z") ∈ gT := gT_in (in_10 _ (List.mem_of_getElem? (i := 144) rfl)) rfl
theorem wd_10_146 : (Jvm.Cond.laysFinal "SheetPrinterModel$Lines" "SheetPrinterModel$Lines" "readLine" "[Z") ∈ gT := gT_in (in_10 _ (List.mem_of_getElem? (i := 146) rfl)) rfl
theorem wd_10_148 : (Jvm.Cond.laysFinal "SheetPrinterModel$Lines" "SheetPrinterModel$Lines" "readAbove" "[Z") ∈ gT := gT_in (in_10 _ (List.mem_of_getElem? (i := 148) rfl)) rfl
theorem i_mLines : ∀ w ∈ u_ws R_mLines F_mLines 21, w ∈ gT := by
  intro w h
  obtain ⟨k, hk, rfl⟩ := List.mem_map.mp h
  have hk := List.mem_range.mp hk
  match k, hk with
  | 0, _ => exact wd_10_108
  | 1, _ => exact wd_10_110
  | 2, _ => exact wd_10_112
  | 3, _ => exact wd_10_114
  | 4, _ => exact wd_10_116
  | 5, _ => exact wd_10_118
  | 6, _ => exact wd_10_120
  | 7, _ => exact wd_10_122
  | 8, _ => exact wd_10_124
  | 9, _ => exact wd_10_126
  | 10, _ => exact wd_10_128
  | 11, _ => exact wd_10_130
  | 12, _ => exact wd_10_132
  | 13, _ => exact wd_10_134
  | 14, _ => exact wd_10_136
  | 15, _ => exact wd_10_138
  | 16, _ => exact wd_10_140
  | 17, _ => exact wd_10_142
  | 18, _ => exact wd_10_144
  | 19, _ => exact wd_10_146
  | 20, _ => exact wd_10_148
  | k + 21, hk => exact absurd hk (by omega)
abbrev b_mLines_init : ByteArray := prog_16_method_1_code
abbrev y_mLines_init : MethodName := ⟨"SheetPrinterModel$Lines", "<init>", "(I)V"⟩
abbrev w_mLines_init : List Cond := .code y_mLines_init b_mLines_init 2 none :: gT
theorem gd_mLines_init : GoodIn gT w_mLines_init := gW wd_10_81
theorem d_mLines_init_0 : decode b_mLines_init 0 = .ok (.aload_n 0, 1) := by decide +kernel
theorem d_mLines_init_1 : decode b_mLines_init 1 = .ok (.invokespecial 1, 3) := by decide +kernel
theorem d_mLines_init_4 : decode b_mLines_init 4 = .ok (.aload_n 0, 1) := by decide +kernel
theorem d_mLines_init_5 : decode b_mLines_init 5 = .ok (.bipush 64, 2) := by decide +kernel
theorem d_mLines_init_7 : decode b_mLines_init 7 = .ok (.newarray .int, 2) := by decide +kernel
theorem d_mLines_init_9 : decode b_mLines_init 9 = .ok (.dup, 1) := by decide +kernel
theorem d_mLines_init_10 : decode b_mLines_init 10 = .ok (.iconst 0, 1) := by decide +kernel
theorem d_mLines_init_11 : decode b_mLines_init 11 = .ok (.sipush 309, 3) := by decide +kernel
theorem d_mLines_init_14 : decode b_mLines_init 14 = .ok (.iastore, 1) := by decide +kernel
theorem d_mLines_init_15 : decode b_mLines_init 15 = .ok (.dup, 1) := by decide +kernel
theorem d_mLines_init_16 : decode b_mLines_init 16 = .ok (.iconst 1, 1) := by decide +kernel
theorem d_mLines_init_17 : decode b_mLines_init 17 = .ok (.bipush 71, 2) := by decide +kernel
theorem d_mLines_init_19 : decode b_mLines_init 19 = .ok (.iastore, 1) := by decide +kernel
theorem d_mLines_init_20 : decode b_mLines_init 20 = .ok (.dup, 1) := by decide +kernel
theorem d_mLines_init_21 : decode b_mLines_init 21 = .ok (.iconst 2, 1) := by decide +kernel
theorem d_mLines_init_22 : decode b_mLines_init 22 = .ok (.bipush 23, 2) := by decide +kernel
theorem d_mLines_init_24 : decode b_mLines_init 24 = .ok (.iastore, 1) := by decide +kernel
theorem d_mLines_init_25 : decode b_mLines_init 25 = .ok (.dup, 1) := by decide +kernel
theorem d_mLines_init_26 : decode b_mLines_init 26 = .ok (.iconst 3, 1) := by decide +kernel
theorem d_mLines_init_27 : decode b_mLines_init 27 = .ok (.bipush 24, 2) := by decide +kernel
theorem d_mLines_init_29 : decode b_mLines_init 29 = .ok (.iastore, 1) := by decide +kernel
theorem d_mLines_init_30 : decode b_mLines_init 30 = .ok (.dup, 1) := by decide +kernel
theorem d_mLines_init_31 : decode b_mLines_init 31 = .ok (.iconst 4, 1) := by decide +kernel
theorem d_mLines_init_32 : decode b_mLines_init 32 = .ok (.bipush 27, 2) := by decide +kernel
theorem d_mLines_init_34 : decode b_mLines_init 34 = .ok (.iastore, 1) := by decide +kernel
theorem d_mLines_init_35 : decode b_mLines_init 35 = .ok (.dup, 1) := by decide +kernel
theorem d_mLines_init_36 : decode b_mLines_init 36 = .ok (.iconst 5, 1) := by decide +kernel
theorem d_mLines_init_37 : decode b_mLines_init 37 = .ok (.bipush 28, 2) := by decide +kernel
theorem d_mLines_init_39 : decode b_mLines_init 39 = .ok (.iastore, 1) := by decide +kernel
theorem d_mLines_init_40 : decode b_mLines_init 40 = .ok (.dup, 1) := by decide +kernel
theorem d_mLines_init_41 : decode b_mLines_init 41 = .ok (.bipush 6, 2) := by decide +kernel
theorem d_mLines_init_43 : decode b_mLines_init 43 = .ok (.bipush 30, 2) := by decide +kernel
theorem d_mLines_init_45 : decode b_mLines_init 45 = .ok (.iastore, 1) := by decide +kernel
theorem d_mLines_init_46 : decode b_mLines_init 46 = .ok (.dup, 1) := by decide +kernel
theorem d_mLines_init_47 : decode b_mLines_init 47 = .ok (.bipush 7, 2) := by decide +kernel
theorem d_mLines_init_49 : decode b_mLines_init 49 = .ok (.bipush 31, 2) := by decide +kernel
theorem d_mLines_init_51 : decode b_mLines_init 51 = .ok (.iastore, 1) := by decide +kernel
theorem d_mLines_init_52 : decode b_mLines_init 52 = .ok (.dup, 1) := by decide +kernel
theorem d_mLines_init_53 : decode b_mLines_init 53 = .ok (.bipush 8, 2) := by decide +kernel
theorem d_mLines_init_55 : decode b_mLines_init 55 = .ok (.bipush 51, 2) := by decide +kernel
theorem d_mLines_init_57 : decode b_mLines_init 57 = .ok (.iastore, 1) := by decide +kernel
theorem d_mLines_init_58 : decode b_mLines_init 58 = .ok (.dup, 1) := by decide +kernel
theorem d_mLines_init_59 : decode b_mLines_init 59 = .ok (.bipush 9, 2) := by decide +kernel
theorem d_mLines_init_61 : decode b_mLines_init 61 = .ok (.bipush 52, 2) := by decide +kernel
theorem d_mLines_init_63 : decode b_mLines_init 63 = .ok (.iastore, 1) := by decide +kernel
theorem d_mLines_init_64 : decode b_mLines_init 64 = .ok (.dup, 1) := by decide +kernel
theorem d_mLines_init_65 : decode b_mLines_init 65 = .ok (.bipush 10, 2) := by decide +kernel
theorem d_mLines_init_67 : decode b_mLines_init 67 = .ok (.bipush 39, 2) := by decide +kernel
theorem d_mLines_init_69 : decode b_mLines_init 69 = .ok (.iastore, 1) := by decide +kernel
theorem d_mLines_init_70 : decode b_mLines_init 70 = .ok (.dup, 1) := by decide +kernel
theorem d_mLines_init_71 : decode b_mLines_init 71 = .ok (.bipush 11, 2) := by decide +kernel
theorem d_mLines_init_73 : decode b_mLines_init 73 = .ok (.bipush 40, 2) := by decide +kernel
theorem d_mLines_init_75 : decode b_mLines_init 75 = .ok (.iastore, 1) := by decide +kernel
theorem d_mLines_init_76 : decode b_mLines_init 76 = .ok (.dup, 1) := by decide +kernel
theorem d_mLines_init_77 : decode b_mLines_init 77 = .ok (.bipush 12, 2) := by decide +kernel
theorem d_mLines_init_79 : decode b_mLines_init 79 = .ok (.bipush 72, 2) := by decide +kernel
theorem d_mLines_init_81 : decode b_mLines_init 81 = .ok (.iastore, 1) := by decide +kernel
theorem d_mLines_init_82 : decode b_mLines_init 82 = .ok (.dup, 1) := by decide +kernel
theorem d_mLines_init_83 : decode b_mLines_init 83 = .ok (.bipush 13, 2) := by decide +kernel
theorem d_mLines_init_85 : decode b_mLines_init 85 = .ok (.bipush 67, 2) := by decide +kernel
theorem d_mLines_init_87 : decode b_mLines_init 87 = .ok (.iastore, 1) := by decide +kernel
theorem d_mLines_init_88 : decode b_mLines_init 88 = .ok (.dup, 1) := by decide +kernel
theorem d_mLines_init_89 : decode b_mLines_init 89 = .ok (.bipush 14, 2) := by decide +kernel
theorem d_mLines_init_91 : decode b_mLines_init 91 = .ok (.bipush 116, 2) := by decide +kernel
theorem d_mLines_init_93 : decode b_mLines_init 93 = .ok (.iastore, 1) := by decide +kernel
theorem d_mLines_init_94 : decode b_mLines_init 94 = .ok (.dup, 1) := by decide +kernel
theorem d_mLines_init_95 : decode b_mLines_init 95 = .ok (.bipush 15, 2) := by decide +kernel
theorem d_mLines_init_97 : decode b_mLines_init 97 = .ok (.bipush 117, 2) := by decide +kernel
theorem d_mLines_init_99 : decode b_mLines_init 99 = .ok (.iastore, 1) := by decide +kernel
theorem d_mLines_init_100 : decode b_mLines_init 100 = .ok (.dup, 1) := by decide +kernel
theorem d_mLines_init_101 : decode b_mLines_init 101 = .ok (.bipush 16, 2) := by decide +kernel
theorem d_mLines_init_103 : decode b_mLines_init 103 = .ok (.bipush 106, 2) := by decide +kernel
theorem d_mLines_init_105 : decode b_mLines_init 105 = .ok (.iastore, 1) := by decide +kernel
theorem d_mLines_init_106 : decode b_mLines_init 106 = .ok (.dup, 1) := by decide +kernel
theorem d_mLines_init_107 : decode b_mLines_init 107 = .ok (.bipush 17, 2) := by decide +kernel
theorem d_mLines_init_109 : decode b_mLines_init 109 = .ok (.bipush 107, 2) := by decide +kernel
theorem d_mLines_init_111 : decode b_mLines_init 111 = .ok (.iastore, 1) := by decide +kernel
theorem d_mLines_init_112 : decode b_mLines_init 112 = .ok (.dup, 1) := by decide +kernel
theorem d_mLines_init_113 : decode b_mLines_init 113 = .ok (.bipush 18, 2) := by decide +kernel
theorem d_mLines_init_115 : decode b_mLines_init 115 = .ok (.sipush 167, 3) := by decide +kernel
theorem d_mLines_init_118 : decode b_mLines_init 118 = .ok (.iastore, 1) := by decide +kernel
theorem d_mLines_init_119 : decode b_mLines_init 119 = .ok (.dup, 1) := by decide +kernel
theorem d_mLines_init_120 : decode b_mLines_init 120 = .ok (.bipush 19, 2) := by decide +kernel
theorem d_mLines_init_122 : decode b_mLines_init 122 = .ok (.sipush 140, 3) := by decide +kernel
theorem d_mLines_init_125 : decode b_mLines_init 125 = .ok (.iastore, 1) := by decide +kernel
theorem d_mLines_init_126 : decode b_mLines_init 126 = .ok (.dup, 1) := by decide +kernel
theorem d_mLines_init_127 : decode b_mLines_init 127 = .ok (.bipush 20, 2) := by decide +kernel
theorem d_mLines_init_129 : decode b_mLines_init 129 = .ok (.sipush 136, 3) := by decide +kernel
theorem d_mLines_init_132 : decode b_mLines_init 132 = .ok (.iastore, 1) := by decide +kernel
theorem d_mLines_init_133 : decode b_mLines_init 133 = .ok (.dup, 1) := by decide +kernel
theorem d_mLines_init_134 : decode b_mLines_init 134 = .ok (.bipush 21, 2) := by decide +kernel
theorem d_mLines_init_136 : decode b_mLines_init 136 = .ok (.sipush 151, 3) := by decide +kernel
theorem d_mLines_init_139 : decode b_mLines_init 139 = .ok (.iastore, 1) := by decide +kernel
theorem d_mLines_init_140 : decode b_mLines_init 140 = .ok (.dup, 1) := by decide +kernel
theorem d_mLines_init_141 : decode b_mLines_init 141 = .ok (.bipush 22, 2) := by decide +kernel
theorem d_mLines_init_143 : decode b_mLines_init 143 = .ok (.sipush 131, 3) := by decide +kernel
theorem d_mLines_init_146 : decode b_mLines_init 146 = .ok (.iastore, 1) := by decide +kernel
theorem d_mLines_init_147 : decode b_mLines_init 147 = .ok (.dup, 1) := by decide +kernel
theorem d_mLines_init_148 : decode b_mLines_init 148 = .ok (.bipush 23, 2) := by decide +kernel
theorem d_mLines_init_150 : decode b_mLines_init 150 = .ok (.sipush 132, 3) := by decide +kernel
theorem d_mLines_init_153 : decode b_mLines_init 153 = .ok (.iastore, 1) := by decide +kernel
theorem d_mLines_init_154 : decode b_mLines_init 154 = .ok (.dup, 1) := by decide +kernel
theorem d_mLines_init_155 : decode b_mLines_init 155 = .ok (.bipush 24, 2) := by decide +kernel
theorem d_mLines_init_157 : decode b_mLines_init 157 = .ok (.sipush 168, 3) := by decide +kernel
theorem d_mLines_init_160 : decode b_mLines_init 160 = .ok (.iastore, 1) := by decide +kernel
theorem d_mLines_init_161 : decode b_mLines_init 161 = .ok (.dup, 1) := by decide +kernel
theorem d_mLines_init_162 : decode b_mLines_init 162 = .ok (.bipush 25, 2) := by decide +kernel
theorem d_mLines_init_164 : decode b_mLines_init 164 = .ok (.sipush 171, 3) := by decide +kernel
theorem d_mLines_init_167 : decode b_mLines_init 167 = .ok (.iastore, 1) := by decide +kernel
theorem d_mLines_init_168 : decode b_mLines_init 168 = .ok (.dup, 1) := by decide +kernel
theorem d_mLines_init_169 : decode b_mLines_init 169 = .ok (.bipush 26, 2) := by decide +kernel
theorem d_mLines_init_171 : decode b_mLines_init 171 = .ok (.sipush 147, 3) := by decide +kernel
theorem d_mLines_init_174 : decode b_mLines_init 174 = .ok (.iastore, 1) := by decide +kernel
theorem d_mLines_init_175 : decode b_mLines_init 175 = .ok (.dup, 1) := by decide +kernel
theorem d_mLines_init_176 : decode b_mLines_init 176 = .ok (.bipush 27, 2) := by decide +kernel
theorem d_mLines_init_178 : decode b_mLines_init 178 = .ok (.sipush 164, 3) := by decide +kernel
theorem d_mLines_init_181 : decode b_mLines_init 181 = .ok (.iastore, 1) := by decide +kernel
theorem d_mLines_init_182 : decode b_mLines_init 182 = .ok (.dup, 1) := by decide +kernel
theorem d_mLines_init_183 : decode b_mLines_init 183 = .ok (.bipush 28, 2) := by decide +kernel
theorem d_mLines_init_185 : decode b_mLines_init 185 = .ok (.sipush 152, 3) := by decide +kernel
theorem d_mLines_init_188 : decode b_mLines_init 188 = .ok (.iastore, 1) := by decide +kernel
theorem d_mLines_init_189 : decode b_mLines_init 189 = .ok (.dup, 1) := by decide +kernel
theorem d_mLines_init_190 : decode b_mLines_init 190 = .ok (.bipush 29, 2) := by decide +kernel
theorem d_mLines_init_192 : decode b_mLines_init 192 = .ok (.sipush 258, 3) := by decide +kernel
theorem d_mLines_init_195 : decode b_mLines_init 195 = .ok (.iastore, 1) := by decide +kernel
theorem d_mLines_init_196 : decode b_mLines_init 196 = .ok (.dup, 1) := by decide +kernel
theorem d_mLines_init_197 : decode b_mLines_init 197 = .ok (.bipush 30, 2) := by decide +kernel
theorem d_mLines_init_199 : decode b_mLines_init 199 = .ok (.sipush 259, 3) := by decide +kernel
theorem d_mLines_init_202 : decode b_mLines_init 202 = .ok (.iastore, 1) := by decide +kernel
theorem d_mLines_init_203 : decode b_mLines_init 203 = .ok (.dup, 1) := by decide +kernel
theorem d_mLines_init_204 : decode b_mLines_init 204 = .ok (.bipush 31, 2) := by decide +kernel
theorem d_mLines_init_206 : decode b_mLines_init 206 = .ok (.sipush 282, 3) := by decide +kernel
theorem d_mLines_init_209 : decode b_mLines_init 209 = .ok (.iastore, 1) := by decide +kernel
theorem d_mLines_init_210 : decode b_mLines_init 210 = .ok (.dup, 1) := by decide +kernel
theorem d_mLines_init_211 : decode b_mLines_init 211 = .ok (.bipush 32, 2) := by decide +kernel
theorem d_mLines_init_213 : decode b_mLines_init 213 = .ok (.sipush 283, 3) := by decide +kernel
theorem d_mLines_init_216 : decode b_mLines_init 216 = .ok (.iastore, 1) := by decide +kernel
theorem d_mLines_init_217 : decode b_mLines_init 217 = .ok (.dup, 1) := by decide +kernel
theorem d_mLines_init_218 : decode b_mLines_init 218 = .ok (.bipush 33, 2) := by decide +kernel
theorem d_mLines_init_220 : decode b_mLines_init 220 = .ok (.sipush 274, 3) := by decide +kernel
theorem d_mLines_init_223 : decode b_mLines_init 223 = .ok (.iastore, 1) := by decide +kernel
theorem d_mLines_init_224 : decode b_mLines_init 224 = .ok (.dup, 1) := by decide +kernel
theorem d_mLines_init_225 : decode b_mLines_init 225 = .ok (.bipush 34, 2) := by decide +kernel
theorem d_mLines_init_227 : decode b_mLines_init 227 = .ok (.sipush 275, 3) := by decide +kernel
theorem d_mLines_init_230 : decode b_mLines_init 230 = .ok (.iastore, 1) := by decide +kernel
theorem d_mLines_init_231 : decode b_mLines_init 231 = .ok (.dup, 1) := by decide +kernel
theorem d_mLines_init_232 : decode b_mLines_init 232 = .ok (.bipush 35, 2) := by decide +kernel
theorem d_mLines_init_234 : decode b_mLines_init 234 = .ok (.sipush 276, 3) := by decide +kernel
theorem d_mLines_init_237 : decode b_mLines_init 237 = .ok (.iastore, 1) := by decide +kernel
theorem d_mLines_init_238 : decode b_mLines_init 238 = .ok (.dup, 1) := by decide +kernel
theorem d_mLines_init_239 : decode b_mLines_init 239 = .ok (.bipush 36, 2) := by decide +kernel
theorem d_mLines_init_241 : decode b_mLines_init 241 = .ok (.sipush 277, 3) := by decide +kernel
theorem d_mLines_init_244 : decode b_mLines_init 244 = .ok (.iastore, 1) := by decide +kernel
theorem d_mLines_init_245 : decode b_mLines_init 245 = .ok (.dup, 1) := by decide +kernel
theorem d_mLines_init_246 : decode b_mLines_init 246 = .ok (.bipush 37, 2) := by decide +kernel
theorem d_mLines_init_248 : decode b_mLines_init 248 = .ok (.sipush 278, 3) := by decide +kernel
theorem d_mLines_init_251 : decode b_mLines_init 251 = .ok (.iastore, 1) := by decide +kernel
theorem d_mLines_init_252 : decode b_mLines_init 252 = .ok (.dup, 1) := by decide +kernel
theorem d_mLines_init_253 : decode b_mLines_init 253 = .ok (.bipush 38, 2) := by decide +kernel
theorem d_mLines_init_255 : decode b_mLines_init 255 = .ok (.sipush 279, 3) := by decide +kernel
theorem d_mLines_init_258 : decode b_mLines_init 258 = .ok (.iastore, 1) := by decide +kernel
theorem d_mLines_init_259 : decode b_mLines_init 259 = .ok (.dup, 1) := by decide +kernel
theorem d_mLines_init_260 : decode b_mLines_init 260 = .ok (.bipush 39, 2) := by decide +kernel
theorem d_mLines_init_262 : decode b_mLines_init 262 = .ok (.sipush 296, 3) := by decide +kernel
theorem d_mLines_init_265 : decode b_mLines_init 265 = .ok (.iastore, 1) := by decide +kernel
theorem d_mLines_init_266 : decode b_mLines_init 266 = .ok (.dup, 1) := by decide +kernel
theorem d_mLines_init_267 : decode b_mLines_init 267 = .ok (.bipush 40, 2) := by decide +kernel
theorem d_mLines_init_269 : decode b_mLines_init 269 = .ok (.sipush 297, 3) := by decide +kernel
theorem d_mLines_init_272 : decode b_mLines_init 272 = .ok (.iastore, 1) := by decide +kernel
theorem d_mLines_init_273 : decode b_mLines_init 273 = .ok (.dup, 1) := by decide +kernel
theorem d_mLines_init_274 : decode b_mLines_init 274 = .ok (.bipush 41, 2) := by decide +kernel
theorem d_mLines_init_276 : decode b_mLines_init 276 = .ok (.sipush 298, 3) := by decide +kernel
theorem d_mLines_init_279 : decode b_mLines_init 279 = .ok (.iastore, 1) := by decide +kernel
theorem d_mLines_init_280 : decode b_mLines_init 280 = .ok (.dup, 1) := by decide +kernel
theorem d_mLines_init_281 : decode b_mLines_init 281 = .ok (.bipush 42, 2) := by decide +kernel
theorem d_mLines_init_283 : decode b_mLines_init 283 = .ok (.sipush 299, 3) := by decide +kernel
theorem d_mLines_init_286 : decode b_mLines_init 286 = .ok (.iastore, 1) := by decide +kernel
theorem d_mLines_init_287 : decode b_mLines_init 287 = .ok (.dup, 1) := by decide +kernel
theorem d_mLines_init_288 : decode b_mLines_init 288 = .ok (.bipush 43, 2) := by decide +kernel
theorem d_mLines_init_290 : decode b_mLines_init 290 = .ok (.sipush 300, 3) := by decide +kernel
theorem d_mLines_init_293 : decode b_mLines_init 293 = .ok (.iastore, 1) := by decide +kernel
theorem d_mLines_init_294 : decode b_mLines_init 294 = .ok (.dup, 1) := by decide +kernel
theorem d_mLines_init_295 : decode b_mLines_init 295 = .ok (.bipush 44, 2) := by decide +kernel
theorem d_mLines_init_297 : decode b_mLines_init 297 = .ok (.sipush 301, 3) := by decide +kernel
theorem d_mLines_init_300 : decode b_mLines_init 300 = .ok (.iastore, 1) := by decide +kernel
theorem d_mLines_init_301 : decode b_mLines_init 301 = .ok (.dup, 1) := by decide +kernel
theorem d_mLines_init_302 : decode b_mLines_init 302 = .ok (.bipush 45, 2) := by decide +kernel
theorem d_mLines_init_304 : decode b_mLines_init 304 = .ok (.sipush 260, 3) := by decide +kernel
theorem d_mLines_init_307 : decode b_mLines_init 307 = .ok (.iastore, 1) := by decide +kernel
theorem d_mLines_init_308 : decode b_mLines_init 308 = .ok (.dup, 1) := by decide +kernel
theorem d_mLines_init_309 : decode b_mLines_init 309 = .ok (.bipush 46, 2) := by decide +kernel
theorem d_mLines_init_311 : decode b_mLines_init 311 = .ok (.sipush 261, 3) := by decide +kernel
theorem d_mLines_init_314 : decode b_mLines_init 314 = .ok (.iastore, 1) := by decide +kernel
theorem d_mLines_init_315 : decode b_mLines_init 315 = .ok (.dup, 1) := by decide +kernel
theorem d_mLines_init_316 : decode b_mLines_init 316 = .ok (.bipush 47, 2) := by decide +kernel
theorem d_mLines_init_318 : decode b_mLines_init 318 = .ok (.sipush 266, 3) := by decide +kernel
theorem d_mLines_init_321 : decode b_mLines_init 321 = .ok (.iastore, 1) := by decide +kernel
theorem d_mLines_init_322 : decode b_mLines_init 322 = .ok (.dup, 1) := by decide +kernel
theorem d_mLines_init_323 : decode b_mLines_init 323 = .ok (.bipush 48, 2) := by decide +kernel
theorem d_mLines_init_325 : decode b_mLines_init 325 = .ok (.sipush 267, 3) := by decide +kernel
theorem d_mLines_init_328 : decode b_mLines_init 328 = .ok (.iastore, 1) := by decide +kernel
theorem d_mLines_init_329 : decode b_mLines_init 329 = .ok (.dup, 1) := by decide +kernel
theorem d_mLines_init_330 : decode b_mLines_init 330 = .ok (.bipush 49, 2) := by decide +kernel
theorem d_mLines_init_332 : decode b_mLines_init 332 = .ok (.sipush 338, 3) := by decide +kernel
theorem d_mLines_init_335 : decode b_mLines_init 335 = .ok (.iastore, 1) := by decide +kernel
theorem d_mLines_init_336 : decode b_mLines_init 336 = .ok (.dup, 1) := by decide +kernel
theorem d_mLines_init_337 : decode b_mLines_init 337 = .ok (.bipush 50, 2) := by decide +kernel
theorem d_mLines_init_339 : decode b_mLines_init 339 = .ok (.sipush 339, 3) := by decide +kernel
theorem d_mLines_init_342 : decode b_mLines_init 342 = .ok (.iastore, 1) := by decide +kernel
theorem d_mLines_init_343 : decode b_mLines_init 343 = .ok (.dup, 1) := by decide +kernel
theorem d_mLines_init_344 : decode b_mLines_init 344 = .ok (.bipush 51, 2) := by decide +kernel
theorem d_mLines_init_346 : decode b_mLines_init 346 = .ok (.sipush 340, 3) := by decide +kernel
theorem d_mLines_init_349 : decode b_mLines_init 349 = .ok (.iastore, 1) := by decide +kernel
theorem d_mLines_init_350 : decode b_mLines_init 350 = .ok (.dup, 1) := by decide +kernel
theorem d_mLines_init_351 : decode b_mLines_init 351 = .ok (.bipush 52, 2) := by decide +kernel
theorem d_mLines_init_353 : decode b_mLines_init 353 = .ok (.sipush 341, 3) := by decide +kernel
theorem d_mLines_init_356 : decode b_mLines_init 356 = .ok (.iastore, 1) := by decide +kernel
theorem d_mLines_init_357 : decode b_mLines_init 357 = .ok (.dup, 1) := by decide +kernel
theorem d_mLines_init_358 : decode b_mLines_init 358 = .ok (.bipush 53, 2) := by decide +kernel
theorem d_mLines_init_360 : decode b_mLines_init 360 = .ok (.sipush 292, 3) := by decide +kernel
theorem d_mLines_init_363 : decode b_mLines_init 363 = .ok (.iastore, 1) := by decide +kernel
theorem d_mLines_init_364 : decode b_mLines_init 364 = .ok (.dup, 1) := by decide +kernel
theorem d_mLines_init_365 : decode b_mLines_init 365 = .ok (.bipush 54, 2) := by decide +kernel
theorem d_mLines_init_367 : decode b_mLines_init 367 = .ok (.sipush 293, 3) := by decide +kernel
theorem d_mLines_init_370 : decode b_mLines_init 370 = .ok (.iastore, 1) := by decide +kernel
theorem d_mLines_init_371 : decode b_mLines_init 371 = .ok (.dup, 1) := by decide +kernel
theorem d_mLines_init_372 : decode b_mLines_init 372 = .ok (.bipush 55, 2) := by decide +kernel
theorem d_mLines_init_374 : decode b_mLines_init 374 = .ok (.sipush 344, 3) := by decide +kernel
theorem d_mLines_init_377 : decode b_mLines_init 377 = .ok (.iastore, 1) := by decide +kernel
theorem d_mLines_init_378 : decode b_mLines_init 378 = .ok (.dup, 1) := by decide +kernel
theorem d_mLines_init_379 : decode b_mLines_init 379 = .ok (.bipush 56, 2) := by decide +kernel
theorem d_mLines_init_381 : decode b_mLines_init 381 = .ok (.sipush 345, 3) := by decide +kernel
theorem d_mLines_init_384 : decode b_mLines_init 384 = .ok (.iastore, 1) := by decide +kernel
theorem d_mLines_init_385 : decode b_mLines_init 385 = .ok (.dup, 1) := by decide +kernel
theorem d_mLines_init_386 : decode b_mLines_init 386 = .ok (.bipush 57, 2) := by decide +kernel
theorem d_mLines_init_388 : decode b_mLines_init 388 = .ok (.sipush 346, 3) := by decide +kernel
theorem d_mLines_init_391 : decode b_mLines_init 391 = .ok (.iastore, 1) := by decide +kernel
theorem d_mLines_init_392 : decode b_mLines_init 392 = .ok (.dup, 1) := by decide +kernel
theorem d_mLines_init_393 : decode b_mLines_init 393 = .ok (.bipush 58, 2) := by decide +kernel
theorem d_mLines_init_395 : decode b_mLines_init 395 = .ok (.sipush 347, 3) := by decide +kernel
theorem d_mLines_init_398 : decode b_mLines_init 398 = .ok (.iastore, 1) := by decide +kernel
theorem d_mLines_init_399 : decode b_mLines_init 399 = .ok (.dup, 1) := by decide +kernel
theorem d_mLines_init_400 : decode b_mLines_init 400 = .ok (.bipush 59, 2) := by decide +kernel
theorem d_mLines_init_402 : decode b_mLines_init 402 = .ok (.sipush 330, 3) := by decide +kernel
theorem d_mLines_init_405 : decode b_mLines_init 405 = .ok (.iastore, 1) := by decide +kernel
theorem d_mLines_init_406 : decode b_mLines_init 406 = .ok (.dup, 1) := by decide +kernel
theorem d_mLines_init_407 : decode b_mLines_init 407 = .ok (.bipush 60, 2) := by decide +kernel
theorem d_mLines_init_409 : decode b_mLines_init 409 = .ok (.sipush 331, 3) := by decide +kernel
theorem d_mLines_init_412 : decode b_mLines_init 412 = .ok (.iastore, 1) := by decide +kernel
theorem d_mLines_init_413 : decode b_mLines_init 413 = .ok (.dup, 1) := by decide +kernel
theorem d_mLines_init_414 : decode b_mLines_init 414 = .ok (.bipush 61, 2) := by decide +kernel
theorem d_mLines_init_416 : decode b_mLines_init 416 = .ok (.sipush 306, 3) := by decide +kernel
theorem d_mLines_init_419 : decode b_mLines_init 419 = .ok (.iastore, 1) := by decide +kernel
theorem d_mLines_init_420 : decode b_mLines_init 420 = .ok (.dup, 1) := by decide +kernel
theorem d_mLines_init_421 : decode b_mLines_init 421 = .ok (.bipush 62, 2) := by decide +kernel
theorem d_mLines_init_423 : decode b_mLines_init 423 = .ok (.sipush 307, 3) := by decide +kernel
theorem d_mLines_init_426 : decode b_mLines_init 426 = .ok (.iastore, 1) := by decide +kernel
theorem d_mLines_init_427 : decode b_mLines_init 427 = .ok (.dup, 1) := by decide +kernel
theorem d_mLines_init_428 : decode b_mLines_init 428 = .ok (.bipush 63, 2) := by decide +kernel
theorem d_mLines_init_430 : decode b_mLines_init 430 = .ok (.sipush 308, 3) := by decide +kernel
theorem d_mLines_init_433 : decode b_mLines_init 433 = .ok (.iastore, 1) := by decide +kernel
theorem d_mLines_init_434 : decode b_mLines_init 434 = .ok (.putfield 7, 3) := by decide +kernel
theorem d_mLines_init_437 : decode b_mLines_init 437 = .ok (.aload_n 0, 1) := by decide +kernel
theorem d_mLines_init_438 : decode b_mLines_init 438 = .ok (.bipush 64, 2) := by decide +kernel
theorem d_mLines_init_440 : decode b_mLines_init 440 = .ok (.newarray .int, 2) := by decide +kernel
theorem d_mLines_init_442 : decode b_mLines_init 442 = .ok (.dup, 1) := by decide +kernel
theorem d_mLines_init_443 : decode b_mLines_init 443 = .ok (.iconst 0, 1) := by decide +kernel
theorem d_mLines_init_444 : decode b_mLines_init 444 = .ok (.sipush 1079, 3) := by decide +kernel
theorem d_mLines_init_447 : decode b_mLines_init 447 = .ok (.iastore, 1) := by decide +kernel
theorem d_mLines_init_448 : decode b_mLines_init 448 = .ok (.dup, 1) := by decide +kernel
theorem d_mLines_init_449 : decode b_mLines_init 449 = .ok (.iconst 1, 1) := by decide +kernel
theorem d_mLines_init_450 : decode b_mLines_init 450 = .ok (.bipush 10, 2) := by decide +kernel
theorem d_mLines_init_452 : decode b_mLines_init 452 = .ok (.iastore, 1) := by decide +kernel
theorem d_mLines_init_453 : decode b_mLines_init 453 = .ok (.dup, 1) := by decide +kernel
theorem d_mLines_init_454 : decode b_mLines_init 454 = .ok (.iconst 2, 1) := by decide +kernel
theorem d_mLines_init_455 : decode b_mLines_init 455 = .ok (.bipush 7, 2) := by decide +kernel
theorem d_mLines_init_457 : decode b_mLines_init 457 = .ok (.iastore, 1) := by decide +kernel
theorem d_mLines_init_458 : decode b_mLines_init 458 = .ok (.dup, 1) := by decide +kernel
theorem d_mLines_init_459 : decode b_mLines_init 459 = .ok (.iconst 3, 1) := by decide +kernel
theorem d_mLines_init_460 : decode b_mLines_init 460 = .ok (.bipush 6, 2) := by decide +kernel
theorem d_mLines_init_462 : decode b_mLines_init 462 = .ok (.iastore, 1) := by decide +kernel
theorem d_mLines_init_463 : decode b_mLines_init 463 = .ok (.dup, 1) := by decide +kernel
theorem d_mLines_init_464 : decode b_mLines_init 464 = .ok (.iconst 4, 1) := by decide +kernel
theorem d_mLines_init_465 : decode b_mLines_init 465 = .ok (.bipush 11, 2) := by decide +kernel
theorem d_mLines_init_467 : decode b_mLines_init 467 = .ok (.iastore, 1) := by decide +kernel
theorem d_mLines_init_468 : decode b_mLines_init 468 = .ok (.dup, 1) := by decide +kernel
theorem d_mLines_init_469 : decode b_mLines_init 469 = .ok (.iconst 5, 1) := by decide +kernel
theorem d_mLines_init_470 : decode b_mLines_init 470 = .ok (.bipush 19, 2) := by decide +kernel
theorem d_mLines_init_472 : decode b_mLines_init 472 = .ok (.iastore, 1) := by decide +kernel
theorem d_mLines_init_473 : decode b_mLines_init 473 = .ok (.dup, 1) := by decide +kernel
theorem d_mLines_init_474 : decode b_mLines_init 474 = .ok (.bipush 6, 2) := by decide +kernel
theorem d_mLines_init_476 : decode b_mLines_init 476 = .ok (.bipush 18, 2) := by decide +kernel
theorem d_mLines_init_478 : decode b_mLines_init 478 = .ok (.iastore, 1) := by decide +kernel
theorem d_mLines_init_479 : decode b_mLines_init 479 = .ok (.dup, 1) := by decide +kernel
theorem d_mLines_init_480 : decode b_mLines_init 480 = .ok (.bipush 7, 2) := by decide +kernel
theorem d_mLines_init_482 : decode b_mLines_init 482 = .ok (.bipush 35, 2) := by decide +kernel
theorem d_mLines_init_484 : decode b_mLines_init 484 = .ok (.iastore, 1) := by decide +kernel
theorem d_mLines_init_485 : decode b_mLines_init 485 = .ok (.dup, 1) := by decide +kernel
theorem d_mLines_init_486 : decode b_mLines_init 486 = .ok (.bipush 8, 2) := by decide +kernel
theorem d_mLines_init_488 : decode b_mLines_init 488 = .ok (.bipush 69, 2) := by decide +kernel
theorem d_mLines_init_490 : decode b_mLines_init 490 = .ok (.iastore, 1) := by decide +kernel
theorem d_mLines_init_491 : decode b_mLines_init 491 = .ok (.dup, 1) := by decide +kernel
theorem d_mLines_init_492 : decode b_mLines_init 492 = .ok (.bipush 9, 2) := by decide +kernel
theorem d_mLines_init_494 : decode b_mLines_init 494 = .ok (.bipush 68, 2) := by decide +kernel
theorem d_mLines_init_496 : decode b_mLines_init 496 = .ok (.iastore, 1) := by decide +kernel
theorem d_mLines_init_497 : decode b_mLines_init 497 = .ok (.dup, 1) := by decide +kernel
theorem d_mLines_init_498 : decode b_mLines_init 498 = .ok (.bipush 10, 2) := by decide +kernel
theorem d_mLines_init_500 : decode b_mLines_init 500 = .ok (.sipush 132, 3) := by decide +kernel
theorem d_mLines_init_503 : decode b_mLines_init 503 = .ok (.iastore, 1) := by decide +kernel
theorem d_mLines_init_504 : decode b_mLines_init 504 = .ok (.dup, 1) := by decide +kernel
theorem d_mLines_init_505 : decode b_mLines_init 505 = .ok (.bipush 11, 2) := by decide +kernel
theorem d_mLines_init_507 : decode b_mLines_init 507 = .ok (.sipush 133, 3) := by decide +kernel
theorem d_mLines_init_510 : decode b_mLines_init 510 = .ok (.iastore, 1) := by decide +kernel
theorem d_mLines_init_511 : decode b_mLines_init 511 = .ok (.dup, 1) := by decide +kernel
theorem d_mLines_init_512 : decode b_mLines_init 512 = .ok (.bipush 12, 2) := by decide +kernel
theorem d_mLines_init_514 : decode b_mLines_init 514 = .ok (.sipush 135, 3) := by decide +kernel
theorem d_mLines_init_517 : decode b_mLines_init 517 = .ok (.iastore, 1) := by decide +kernel
theorem d_mLines_init_518 : decode b_mLines_init 518 = .ok (.dup, 1) := by decide +kernel
theorem d_mLines_init_519 : decode b_mLines_init 519 = .ok (.bipush 13, 2) := by decide +kernel
theorem d_mLines_init_521 : decode b_mLines_init 521 = .ok (.sipush 260, 3) := by decide +kernel
theorem d_mLines_init_524 : decode b_mLines_init 524 = .ok (.iastore, 1) := by decide +kernel
theorem d_mLines_init_525 : decode b_mLines_init 525 = .ok (.dup, 1) := by decide +kernel
theorem d_mLines_init_526 : decode b_mLines_init 526 = .ok (.bipush 14, 2) := by decide +kernel
theorem d_mLines_init_528 : decode b_mLines_init 528 = .ok (.sipush 263, 3) := by decide +kernel
theorem d_mLines_init_531 : decode b_mLines_init 531 = .ok (.iastore, 1) := by decide +kernel
theorem d_mLines_init_532 : decode b_mLines_init 532 = .ok (.dup, 1) := by decide +kernel
theorem d_mLines_init_533 : decode b_mLines_init 533 = .ok (.bipush 15, 2) := by decide +kernel
theorem d_mLines_init_535 : decode b_mLines_init 535 = .ok (.sipush 536, 3) := by decide +kernel
theorem d_mLines_init_538 : decode b_mLines_init 538 = .ok (.iastore, 1) := by decide +kernel
theorem d_mLines_init_539 : decode b_mLines_init 539 = .ok (.dup, 1) := by decide +kernel
theorem d_mLines_init_540 : decode b_mLines_init 540 = .ok (.bipush 16, 2) := by decide +kernel
theorem d_mLines_init_542 : decode b_mLines_init 542 = .ok (.sipush 1047, 3) := by decide +kernel
theorem d_mLines_init_545 : decode b_mLines_init 545 = .ok (.iastore, 1) := by decide +kernel
theorem d_mLines_init_546 : decode b_mLines_init 546 = .ok (.dup, 1) := by decide +kernel
theorem d_mLines_init_547 : decode b_mLines_init 547 = .ok (.bipush 17, 2) := by decide +kernel
theorem d_mLines_init_549 : decode b_mLines_init 549 = .ok (.sipush 1048, 3) := by decide +kernel
theorem d_mLines_init_552 : decode b_mLines_init 552 = .ok (.iastore, 1) := by decide +kernel
theorem d_mLines_init_553 : decode b_mLines_init 553 = .ok (.dup, 1) := by decide +kernel
theorem d_mLines_init_554 : decode b_mLines_init 554 = .ok (.bipush 18, 2) := by decide +kernel
theorem d_mLines_init_556 : decode b_mLines_init 556 = .ok (.sipush 1032, 3) := by decide +kernel
theorem d_mLines_init_559 : decode b_mLines_init 559 = .ok (.iastore, 1) := by decide +kernel
theorem d_mLines_init_560 : decode b_mLines_init 560 = .ok (.dup, 1) := by decide +kernel
theorem d_mLines_init_561 : decode b_mLines_init 561 = .ok (.bipush 19, 2) := by decide +kernel
theorem d_mLines_init_563 : decode b_mLines_init 563 = .ok (.sipush 2151, 3) := by decide +kernel
theorem d_mLines_init_566 : decode b_mLines_init 566 = .ok (.iastore, 1) := by decide +kernel
theorem d_mLines_init_567 : decode b_mLines_init 567 = .ok (.dup, 1) := by decide +kernel
theorem d_mLines_init_568 : decode b_mLines_init 568 = .ok (.bipush 20, 2) := by decide +kernel
theorem d_mLines_init_570 : decode b_mLines_init 570 = .ok (.sipush 2152, 3) := by decide +kernel
theorem d_mLines_init_573 : decode b_mLines_init 573 = .ok (.iastore, 1) := by decide +kernel
theorem d_mLines_init_574 : decode b_mLines_init 574 = .ok (.dup, 1) := by decide +kernel
theorem d_mLines_init_575 : decode b_mLines_init 575 = .ok (.bipush 21, 2) := by decide +kernel
theorem d_mLines_init_577 : decode b_mLines_init 577 = .ok (.sipush 2156, 3) := by decide +kernel
theorem d_mLines_init_580 : decode b_mLines_init 580 = .ok (.iastore, 1) := by decide +kernel
theorem d_mLines_init_581 : decode b_mLines_init 581 = .ok (.dup, 1) := by decide +kernel
theorem d_mLines_init_582 : decode b_mLines_init 582 = .ok (.bipush 22, 2) := by decide +kernel
theorem d_mLines_init_584 : decode b_mLines_init 584 = .ok (.sipush 2103, 3) := by decide +kernel
theorem d_mLines_init_587 : decode b_mLines_init 587 = .ok (.iastore, 1) := by decide +kernel
theorem d_mLines_init_588 : decode b_mLines_init 588 = .ok (.dup, 1) := by decide +kernel
theorem d_mLines_init_589 : decode b_mLines_init 589 = .ok (.bipush 23, 2) := by decide +kernel
theorem d_mLines_init_591 : decode b_mLines_init 591 = .ok (.sipush 2088, 3) := by decide +kernel
theorem d_mLines_init_594 : decode b_mLines_init 594 = .ok (.iastore, 1) := by decide +kernel
theorem d_mLines_init_595 : decode b_mLines_init 595 = .ok (.dup, 1) := by decide +kernel
theorem d_mLines_init_596 : decode b_mLines_init 596 = .ok (.bipush 24, 2) := by decide +kernel
theorem d_mLines_init_598 : decode b_mLines_init 598 = .ok (.sipush 2071, 3) := by decide +kernel
theorem d_mLines_init_601 : decode b_mLines_init 601 = .ok (.iastore, 1) := by decide +kernel
theorem d_mLines_init_602 : decode b_mLines_init 602 = .ok (.dup, 1) := by decide +kernel
theorem d_mLines_init_603 : decode b_mLines_init 603 = .ok (.bipush 25, 2) := by decide +kernel
theorem d_mLines_init_605 : decode b_mLines_init 605 = .ok (.sipush 2072, 3) := by decide +kernel
theorem d_mLines_init_608 : decode b_mLines_init 608 = .ok (.iastore, 1) := by decide +kernel
theorem d_mLines_init_609 : decode b_mLines_init 609 = .ok (.dup, 1) := by decide +kernel
theorem d_mLines_init_610 : decode b_mLines_init 610 = .ok (.bipush 26, 2) := by decide +kernel
theorem d_mLines_init_612 : decode b_mLines_init 612 = .ok (.sipush 4298, 3) := by decide +kernel
theorem d_mLines_init_615 : decode b_mLines_init 615 = .ok (.iastore, 1) := by decide +kernel
theorem d_mLines_init_616 : decode b_mLines_init 616 = .ok (.dup, 1) := by decide +kernel
theorem d_mLines_init_617 : decode b_mLines_init 617 = .ok (.bipush 27, 2) := by decide +kernel
theorem d_mLines_init_619 : decode b_mLines_init 619 = .ok (.sipush 4299, 3) := by decide +kernel
theorem d_mLines_init_622 : decode b_mLines_init 622 = .ok (.iastore, 1) := by decide +kernel
theorem d_mLines_init_623 : decode b_mLines_init 623 = .ok (.dup, 1) := by decide +kernel
theorem d_mLines_init_624 : decode b_mLines_init 624 = .ok (.bipush 28, 2) := by decide +kernel
theorem d_mLines_init_626 : decode b_mLines_init 626 = .ok (.sipush 4300, 3) := by decide +kernel
theorem d_mLines_init_629 : decode b_mLines_init 629 = .ok (.iastore, 1) := by decide +kernel
theorem d_mLines_init_630 : decode b_mLines_init 630 = .ok (.dup, 1) := by decide +kernel
theorem d_mLines_init_631 : decode b_mLines_init 631 = .ok (.bipush 29, 2) := by decide +kernel
theorem d_mLines_init_633 : decode b_mLines_init 633 = .ok (.sipush 4301, 3) := by decide +kernel
theorem d_mLines_init_636 : decode b_mLines_init 636 = .ok (.iastore, 1) := by decide +kernel
theorem d_mLines_init_637 : decode b_mLines_init 637 = .ok (.dup, 1) := by decide +kernel
theorem d_mLines_init_638 : decode b_mLines_init 638 = .ok (.bipush 30, 2) := by decide +kernel
theorem d_mLines_init_640 : decode b_mLines_init 640 = .ok (.sipush 4200, 3) := by decide +kernel
theorem d_mLines_init_643 : decode b_mLines_init 643 = .ok (.iastore, 1) := by decide +kernel
theorem d_mLines_init_644 : decode b_mLines_init 644 = .ok (.dup, 1) := by decide +kernel
theorem d_mLines_init_645 : decode b_mLines_init 645 = .ok (.bipush 31, 2) := by decide +kernel
theorem d_mLines_init_647 : decode b_mLines_init 647 = .ok (.sipush 4201, 3) := by decide +kernel
theorem d_mLines_init_650 : decode b_mLines_init 650 = .ok (.iastore, 1) := by decide +kernel
theorem d_mLines_init_651 : decode b_mLines_init 651 = .ok (.dup, 1) := by decide +kernel
theorem d_mLines_init_652 : decode b_mLines_init 652 = .ok (.bipush 32, 2) := by decide +kernel
theorem d_mLines_init_654 : decode b_mLines_init 654 = .ok (.sipush 4202, 3) := by decide +kernel
theorem d_mLines_init_657 : decode b_mLines_init 657 = .ok (.iastore, 1) := by decide +kernel
theorem d_mLines_init_658 : decode b_mLines_init 658 = .ok (.dup, 1) := by decide +kernel
theorem d_mLines_init_659 : decode b_mLines_init 659 = .ok (.bipush 33, 2) := by decide +kernel
theorem d_mLines_init_661 : decode b_mLines_init 661 = .ok (.sipush 4203, 3) := by decide +kernel
theorem d_mLines_init_664 : decode b_mLines_init 664 = .ok (.iastore, 1) := by decide +kernel
theorem d_mLines_init_665 : decode b_mLines_init 665 = .ok (.dup, 1) := by decide +kernel
theorem d_mLines_init_666 : decode b_mLines_init 666 = .ok (.bipush 34, 2) := by decide +kernel
theorem d_mLines_init_668 : decode b_mLines_init 668 = .ok (.sipush 4306, 3) := by decide +kernel
theorem d_mLines_init_671 : decode b_mLines_init 671 = .ok (.iastore, 1) := by decide +kernel
theorem d_mLines_init_672 : decode b_mLines_init 672 = .ok (.dup, 1) := by decide +kernel
theorem d_mLines_init_673 : decode b_mLines_init 673 = .ok (.bipush 35, 2) := by decide +kernel
theorem d_mLines_init_675 : decode b_mLines_init 675 = .ok (.sipush 4307, 3) := by decide +kernel
theorem d_mLines_init_678 : decode b_mLines_init 678 = .ok (.iastore, 1) := by decide +kernel
theorem d_mLines_init_679 : decode b_mLines_init 679 = .ok (.dup, 1) := by decide +kernel
theorem d_mLines_init_680 : decode b_mLines_init 680 = .ok (.bipush 36, 2) := by decide +kernel
theorem d_mLines_init_682 : decode b_mLines_init 682 = .ok (.sipush 4308, 3) := by decide +kernel
theorem d_mLines_init_685 : decode b_mLines_init 685 = .ok (.iastore, 1) := by decide +kernel
theorem d_mLines_init_686 : decode b_mLines_init 686 = .ok (.dup, 1) := by decide +kernel
theorem d_mLines_init_687 : decode b_mLines_init 687 = .ok (.bipush 37, 2) := by decide +kernel
theorem d_mLines_init_689 : decode b_mLines_init 689 = .ok (.sipush 4309, 3) := by decide +kernel
theorem d_mLines_init_692 : decode b_mLines_init 692 = .ok (.iastore, 1) := by decide +kernel
theorem d_mLines_init_693 : decode b_mLines_init 693 = .ok (.dup, 1) := by decide +kernel
theorem d_mLines_init_694 : decode b_mLines_init 694 = .ok (.bipush 38, 2) := by decide +kernel
theorem d_mLines_init_696 : decode b_mLines_init 696 = .ok (.sipush 4310, 3) := by decide +kernel
theorem d_mLines_init_699 : decode b_mLines_init 699 = .ok (.iastore, 1) := by decide +kernel
theorem d_mLines_init_700 : decode b_mLines_init 700 = .ok (.dup, 1) := by decide +kernel
theorem d_mLines_init_701 : decode b_mLines_init 701 = .ok (.bipush 39, 2) := by decide +kernel
theorem d_mLines_init_703 : decode b_mLines_init 703 = .ok (.sipush 4311, 3) := by decide +kernel
theorem d_mLines_init_706 : decode b_mLines_init 706 = .ok (.iastore, 1) := by decide +kernel
theorem d_mLines_init_707 : decode b_mLines_init 707 = .ok (.dup, 1) := by decide +kernel
theorem d_mLines_init_708 : decode b_mLines_init 708 = .ok (.bipush 40, 2) := by decide +kernel
theorem d_mLines_init_710 : decode b_mLines_init 710 = .ok (.sipush 4204, 3) := by decide +kernel
theorem d_mLines_init_713 : decode b_mLines_init 713 = .ok (.iastore, 1) := by decide +kernel
theorem d_mLines_init_714 : decode b_mLines_init 714 = .ok (.dup, 1) := by decide +kernel
theorem d_mLines_init_715 : decode b_mLines_init 715 = .ok (.bipush 41, 2) := by decide +kernel
theorem d_mLines_init_717 : decode b_mLines_init 717 = .ok (.sipush 4205, 3) := by decide +kernel
theorem d_mLines_init_720 : decode b_mLines_init 720 = .ok (.iastore, 1) := by decide +kernel
theorem d_mLines_init_721 : decode b_mLines_init 721 = .ok (.dup, 1) := by decide +kernel
theorem d_mLines_init_722 : decode b_mLines_init 722 = .ok (.bipush 42, 2) := by decide +kernel
theorem d_mLines_init_724 : decode b_mLines_init 724 = .ok (.sipush 4314, 3) := by decide +kernel
theorem d_mLines_init_727 : decode b_mLines_init 727 = .ok (.iastore, 1) := by decide +kernel
theorem d_mLines_init_728 : decode b_mLines_init 728 = .ok (.dup, 1) := by decide +kernel
theorem d_mLines_init_729 : decode b_mLines_init 729 = .ok (.bipush 43, 2) := by decide +kernel
theorem d_mLines_init_731 : decode b_mLines_init 731 = .ok (.sipush 4315, 3) := by decide +kernel
theorem d_mLines_init_734 : decode b_mLines_init 734 = .ok (.iastore, 1) := by decide +kernel
theorem d_mLines_init_735 : decode b_mLines_init 735 = .ok (.dup, 1) := by decide +kernel
theorem d_mLines_init_736 : decode b_mLines_init 736 = .ok (.bipush 44, 2) := by decide +kernel
theorem d_mLines_init_738 : decode b_mLines_init 738 = .ok (.sipush 4180, 3) := by decide +kernel
theorem d_mLines_init_741 : decode b_mLines_init 741 = .ok (.iastore, 1) := by decide +kernel
theorem d_mLines_init_742 : decode b_mLines_init 742 = .ok (.dup, 1) := by decide +kernel
theorem d_mLines_init_743 : decode b_mLines_init 743 = .ok (.bipush 45, 2) := by decide +kernel
theorem d_mLines_init_745 : decode b_mLines_init 745 = .ok (.sipush 4181, 3) := by decide +kernel
theorem d_mLines_init_748 : decode b_mLines_init 748 = .ok (.iastore, 1) := by decide +kernel
theorem d_mLines_init_749 : decode b_mLines_init 749 = .ok (.dup, 1) := by decide +kernel
theorem d_mLines_init_750 : decode b_mLines_init 750 = .ok (.bipush 46, 2) := by decide +kernel
theorem d_mLines_init_752 : decode b_mLines_init 752 = .ok (.sipush 4182, 3) := by decide +kernel
theorem d_mLines_init_755 : decode b_mLines_init 755 = .ok (.iastore, 1) := by decide +kernel
theorem d_mLines_init_756 : decode b_mLines_init 756 = .ok (.dup, 1) := by decide +kernel
theorem d_mLines_init_757 : decode b_mLines_init 757 = .ok (.bipush 47, 2) := by decide +kernel
theorem d_mLines_init_759 : decode b_mLines_init 759 = .ok (.sipush 4183, 3) := by decide +kernel
theorem d_mLines_init_762 : decode b_mLines_init 762 = .ok (.iastore, 1) := by decide +kernel
theorem d_mLines_init_763 : decode b_mLines_init 763 = .ok (.dup, 1) := by decide +kernel
theorem d_mLines_init_764 : decode b_mLines_init 764 = .ok (.bipush 48, 2) := by decide +kernel
theorem d_mLines_init_766 : decode b_mLines_init 766 = .ok (.sipush 4196, 3) := by decide +kernel
theorem d_mLines_init_769 : decode b_mLines_init 769 = .ok (.iastore, 1) := by decide +kernel
theorem d_mLines_init_770 : decode b_mLines_init 770 = .ok (.dup, 1) := by decide +kernel
theorem d_mLines_init_771 : decode b_mLines_init 771 = .ok (.bipush 49, 2) := by decide +kernel
theorem d_mLines_init_773 : decode b_mLines_init 773 = .ok (.sipush 4197, 3) := by decide +kernel
theorem d_mLines_init_776 : decode b_mLines_init 776 = .ok (.iastore, 1) := by decide +kernel
theorem d_mLines_init_777 : decode b_mLines_init 777 = .ok (.dup, 1) := by decide +kernel
theorem d_mLines_init_778 : decode b_mLines_init 778 = .ok (.bipush 50, 2) := by decide +kernel
theorem d_mLines_init_780 : decode b_mLines_init 780 = .ok (.sipush 4178, 3) := by decide +kernel
theorem d_mLines_init_783 : decode b_mLines_init 783 = .ok (.iastore, 1) := by decide +kernel
theorem d_mLines_init_784 : decode b_mLines_init 784 = .ok (.dup, 1) := by decide +kernel
theorem d_mLines_init_785 : decode b_mLines_init 785 = .ok (.bipush 51, 2) := by decide +kernel
theorem d_mLines_init_787 : decode b_mLines_init 787 = .ok (.sipush 4179, 3) := by decide +kernel
theorem d_mLines_init_790 : decode b_mLines_init 790 = .ok (.iastore, 1) := by decide +kernel
theorem d_mLines_init_791 : decode b_mLines_init 791 = .ok (.dup, 1) := by decide +kernel
theorem d_mLines_init_792 : decode b_mLines_init 792 = .ok (.bipush 52, 2) := by decide +kernel
theorem d_mLines_init_794 : decode b_mLines_init 794 = .ok (.sipush 4132, 3) := by decide +kernel
theorem d_mLines_init_797 : decode b_mLines_init 797 = .ok (.iastore, 1) := by decide +kernel
theorem d_mLines_init_798 : decode b_mLines_init 798 = .ok (.dup, 1) := by decide +kernel
theorem d_mLines_init_799 : decode b_mLines_init 799 = .ok (.bipush 53, 2) := by decide +kernel
theorem d_mLines_init_801 : decode b_mLines_init 801 = .ok (.sipush 4151, 3) := by decide +kernel
theorem d_mLines_init_804 : decode b_mLines_init 804 = .ok (.iastore, 1) := by decide +kernel
theorem d_mLines_init_805 : decode b_mLines_init 805 = .ok (.dup, 1) := by decide +kernel
theorem d_mLines_init_806 : decode b_mLines_init 806 = .ok (.bipush 54, 2) := by decide +kernel
theorem d_mLines_init_808 : decode b_mLines_init 808 = .ok (.sipush 4152, 3) := by decide +kernel
theorem d_mLines_init_811 : decode b_mLines_init 811 = .ok (.iastore, 1) := by decide +kernel
theorem d_mLines_init_812 : decode b_mLines_init 812 = .ok (.dup, 1) := by decide +kernel
theorem d_mLines_init_813 : decode b_mLines_init 813 = .ok (.bipush 55, 2) := by decide +kernel
theorem d_mLines_init_815 : decode b_mLines_init 815 = .ok (.sipush 4135, 3) := by decide +kernel
theorem d_mLines_init_818 : decode b_mLines_init 818 = .ok (.iastore, 1) := by decide +kernel
theorem d_mLines_init_819 : decode b_mLines_init 819 = .ok (.dup, 1) := by decide +kernel
theorem d_mLines_init_820 : decode b_mLines_init 820 = .ok (.bipush 56, 2) := by decide +kernel
theorem d_mLines_init_822 : decode b_mLines_init 822 = .ok (.sipush 4136, 3) := by decide +kernel
theorem d_mLines_init_825 : decode b_mLines_init 825 = .ok (.iastore, 1) := by decide +kernel
theorem d_mLines_init_826 : decode b_mLines_init 826 = .ok (.dup, 1) := by decide +kernel
theorem d_mLines_init_827 : decode b_mLines_init 827 = .ok (.bipush 57, 2) := by decide +kernel
theorem d_mLines_init_829 : decode b_mLines_init 829 = .ok (.sipush 4184, 3) := by decide +kernel
theorem d_mLines_init_832 : decode b_mLines_init 832 = .ok (.iastore, 1) := by decide +kernel
theorem d_mLines_init_833 : decode b_mLines_init 833 = .ok (.dup, 1) := by decide +kernel
theorem d_mLines_init_834 : decode b_mLines_init 834 = .ok (.bipush 58, 2) := by decide +kernel
theorem d_mLines_init_836 : decode b_mLines_init 836 = .ok (.sipush 4185, 3) := by decide +kernel
theorem d_mLines_init_839 : decode b_mLines_init 839 = .ok (.iastore, 1) := by decide +kernel
theorem d_mLines_init_840 : decode b_mLines_init 840 = .ok (.dup, 1) := by decide +kernel
theorem d_mLines_init_841 : decode b_mLines_init 841 = .ok (.bipush 59, 2) := by decide +kernel
theorem d_mLines_init_843 : decode b_mLines_init 843 = .ok (.sipush 4139, 3) := by decide +kernel
theorem d_mLines_init_846 : decode b_mLines_init 846 = .ok (.iastore, 1) := by decide +kernel
theorem d_mLines_init_847 : decode b_mLines_init 847 = .ok (.dup, 1) := by decide +kernel
theorem d_mLines_init_848 : decode b_mLines_init 848 = .ok (.bipush 60, 2) := by decide +kernel
theorem d_mLines_init_850 : decode b_mLines_init 850 = .ok (.sipush 4140, 3) := by decide +kernel
theorem d_mLines_init_853 : decode b_mLines_init 853 = .ok (.iastore, 1) := by decide +kernel
theorem d_mLines_init_854 : decode b_mLines_init 854 = .ok (.dup, 1) := by decide +kernel
theorem d_mLines_init_855 : decode b_mLines_init 855 = .ok (.bipush 61, 2) := by decide +kernel
theorem d_mLines_init_857 : decode b_mLines_init 857 = .ok (.sipush 4186, 3) := by decide +kernel
theorem d_mLines_init_860 : decode b_mLines_init 860 = .ok (.iastore, 1) := by decide +kernel
theorem d_mLines_init_861 : decode b_mLines_init 861 = .ok (.dup, 1) := by decide +kernel
theorem d_mLines_init_862 : decode b_mLines_init 862 = .ok (.bipush 62, 2) := by decide +kernel
theorem d_mLines_init_864 : decode b_mLines_init 864 = .ok (.sipush 4198, 3) := by decide +kernel
theorem d_mLines_init_867 : decode b_mLines_init 867 = .ok (.iastore, 1) := by decide +kernel
theorem d_mLines_init_868 : decode b_mLines_init 868 = .ok (.dup, 1) := by decide +kernel
theorem d_mLines_init_869 : decode b_mLines_init 869 = .ok (.bipush 63, 2) := by decide +kernel
theorem d_mLines_init_871 : decode b_mLines_init 871 = .ok (.sipush 4199, 3) := by decide +kernel
theorem d_mLines_init_874 : decode b_mLines_init 874 = .ok (.iastore, 1) := by decide +kernel
theorem d_mLines_init_875 : decode b_mLines_init 875 = .ok (.putfield 13, 3) := by decide +kernel
theorem d_mLines_init_878 : decode b_mLines_init 878 = .ok (.aload_n 0, 1) := by decide +kernel
theorem d_mLines_init_879 : decode b_mLines_init 879 = .ok (.bipush 27, 2) := by decide +kernel
theorem d_mLines_init_881 : decode b_mLines_init 881 = .ok (.newarray .int, 2) := by decide +kernel
theorem d_mLines_init_883 : decode b_mLines_init 883 = .ok (.dup, 1) := by decide +kernel
theorem d_mLines_init_884 : decode b_mLines_init 884 = .ok (.iconst 0, 1) := by decide +kernel
theorem d_mLines_init_885 : decode b_mLines_init 885 = .ok (.bipush 59, 2) := by decide +kernel
theorem d_mLines_init_887 : decode b_mLines_init 887 = .ok (.iastore, 1) := by decide +kernel
theorem d_mLines_init_888 : decode b_mLines_init 888 = .ok (.dup, 1) := by decide +kernel
theorem d_mLines_init_889 : decode b_mLines_init 889 = .ok (.iconst 1, 1) := by decide +kernel
theorem d_mLines_init_890 : decode b_mLines_init 890 = .ok (.bipush 50, 2) := by decide +kernel
theorem d_mLines_init_892 : decode b_mLines_init 892 = .ok (.iastore, 1) := by decide +kernel
theorem d_mLines_init_893 : decode b_mLines_init 893 = .ok (.dup, 1) := by decide +kernel
theorem d_mLines_init_894 : decode b_mLines_init 894 = .ok (.iconst 2, 1) := by decide +kernel
theorem d_mLines_init_895 : decode b_mLines_init 895 = .ok (.bipush 87, 2) := by decide +kernel
theorem d_mLines_init_897 : decode b_mLines_init 897 = .ok (.iastore, 1) := by decide +kernel
theorem d_mLines_init_898 : decode b_mLines_init 898 = .ok (.dup, 1) := by decide +kernel
theorem d_mLines_init_899 : decode b_mLines_init 899 = .ok (.iconst 3, 1) := by decide +kernel
theorem d_mLines_init_900 : decode b_mLines_init 900 = .ok (.sipush 183, 3) := by decide +kernel
theorem d_mLines_init_903 : decode b_mLines_init 903 = .ok (.iastore, 1) := by decide +kernel
theorem d_mLines_init_904 : decode b_mLines_init 904 = .ok (.dup, 1) := by decide +kernel
theorem d_mLines_init_905 : decode b_mLines_init 905 = .ok (.iconst 4, 1) := by decide +kernel
theorem d_mLines_init_906 : decode b_mLines_init 906 = .ok (.sipush 310, 3) := by decide +kernel
theorem d_mLines_init_909 : decode b_mLines_init 909 = .ok (.iastore, 1) := by decide +kernel
theorem d_mLines_init_910 : decode b_mLines_init 910 = .ok (.dup, 1) := by decide +kernel
theorem d_mLines_init_911 : decode b_mLines_init 911 = .ok (.iconst 5, 1) := by decide +kernel
theorem d_mLines_init_912 : decode b_mLines_init 912 = .ok (.sipush 311, 3) := by decide +kernel
theorem d_mLines_init_915 : decode b_mLines_init 915 = .ok (.iastore, 1) := by decide +kernel
theorem d_mLines_init_916 : decode b_mLines_init 916 = .ok (.dup, 1) := by decide +kernel
theorem d_mLines_init_917 : decode b_mLines_init 917 = .ok (.bipush 6, 2) := by decide +kernel
theorem d_mLines_init_919 : decode b_mLines_init 919 = .ok (.sipush 356, 3) := by decide +kernel
theorem d_mLines_init_922 : decode b_mLines_init 922 = .ok (.iastore, 1) := by decide +kernel
theorem d_mLines_init_923 : decode b_mLines_init 923 = .ok (.dup, 1) := by decide +kernel
theorem d_mLines_init_924 : decode b_mLines_init 924 = .ok (.bipush 7, 2) := by decide +kernel
theorem d_mLines_init_926 : decode b_mLines_init 926 = .ok (.sipush 357, 3) := by decide +kernel
theorem d_mLines_init_929 : decode b_mLines_init 929 = .ok (.iastore, 1) := by decide +kernel
theorem d_mLines_init_930 : decode b_mLines_init 930 = .ok (.dup, 1) := by decide +kernel
theorem d_mLines_init_931 : decode b_mLines_init 931 = .ok (.bipush 8, 2) := by decide +kernel
theorem d_mLines_init_933 : decode b_mLines_init 933 = .ok (.sipush 360, 3) := by decide +kernel
theorem d_mLines_init_936 : decode b_mLines_init 936 = .ok (.iastore, 1) := by decide +kernel
theorem d_mLines_init_937 : decode b_mLines_init 937 = .ok (.dup, 1) := by decide +kernel
theorem d_mLines_init_938 : decode b_mLines_init 938 = .ok (.bipush 9, 2) := by decide +kernel
theorem d_mLines_init_940 : decode b_mLines_init 940 = .ok (.sipush 359, 3) := by decide +kernel
theorem d_mLines_init_943 : decode b_mLines_init 943 = .ok (.iastore, 1) := by decide +kernel
theorem d_mLines_init_944 : decode b_mLines_init 944 = .ok (.dup, 1) := by decide +kernel
theorem d_mLines_init_945 : decode b_mLines_init 945 = .ok (.bipush 10, 2) := by decide +kernel
theorem d_mLines_init_947 : decode b_mLines_init 947 = .ok (.sipush 716, 3) := by decide +kernel
theorem d_mLines_init_950 : decode b_mLines_init 950 = .ok (.iastore, 1) := by decide +kernel
theorem d_mLines_init_951 : decode b_mLines_init 951 = .ok (.dup, 1) := by decide +kernel
theorem d_mLines_init_952 : decode b_mLines_init 952 = .ok (.bipush 11, 2) := by decide +kernel
theorem d_mLines_init_954 : decode b_mLines_init 954 = .ok (.sipush 717, 3) := by decide +kernel
theorem d_mLines_init_957 : decode b_mLines_init 957 = .ok (.iastore, 1) := by decide +kernel
theorem d_mLines_init_958 : decode b_mLines_init 958 = .ok (.dup, 1) := by decide +kernel
theorem d_mLines_init_959 : decode b_mLines_init 959 = .ok (.bipush 12, 2) := by decide +kernel
theorem d_mLines_init_961 : decode b_mLines_init 961 = .ok (.sipush 722, 3) := by decide +kernel
theorem d_mLines_init_964 : decode b_mLines_init 964 = .ok (.iastore, 1) := by decide +kernel
theorem d_mLines_init_965 : decode b_mLines_init 965 = .ok (.dup, 1) := by decide +kernel
theorem d_mLines_init_966 : decode b_mLines_init 966 = .ok (.bipush 13, 2) := by decide +kernel
theorem d_mLines_init_968 : decode b_mLines_init 968 = .ok (.sipush 723, 3) := by decide +kernel
theorem d_mLines_init_971 : decode b_mLines_init 971 = .ok (.iastore, 1) := by decide +kernel
theorem d_mLines_init_972 : decode b_mLines_init 972 = .ok (.dup, 1) := by decide +kernel
theorem d_mLines_init_973 : decode b_mLines_init 973 = .ok (.bipush 14, 2) := by decide +kernel
theorem d_mLines_init_975 : decode b_mLines_init 975 = .ok (.sipush 724, 3) := by decide +kernel
theorem d_mLines_init_978 : decode b_mLines_init 978 = .ok (.iastore, 1) := by decide +kernel
theorem d_mLines_init_979 : decode b_mLines_init 979 = .ok (.dup, 1) := by decide +kernel
theorem d_mLines_init_980 : decode b_mLines_init 980 = .ok (.bipush 15, 2) := by decide +kernel
theorem d_mLines_init_982 : decode b_mLines_init 982 = .ok (.sipush 725, 3) := by decide +kernel
theorem d_mLines_init_985 : decode b_mLines_init 985 = .ok (.iastore, 1) := by decide +kernel
theorem d_mLines_init_986 : decode b_mLines_init 986 = .ok (.dup, 1) := by decide +kernel
theorem d_mLines_init_987 : decode b_mLines_init 987 = .ok (.bipush 16, 2) := by decide +kernel
theorem d_mLines_init_989 : decode b_mLines_init 989 = .ok (.sipush 726, 3) := by decide +kernel
theorem d_mLines_init_992 : decode b_mLines_init 992 = .ok (.iastore, 1) := by decide +kernel
theorem d_mLines_init_993 : decode b_mLines_init 993 = .ok (.dup, 1) := by decide +kernel
theorem d_mLines_init_994 : decode b_mLines_init 994 = .ok (.bipush 17, 2) := by decide +kernel
theorem d_mLines_init_996 : decode b_mLines_init 996 = .ok (.sipush 727, 3) := by decide +kernel
theorem d_mLines_init_999 : decode b_mLines_init 999 = .ok (.iastore, 1) := by decide +kernel
theorem d_mLines_init_1000 : decode b_mLines_init 1000 = .ok (.dup, 1) := by decide +kernel
theorem d_mLines_init_1001 : decode b_mLines_init 1001 = .ok (.bipush 18, 2) := by decide +kernel
theorem d_mLines_init_1003 : decode b_mLines_init 1003 = .ok (.sipush 728, 3) := by decide +kernel
theorem d_mLines_init_1006 : decode b_mLines_init 1006 = .ok (.iastore, 1) := by decide +kernel
theorem d_mLines_init_1007 : decode b_mLines_init 1007 = .ok (.dup, 1) := by decide +kernel
theorem d_mLines_init_1008 : decode b_mLines_init 1008 = .ok (.bipush 19, 2) := by decide +kernel
theorem d_mLines_init_1010 : decode b_mLines_init 1010 = .ok (.sipush 729, 3) := by decide +kernel
theorem d_mLines_init_1013 : decode b_mLines_init 1013 = .ok (.iastore, 1) := by decide +kernel
theorem d_mLines_init_1014 : decode b_mLines_init 1014 = .ok (.dup, 1) := by decide +kernel
theorem d_mLines_init_1015 : decode b_mLines_init 1015 = .ok (.bipush 20, 2) := by decide +kernel
theorem d_mLines_init_1017 : decode b_mLines_init 1017 = .ok (.sipush 730, 3) := by decide +kernel
theorem d_mLines_init_1020 : decode b_mLines_init 1020 = .ok (.iastore, 1) := by decide +kernel
theorem d_mLines_init_1021 : decode b_mLines_init 1021 = .ok (.dup, 1) := by decide +kernel
theorem d_mLines_init_1022 : decode b_mLines_init 1022 = .ok (.bipush 21, 2) := by decide +kernel
theorem d_mLines_init_1024 : decode b_mLines_init 1024 = .ok (.sipush 731, 3) := by decide +kernel
theorem d_mLines_init_1027 : decode b_mLines_init 1027 = .ok (.iastore, 1) := by decide +kernel
theorem d_mLines_init_1028 : decode b_mLines_init 1028 = .ok (.dup, 1) := by decide +kernel
theorem d_mLines_init_1029 : decode b_mLines_init 1029 = .ok (.bipush 22, 2) := by decide +kernel
theorem d_mLines_init_1031 : decode b_mLines_init 1031 = .ok (.sipush 664, 3) := by decide +kernel
theorem d_mLines_init_1034 : decode b_mLines_init 1034 = .ok (.iastore, 1) := by decide +kernel
theorem d_mLines_init_1035 : decode b_mLines_init 1035 = .ok (.dup, 1) := by decide +kernel
theorem d_mLines_init_1036 : decode b_mLines_init 1036 = .ok (.bipush 23, 2) := by decide +kernel
theorem d_mLines_init_1038 : decode b_mLines_init 1038 = .ok (.sipush 665, 3) := by decide +kernel
theorem d_mLines_init_1041 : decode b_mLines_init 1041 = .ok (.iastore, 1) := by decide +kernel
theorem d_mLines_init_1042 : decode b_mLines_init 1042 = .ok (.dup, 1) := by decide +kernel
theorem d_mLines_init_1043 : decode b_mLines_init 1043 = .ok (.bipush 24, 2) := by decide +kernel
theorem d_mLines_init_1045 : decode b_mLines_init 1045 = .ok (.sipush 666, 3) := by decide +kernel
theorem d_mLines_init_1048 : decode b_mLines_init 1048 = .ok (.iastore, 1) := by decide +kernel
theorem d_mLines_init_1049 : decode b_mLines_init 1049 = .ok (.dup, 1) := by decide +kernel
theorem d_mLines_init_1050 : decode b_mLines_init 1050 = .ok (.bipush 25, 2) := by decide +kernel
theorem d_mLines_init_1052 : decode b_mLines_init 1052 = .ok (.bipush 88, 2) := by decide +kernel
theorem d_mLines_init_1054 : decode b_mLines_init 1054 = .ok (.iastore, 1) := by decide +kernel
theorem d_mLines_init_1055 : decode b_mLines_init 1055 = .ok (.dup, 1) := by decide +kernel
theorem d_mLines_init_1056 : decode b_mLines_init 1056 = .ok (.bipush 26, 2) := by decide +kernel
theorem d_mLines_init_1058 : decode b_mLines_init 1058 = .ok (.sipush 667, 3) := by decide +kernel
theorem d_mLines_init_1061 : decode b_mLines_init 1061 = .ok (.iastore, 1) := by decide +kernel
theorem d_mLines_init_1062 : decode b_mLines_init 1062 = .ok (.putfield 16, 3) := by decide +kernel
theorem d_mLines_init_1065 : decode b_mLines_init 1065 = .ok (.aload_n 0, 1) := by decide +kernel
theorem d_mLines_init_1066 : decode b_mLines_init 1066 = .ok (.bipush 27, 2) := by decide +kernel
theorem d_mLines_init_1068 : decode b_mLines_init 1068 = .ok (.newarray .int, 2) := by decide +kernel
theorem d_mLines_init_1070 : decode b_mLines_init 1070 = .ok (.dup, 1) := by decide +kernel
theorem d_mLines_init_1071 : decode b_mLines_init 1071 = .ok (.iconst 0, 1) := by decide +kernel
theorem d_mLines_init_1072 : decode b_mLines_init 1072 = .ok (.sipush 1039, 3) := by decide +kernel
theorem d_mLines_init_1075 : decode b_mLines_init 1075 = .ok (.iastore, 1) := by decide +kernel
theorem d_mLines_init_1076 : decode b_mLines_init 1076 = .ok (.dup, 1) := by decide +kernel
theorem d_mLines_init_1077 : decode b_mLines_init 1077 = .ok (.iconst 1, 1) := by decide +kernel
theorem d_mLines_init_1078 : decode b_mLines_init 1078 = .ok (.sipush 4296, 3) := by decide +kernel
theorem d_mLines_init_1081 : decode b_mLines_init 1081 = .ok (.iastore, 1) := by decide +kernel
theorem d_mLines_init_1082 : decode b_mLines_init 1082 = .ok (.dup, 1) := by decide +kernel
theorem d_mLines_init_1083 : decode b_mLines_init 1083 = .ok (.iconst 2, 1) := by decide +kernel
theorem d_mLines_init_1084 : decode b_mLines_init 1084 = .ok (.sipush 4297, 3) := by decide +kernel
theorem d_mLines_init_1087 : decode b_mLines_init 1087 = .ok (.iastore, 1) := by decide +kernel
theorem d_mLines_init_1088 : decode b_mLines_init 1088 = .ok (.dup, 1) := by decide +kernel
theorem d_mLines_init_1089 : decode b_mLines_init 1089 = .ok (.iconst 3, 1) := by decide +kernel
theorem d_mLines_init_1090 : decode b_mLines_init 1090 = .ok (.sipush 4187, 3) := by decide +kernel
theorem d_mLines_init_1093 : decode b_mLines_init 1093 = .ok (.iastore, 1) := by decide +kernel
theorem d_mLines_init_1094 : decode b_mLines_init 1094 = .ok (.dup, 1) := by decide +kernel
theorem d_mLines_init_1095 : decode b_mLines_init 1095 = .ok (.iconst 4, 1) := by decide +kernel
theorem d_mLines_init_1096 : decode b_mLines_init 1096 = .ok (.sipush 4147, 3) := by decide +kernel
theorem d_mLines_init_1099 : decode b_mLines_init 1099 = .ok (.iastore, 1) := by decide +kernel
theorem d_mLines_init_1100 : decode b_mLines_init 1100 = .ok (.dup, 1) := by decide +kernel
theorem d_mLines_init_1101 : decode b_mLines_init 1101 = .ok (.iconst 5, 1) := by decide +kernel
theorem d_mLines_init_1102 : decode b_mLines_init 1102 = .ok (.sipush 4148, 3) := by decide +kernel
theorem d_mLines_init_1105 : decode b_mLines_init 1105 = .ok (.iastore, 1) := by decide +kernel
theorem d_mLines_init_1106 : decode b_mLines_init 1106 = .ok (.dup, 1) := by decide +kernel
theorem d_mLines_init_1107 : decode b_mLines_init 1107 = .ok (.bipush 6, 2) := by decide +kernel
theorem d_mLines_init_1109 : decode b_mLines_init 1109 = .ok (.sipush 4149, 3) := by decide +kernel
theorem d_mLines_init_1112 : decode b_mLines_init 1112 = .ok (.iastore, 1) := by decide +kernel
theorem d_mLines_init_1113 : decode b_mLines_init 1113 = .ok (.dup, 1) := by decide +kernel
theorem d_mLines_init_1114 : decode b_mLines_init 1114 = .ok (.bipush 7, 2) := by decide +kernel
theorem d_mLines_init_1116 : decode b_mLines_init 1116 = .ok (.sipush 8300, 3) := by decide +kernel
theorem d_mLines_init_1119 : decode b_mLines_init 1119 = .ok (.iastore, 1) := by decide +kernel
theorem d_mLines_init_1120 : decode b_mLines_init 1120 = .ok (.dup, 1) := by decide +kernel
theorem d_mLines_init_1121 : decode b_mLines_init 1121 = .ok (.bipush 8, 2) := by decide +kernel
theorem d_mLines_init_1123 : decode b_mLines_init 1123 = .ok (.sipush 8301, 3) := by decide +kernel
theorem d_mLines_init_1126 : decode b_mLines_init 1126 = .ok (.iastore, 1) := by decide +kernel
theorem d_mLines_init_1127 : decode b_mLines_init 1127 = .ok (.dup, 1) := by decide +kernel
theorem d_mLines_init_1128 : decode b_mLines_init 1128 = .ok (.bipush 9, 2) := by decide +kernel
theorem d_mLines_init_1130 : decode b_mLines_init 1130 = .ok (.sipush 8266, 3) := by decide +kernel
theorem d_mLines_init_1133 : decode b_mLines_init 1133 = .ok (.iastore, 1) := by decide +kernel
theorem d_mLines_init_1134 : decode b_mLines_init 1134 = .ok (.dup, 1) := by decide +kernel
theorem d_mLines_init_1135 : decode b_mLines_init 1135 = .ok (.bipush 10, 2) := by decide +kernel
theorem d_mLines_init_1137 : decode b_mLines_init 1137 = .ok (.sipush 8267, 3) := by decide +kernel
theorem d_mLines_init_1140 : decode b_mLines_init 1140 = .ok (.iastore, 1) := by decide +kernel
theorem d_mLines_init_1141 : decode b_mLines_init 1141 = .ok (.dup, 1) := by decide +kernel
theorem d_mLines_init_1142 : decode b_mLines_init 1142 = .ok (.bipush 11, 2) := by decide +kernel
theorem d_mLines_init_1144 : decode b_mLines_init 1144 = .ok (.sipush 8268, 3) := by decide +kernel
theorem d_mLines_init_1147 : decode b_mLines_init 1147 = .ok (.iastore, 1) := by decide +kernel
theorem d_mLines_init_1148 : decode b_mLines_init 1148 = .ok (.dup, 1) := by decide +kernel
theorem d_mLines_init_1149 : decode b_mLines_init 1149 = .ok (.bipush 12, 2) := by decide +kernel
theorem d_mLines_init_1151 : decode b_mLines_init 1151 = .ok (.sipush 8269, 3) := by decide +kernel
theorem d_mLines_init_1154 : decode b_mLines_init 1154 = .ok (.iastore, 1) := by decide +kernel
theorem d_mLines_init_1155 : decode b_mLines_init 1155 = .ok (.dup, 1) := by decide +kernel
theorem d_mLines_init_1156 : decode b_mLines_init 1156 = .ok (.bipush 13, 2) := by decide +kernel
theorem d_mLines_init_1158 : decode b_mLines_init 1158 = .ok (.sipush 8306, 3) := by decide +kernel
theorem d_mLines_init_1161 : decode b_mLines_init 1161 = .ok (.iastore, 1) := by decide +kernel
theorem d_mLines_init_1162 : decode b_mLines_init 1162 = .ok (.dup, 1) := by decide +kernel
theorem d_mLines_init_1163 : decode b_mLines_init 1163 = .ok (.bipush 14, 2) := by decide +kernel
theorem d_mLines_init_1165 : decode b_mLines_init 1165 = .ok (.sipush 8307, 3) := by decide +kernel
theorem d_mLines_init_1168 : decode b_mLines_init 1168 = .ok (.iastore, 1) := by decide +kernel
theorem d_mLines_init_1169 : decode b_mLines_init 1169 = .ok (.dup, 1) := by decide +kernel
theorem d_mLines_init_1170 : decode b_mLines_init 1170 = .ok (.bipush 15, 2) := by decide +kernel
theorem d_mLines_init_1172 : decode b_mLines_init 1172 = .ok (.sipush 8308, 3) := by decide +kernel
theorem d_mLines_init_1175 : decode b_mLines_init 1175 = .ok (.iastore, 1) := by decide +kernel
theorem d_mLines_init_1176 : decode b_mLines_init 1176 = .ok (.dup, 1) := by decide +kernel
theorem d_mLines_init_1177 : decode b_mLines_init 1177 = .ok (.bipush 16, 2) := by decide +kernel
theorem d_mLines_init_1179 : decode b_mLines_init 1179 = .ok (.sipush 8309, 3) := by decide +kernel
theorem d_mLines_init_1182 : decode b_mLines_init 1182 = .ok (.iastore, 1) := by decide +kernel
theorem d_mLines_init_1183 : decode b_mLines_init 1183 = .ok (.dup, 1) := by decide +kernel
theorem d_mLines_init_1184 : decode b_mLines_init 1184 = .ok (.bipush 17, 2) := by decide +kernel
theorem d_mLines_init_1186 : decode b_mLines_init 1186 = .ok (.sipush 8310, 3) := by decide +kernel
theorem d_mLines_init_1189 : decode b_mLines_init 1189 = .ok (.iastore, 1) := by decide +kernel
theorem d_mLines_init_1190 : decode b_mLines_init 1190 = .ok (.dup, 1) := by decide +kernel
theorem d_mLines_init_1191 : decode b_mLines_init 1191 = .ok (.bipush 18, 2) := by decide +kernel
theorem d_mLines_init_1193 : decode b_mLines_init 1193 = .ok (.sipush 8311, 3) := by decide +kernel
theorem d_mLines_init_1196 : decode b_mLines_init 1196 = .ok (.iastore, 1) := by decide +kernel
theorem d_mLines_init_1197 : decode b_mLines_init 1197 = .ok (.dup, 1) := by decide +kernel
theorem d_mLines_init_1198 : decode b_mLines_init 1198 = .ok (.bipush 19, 2) := by decide +kernel
theorem d_mLines_init_1200 : decode b_mLines_init 1200 = .ok (.sipush 8274, 3) := by decide +kernel
theorem d_mLines_init_1203 : decode b_mLines_init 1203 = .ok (.iastore, 1) := by decide +kernel
theorem d_mLines_init_1204 : decode b_mLines_init 1204 = .ok (.dup, 1) := by decide +kernel
theorem d_mLines_init_1205 : decode b_mLines_init 1205 = .ok (.bipush 20, 2) := by decide +kernel
theorem d_mLines_init_1207 : decode b_mLines_init 1207 = .ok (.sipush 8275, 3) := by decide +kernel
theorem d_mLines_init_1210 : decode b_mLines_init 1210 = .ok (.iastore, 1) := by decide +kernel
theorem d_mLines_init_1211 : decode b_mLines_init 1211 = .ok (.dup, 1) := by decide +kernel
theorem d_mLines_init_1212 : decode b_mLines_init 1212 = .ok (.bipush 21, 2) := by decide +kernel
theorem d_mLines_init_1214 : decode b_mLines_init 1214 = .ok (.sipush 8276, 3) := by decide +kernel
theorem d_mLines_init_1217 : decode b_mLines_init 1217 = .ok (.iastore, 1) := by decide +kernel
theorem d_mLines_init_1218 : decode b_mLines_init 1218 = .ok (.dup, 1) := by decide +kernel
theorem d_mLines_init_1219 : decode b_mLines_init 1219 = .ok (.bipush 22, 2) := by decide +kernel
theorem d_mLines_init_1221 : decode b_mLines_init 1221 = .ok (.sipush 8277, 3) := by decide +kernel
theorem d_mLines_init_1224 : decode b_mLines_init 1224 = .ok (.iastore, 1) := by decide +kernel
theorem d_mLines_init_1225 : decode b_mLines_init 1225 = .ok (.dup, 1) := by decide +kernel
theorem d_mLines_init_1226 : decode b_mLines_init 1226 = .ok (.bipush 23, 2) := by decide +kernel
theorem d_mLines_init_1228 : decode b_mLines_init 1228 = .ok (.sipush 8282, 3) := by decide +kernel
theorem d_mLines_init_1231 : decode b_mLines_init 1231 = .ok (.iastore, 1) := by decide +kernel
theorem d_mLines_init_1232 : decode b_mLines_init 1232 = .ok (.dup, 1) := by decide +kernel
theorem d_mLines_init_1233 : decode b_mLines_init 1233 = .ok (.bipush 24, 2) := by decide +kernel
theorem d_mLines_init_1235 : decode b_mLines_init 1235 = .ok (.sipush 8283, 3) := by decide +kernel
theorem d_mLines_init_1238 : decode b_mLines_init 1238 = .ok (.iastore, 1) := by decide +kernel
theorem d_mLines_init_1239 : decode b_mLines_init 1239 = .ok (.dup, 1) := by decide +kernel
theorem d_mLines_init_1240 : decode b_mLines_init 1240 = .ok (.bipush 25, 2) := by decide +kernel
theorem d_mLines_init_1242 : decode b_mLines_init 1242 = .ok (.sipush 8292, 3) := by decide +kernel
theorem d_mLines_init_1245 : decode b_mLines_init 1245 = .ok (.iastore, 1) := by decide +kernel
theorem d_mLines_init_1246 : decode b_mLines_init 1246 = .ok (.dup, 1) := by decide +kernel
theorem d_mLines_init_1247 : decode b_mLines_init 1247 = .ok (.bipush 26, 2) := by decide +kernel
theorem d_mLines_init_1249 : decode b_mLines_init 1249 = .ok (.sipush 8293, 3) := by decide +kernel
theorem d_mLines_init_1252 : decode b_mLines_init 1252 = .ok (.iastore, 1) := by decide +kernel
theorem d_mLines_init_1253 : decode b_mLines_init 1253 = .ok (.putfield 19, 3) := by decide +kernel
theorem d_mLines_init_1256 : decode b_mLines_init 1256 = .ok (.aload_n 0, 1) := by decide +kernel
theorem d_mLines_init_1257 : decode b_mLines_init 1257 = .ok (.bipush 13, 2) := by decide +kernel
theorem d_mLines_init_1259 : decode b_mLines_init 1259 = .ok (.newarray .int, 2) := by decide +kernel
theorem d_mLines_init_1261 : decode b_mLines_init 1261 = .ok (.dup, 1) := by decide +kernel
theorem d_mLines_init_1262 : decode b_mLines_init 1262 = .ok (.iconst 0, 1) := by decide +kernel
theorem d_mLines_init_1263 : decode b_mLines_init 1263 = .ok (.sipush 2056, 3) := by decide +kernel
theorem d_mLines_init_1266 : decode b_mLines_init 1266 = .ok (.iastore, 1) := by decide +kernel
theorem d_mLines_init_1267 : decode b_mLines_init 1267 = .ok (.dup, 1) := by decide +kernel
theorem d_mLines_init_1268 : decode b_mLines_init 1268 = .ok (.iconst 1, 1) := by decide +kernel
theorem d_mLines_init_1269 : decode b_mLines_init 1269 = .ok (.sipush 2060, 3) := by decide +kernel
theorem d_mLines_init_1272 : decode b_mLines_init 1272 = .ok (.iastore, 1) := by decide +kernel
theorem d_mLines_init_1273 : decode b_mLines_init 1273 = .ok (.dup, 1) := by decide +kernel
theorem d_mLines_init_1274 : decode b_mLines_init 1274 = .ok (.iconst 2, 1) := by decide +kernel
theorem d_mLines_init_1275 : decode b_mLines_init 1275 = .ok (.sipush 2061, 3) := by decide +kernel
theorem d_mLines_init_1278 : decode b_mLines_init 1278 = .ok (.iastore, 1) := by decide +kernel
theorem d_mLines_init_1279 : decode b_mLines_init 1279 = .ok (.dup, 1) := by decide +kernel
theorem d_mLines_init_1280 : decode b_mLines_init 1280 = .ok (.iconst 3, 1) := by decide +kernel
theorem d_mLines_init_1281 : decode b_mLines_init 1281 = .ok (.sipush 4114, 3) := by decide +kernel
theorem d_mLines_init_1284 : decode b_mLines_init 1284 = .ok (.iastore, 1) := by decide +kernel
theorem d_mLines_init_1285 : decode b_mLines_init 1285 = .ok (.dup, 1) := by decide +kernel
theorem d_mLines_init_1286 : decode b_mLines_init 1286 = .ok (.iconst 4, 1) := by decide +kernel
theorem d_mLines_init_1287 : decode b_mLines_init 1287 = .ok (.sipush 4115, 3) := by decide +kernel
theorem d_mLines_init_1290 : decode b_mLines_init 1290 = .ok (.iastore, 1) := by decide +kernel
theorem d_mLines_init_1291 : decode b_mLines_init 1291 = .ok (.dup, 1) := by decide +kernel
theorem d_mLines_init_1292 : decode b_mLines_init 1292 = .ok (.iconst 5, 1) := by decide +kernel
theorem d_mLines_init_1293 : decode b_mLines_init 1293 = .ok (.sipush 4116, 3) := by decide +kernel
theorem d_mLines_init_1296 : decode b_mLines_init 1296 = .ok (.iastore, 1) := by decide +kernel
theorem d_mLines_init_1297 : decode b_mLines_init 1297 = .ok (.dup, 1) := by decide +kernel
theorem d_mLines_init_1298 : decode b_mLines_init 1298 = .ok (.bipush 6, 2) := by decide +kernel
theorem d_mLines_init_1300 : decode b_mLines_init 1300 = .ok (.sipush 4117, 3) := by decide +kernel
theorem d_mLines_init_1303 : decode b_mLines_init 1303 = .ok (.iastore, 1) := by decide +kernel
theorem d_mLines_init_1304 : decode b_mLines_init 1304 = .ok (.dup, 1) := by decide +kernel
theorem d_mLines_init_1305 : decode b_mLines_init 1305 = .ok (.bipush 7, 2) := by decide +kernel
theorem d_mLines_init_1307 : decode b_mLines_init 1307 = .ok (.sipush 4118, 3) := by decide +kernel
theorem d_mLines_init_1310 : decode b_mLines_init 1310 = .ok (.iastore, 1) := by decide +kernel
theorem d_mLines_init_1311 : decode b_mLines_init 1311 = .ok (.dup, 1) := by decide +kernel
theorem d_mLines_init_1312 : decode b_mLines_init 1312 = .ok (.bipush 8, 2) := by decide +kernel
theorem d_mLines_init_1314 : decode b_mLines_init 1314 = .ok (.sipush 4119, 3) := by decide +kernel
theorem d_mLines_init_1317 : decode b_mLines_init 1317 = .ok (.iastore, 1) := by decide +kernel
theorem d_mLines_init_1318 : decode b_mLines_init 1318 = .ok (.dup, 1) := by decide +kernel
theorem d_mLines_init_1319 : decode b_mLines_init 1319 = .ok (.bipush 9, 2) := by decide +kernel
theorem d_mLines_init_1321 : decode b_mLines_init 1321 = .ok (.sipush 4124, 3) := by decide +kernel
theorem d_mLines_init_1324 : decode b_mLines_init 1324 = .ok (.iastore, 1) := by decide +kernel
theorem d_mLines_init_1325 : decode b_mLines_init 1325 = .ok (.dup, 1) := by decide +kernel
theorem d_mLines_init_1326 : decode b_mLines_init 1326 = .ok (.bipush 10, 2) := by decide +kernel
theorem d_mLines_init_1328 : decode b_mLines_init 1328 = .ok (.sipush 4125, 3) := by decide +kernel
theorem d_mLines_init_1331 : decode b_mLines_init 1331 = .ok (.iastore, 1) := by decide +kernel
theorem d_mLines_init_1332 : decode b_mLines_init 1332 = .ok (.dup, 1) := by decide +kernel
theorem d_mLines_init_1333 : decode b_mLines_init 1333 = .ok (.bipush 11, 2) := by decide +kernel
theorem d_mLines_init_1335 : decode b_mLines_init 1335 = .ok (.sipush 4126, 3) := by decide +kernel
theorem d_mLines_init_1338 : decode b_mLines_init 1338 = .ok (.iastore, 1) := by decide +kernel
theorem d_mLines_init_1339 : decode b_mLines_init 1339 = .ok (.dup, 1) := by decide +kernel
theorem d_mLines_init_1340 : decode b_mLines_init 1340 = .ok (.bipush 12, 2) := by decide +kernel
theorem d_mLines_init_1342 : decode b_mLines_init 1342 = .ok (.sipush 4127, 3) := by decide +kernel
theorem d_mLines_init_1345 : decode b_mLines_init 1345 = .ok (.iastore, 1) := by decide +kernel
theorem d_mLines_init_1346 : decode b_mLines_init 1346 = .ok (.putfield 22, 3) := by decide +kernel
theorem d_mLines_init_1349 : decode b_mLines_init 1349 = .ok (.aload_n 0, 1) := by decide +kernel
theorem d_mLines_init_1350 : decode b_mLines_init 1350 = .ok (.bipush 10, 2) := by decide +kernel
theorem d_mLines_init_1352 : decode b_mLines_init 1352 = .ok (.newarray .int, 2) := by decide +kernel
theorem d_mLines_init_1354 : decode b_mLines_init 1354 = .ok (.dup, 1) := by decide +kernel
theorem d_mLines_init_1355 : decode b_mLines_init 1355 = .ok (.iconst 0, 1) := by decide +kernel
theorem d_mLines_init_1356 : decode b_mLines_init 1356 = .ok (.bipush 17, 2) := by decide +kernel
theorem d_mLines_init_1358 : decode b_mLines_init 1358 = .ok (.iastore, 1) := by decide +kernel
theorem d_mLines_init_1359 : decode b_mLines_init 1359 = .ok (.dup, 1) := by decide +kernel
theorem d_mLines_init_1360 : decode b_mLines_init 1360 = .ok (.iconst 1, 1) := by decide +kernel
theorem d_mLines_init_1361 : decode b_mLines_init 1361 = .ok (.bipush 9, 2) := by decide +kernel
theorem d_mLines_init_1363 : decode b_mLines_init 1363 = .ok (.iastore, 1) := by decide +kernel
theorem d_mLines_init_1364 : decode b_mLines_init 1364 = .ok (.dup, 1) := by decide +kernel
theorem d_mLines_init_1365 : decode b_mLines_init 1365 = .ok (.iconst 2, 1) := by decide +kernel
theorem d_mLines_init_1366 : decode b_mLines_init 1366 = .ok (.sipush 130, 3) := by decide +kernel
theorem d_mLines_init_1369 : decode b_mLines_init 1369 = .ok (.iastore, 1) := by decide +kernel
theorem d_mLines_init_1370 : decode b_mLines_init 1370 = .ok (.dup, 1) := by decide +kernel
theorem d_mLines_init_1371 : decode b_mLines_init 1371 = .ok (.iconst 3, 1) := by decide +kernel
theorem d_mLines_init_1372 : decode b_mLines_init 1372 = .ok (.bipush 66, 2) := by decide +kernel
theorem d_mLines_init_1374 : decode b_mLines_init 1374 = .ok (.iastore, 1) := by decide +kernel
theorem d_mLines_init_1375 : decode b_mLines_init 1375 = .ok (.dup, 1) := by decide +kernel
theorem d_mLines_init_1376 : decode b_mLines_init 1376 = .ok (.iconst 4, 1) := by decide +kernel
theorem d_mLines_init_1377 : decode b_mLines_init 1377 = .ok (.bipush 10, 2) := by decide +kernel
theorem d_mLines_init_1379 : decode b_mLines_init 1379 = .ok (.iastore, 1) := by decide +kernel
theorem d_mLines_init_1380 : decode b_mLines_init 1380 = .ok (.dup, 1) := by decide +kernel
theorem d_mLines_init_1381 : decode b_mLines_init 1381 = .ok (.iconst 5, 1) := by decide +kernel
theorem d_mLines_init_1382 : decode b_mLines_init 1382 = .ok (.iconst 3, 1) := by decide +kernel
theorem d_mLines_init_1383 : decode b_mLines_init 1383 = .ok (.iastore, 1) := by decide +kernel
theorem d_mLines_init_1384 : decode b_mLines_init 1384 = .ok (.dup, 1) := by decide +kernel
theorem d_mLines_init_1385 : decode b_mLines_init 1385 = .ok (.bipush 6, 2) := by decide +kernel
theorem d_mLines_init_1387 : decode b_mLines_init 1387 = .ok (.bipush 11, 2) := by decide +kernel
theorem d_mLines_init_1389 : decode b_mLines_init 1389 = .ok (.iastore, 1) := by decide +kernel
theorem d_mLines_init_1390 : decode b_mLines_init 1390 = .ok (.dup, 1) := by decide +kernel
theorem d_mLines_init_1391 : decode b_mLines_init 1391 = .ok (.bipush 7, 2) := by decide +kernel
theorem d_mLines_init_1393 : decode b_mLines_init 1393 = .ok (.bipush 67, 2) := by decide +kernel
theorem d_mLines_init_1395 : decode b_mLines_init 1395 = .ok (.iastore, 1) := by decide +kernel
theorem d_mLines_init_1396 : decode b_mLines_init 1396 = .ok (.dup, 1) := by decide +kernel
theorem d_mLines_init_1397 : decode b_mLines_init 1397 = .ok (.bipush 8, 2) := by decide +kernel
theorem d_mLines_init_1399 : decode b_mLines_init 1399 = .ok (.sipush 131, 3) := by decide +kernel
theorem d_mLines_init_1402 : decode b_mLines_init 1402 = .ok (.iastore, 1) := by decide +kernel
theorem d_mLines_init_1403 : decode b_mLines_init 1403 = .ok (.dup, 1) := by decide +kernel
theorem d_mLines_init_1404 : decode b_mLines_init 1404 = .ok (.bipush 9, 2) := by decide +kernel
theorem d_mLines_init_1406 : decode b_mLines_init 1406 = .ok (.sipush 4097, 3) := by decide +kernel
theorem d_mLines_init_1409 : decode b_mLines_init 1409 = .ok (.iastore, 1) := by decide +kernel
theorem d_mLines_init_1410 : decode b_mLines_init 1410 = .ok (.putfield 25, 3) := by decide +kernel
theorem d_mLines_init_1413 : decode b_mLines_init 1413 = .ok (.aload_n 0, 1) := by decide +kernel
theorem d_mLines_init_1414 : decode b_mLines_init 1414 = .ok (.sipush 10000, 3) := by decide +kernel
theorem d_mLines_init_1417 : decode b_mLines_init 1417 = .ok (.newarray .boolean, 2) := by decide +kernel
theorem d_mLines_init_1419 : decode b_mLines_init 1419 = .ok (.putfield 28, 3) := by decide +kernel
theorem d_mLines_init_1422 : decode b_mLines_init 1422 = .ok (.aload_n 0, 1) := by decide +kernel
theorem d_mLines_init_1423 : decode b_mLines_init 1423 = .ok (.sipush 10000, 3) := by decide +kernel
theorem d_mLines_init_1426 : decode b_mLines_init 1426 = .ok (.newarray .boolean, 2) := by decide +kernel
theorem d_mLines_init_1428 : decode b_mLines_init 1428 = .ok (.putfield 32, 3) := by decide +kernel
theorem d_mLines_init_1431 : decode b_mLines_init 1431 = .ok (.aload_n 0, 1) := by decide +kernel
theorem d_mLines_init_1432 : decode b_mLines_init 1432 = .ok (.sipush 10000, 3) := by decide +kernel
theorem d_mLines_init_1435 : decode b_mLines_init 1435 = .ok (.newarray .boolean, 2) := by decide +kernel
theorem d_mLines_init_1437 : decode b_mLines_init 1437 = .ok (.putfield 35, 3) := by decide +kernel
theorem d_mLines_init_1440 : decode b_mLines_init 1440 = .ok (.aload_n 0, 1) := by decide +kernel
theorem d_mLines_init_1441 : decode b_mLines_init 1441 = .ok (.sipush 10000, 3) := by decide +kernel
theorem d_mLines_init_1444 : decode b_mLines_init 1444 = .ok (.newarray .boolean, 2) := by decide +kernel
theorem d_mLines_init_1446 : decode b_mLines_init 1446 = .ok (.putfield 38, 3) := by decide +kernel
theorem d_mLines_init_1449 : decode b_mLines_init 1449 = .ok (.aload_n 0, 1) := by decide +kernel
theorem d_mLines_init_1450 : decode b_mLines_init 1450 = .ok (.iload_n 1, 1) := by decide +kernel
theorem d_mLines_init_1451 : decode b_mLines_init 1451 = .ok (.newarray .byte, 2) := by decide +kernel
theorem d_mLines_init_1453 : decode b_mLines_init 1453 = .ok (.putfield 41, 3) := by decide +kernel
theorem d_mLines_init_1456 : decode b_mLines_init 1456 = .ok (.return_, 1) := by decide +kernel
abbrev at_c_Lines_init_70000 (dC : Nat → ClassId) (dI : Nat → Nat → Nat) (h0 : Nat) (A : Nat → Prop) (u : Unit) (t : State) : Prop := match u with
  | _ => ∃ (q_1 : Nat) (q_15 : Nat) (q_29 : Nat) (q_36 : Nat) (q_43 : Nat) (q_47 : Nat) (q_50 : Nat) (q_52 : Nat) (q_54 : Nat) (q_56 : Nat) (q_58 : Nat) (cA_2 : ClassId) (cA_16 : ClassId) (cA_30 : ClassId) (cA_37 : ClassId) (cA_44 : ClassId) (cA_48 : ClassId) (cA_51 : ClassId) (cA_53 : ClassId) (cA_55 : ClassId) (cA_57 : ClassId) (cA_59 : ClassId), va_P (dC, dI) vcl [(h0, .inr (14, [.ref q_1, .ref q_15, .ref q_29, .ref q_36, .ref q_43, .ref q_47, .int 0, .ref q_50, .ref q_52, .ref q_58, .long 0, .null, .int 0, .int 0, .int 0, .int 0, .int 0, .int 0, .int 0, .ref q_54, .ref q_56])), (q_1, .inl (cA_2, 64, .inl (upd (upd (upd f_14 61 306) 62 307) 63 308))), (q_15, .inl (cA_16, 64, .inl (upd (upd (upd f_28 61 4186) 62 4198) 63 4199))), (q_29, .inl (cA_30, 27, .inl (upd (upd f_35 25 88) 26 667))), (q_36, .inl (cA_37, 27, .inl (upd (upd (upd f_42 24 8283) 25 8292) 26 8293))), (q_43, .inl (cA_44, 13, .inl (upd (upd (upd (upd f_46 9 4124) 10 4125) 11 4126) 12 4127))), (q_47, .inl (cA_48, 10, .inl (upd (upd (upd (upd (upd f_49 5 3) 6 11) 7 67) 8 131) 9 4097))), (q_50, .inl (cA_51, 10000, .inl (fun _ => 0))), (q_52, .inl (cA_53, 10000, .inl (fun _ => 0))), (q_54, .inl (cA_55, 10000, .inl (fun _ => 0))), (q_56, .inl (cA_57, 10000, .inl (fun _ => 0))), (q_58, .inl (cA_59, 70000, .inl (fun _ => 0)))] t.heap ∧ va_K (dC, dI) vcl [(cA_2, .int), (cA_16, .int), (cA_30, .int), (cA_37, .int), (cA_44, .int), (cA_48, .int), (cA_51, .boolean), (cA_53, .boolean), (cA_55, .boolean), (cA_57, .boolean), (cA_59, .byte)] t ∧ va_D A [(h0, .inr (14, [.ref q_1, .ref q_15, .ref q_29, .ref q_36, .ref q_43, .ref q_47, .int 0, .ref q_50, .ref q_52, .ref q_58, .long 0, .null, .int 0, .int 0, .int 0, .int 0, .int 0, .int 0, .int 0, .ref q_54, .ref q_56])), (q_1, .inl (cA_2, 64, .inl (upd (upd (upd f_14 61 306) 62 307) 63 308))), (q_15, .inl (cA_16, 64, .inl (upd (upd (upd f_28 61 4186) 62 4198) 63 4199))), (q_29, .inl (cA_30, 27, .inl (upd (upd f_35 25 88) 26 667))), (q_36, .inl (cA_37, 27, .inl (upd (upd (upd f_42 24 8283) 25 8292) 26 8293))), (q_43, .inl (cA_44, 13, .inl (upd (upd (upd (upd f_46 9 4124) 10 4125) 11 4126) 12 4127))), (q_47, .inl (cA_48, 10, .inl (upd (upd (upd (upd (upd f_49 5 3) 6 11) 7 67) 8 131) 9 4097))), (q_50, .inl (cA_51, 10000, .inl (fun _ => 0))), (q_52, .inl (cA_53, 10000, .inl (fun _ => 0))), (q_54, .inl (cA_55, 10000, .inl (fun _ => 0))), (q_56, .inl (cA_57, 10000, .inl (fun _ => 0))), (q_58, .inl (cA_59, 70000, .inl (fun _ => 0)))]
abbrev po_c_Lines_init_70000 (h0 : Nat) (u : Unit) : Prop := match u with
  | _ => True
abbrev q_c_Lines_init_70000 (dC : Nat → ClassId) (dI : Nat → Nat → Nat) (h0 : Nat) (A : Nat → Prop) : Array Value → State → Outcome → State → Prop := va_Qv (po_c_Lines_init_70000 h0) (at_c_Lines_init_70000 dC dI h0 A) A
abbrev rm_c_Lines_init_70000 : Room := { frames := 1, cells := 11, slots := 110205, locals := 12 }
set_option maxHeartbeats 4000000 in
set_option maxRecDepth 100000 in
theorem c_Lines_init_70000 (l : Launch) (dC : Nat → ClassId) (dI : Nat → Nat → Nat) (tt : Nat → Nat) (h0 : Nat) (sz : Nat)  : Met l y_mLines_init w_mLines_init rm_c_Lines_init_70000 (va_Pc [.ref h0, .int 70000] (fun U => U.heap.size = sz ∧ va_P (dC, dI) vcl [(h0, .inr (14, [.null, .null, .null, .null, .null, .null, .int 0, .null, .null, .null, .long 0, .null, .int 0, .int 0, .int 0, .int 0, .int 0, .int 0, .int 0, .null, .null]))] U.heap ∧ va_K (dC, dI) vcl [] U ∧ va_D (fun _ => True) [(h0, .inr (14, [.null, .null, .null, .null, .null, .null, .int 0, .null, .null, .null, .long 0, .null, .int 0, .int 0, .int 0, .int 0, .int 0, .int 0, .int 0, .null, .null]))] ∧ SF tt (va_A [(h0, .inr (14, [.null, .null, .null, .null, .null, .null, .int 0, .null, .null, .null, .long 0, .null, .int 0, .int 0, .int 0, .int 0, .int 0, .int 0, .int 0, .null, .null]))] sz) U U.heap)) (q_c_Lines_init_70000 dC dI h0 (va_A [(h0, .inr (14, [.null, .null, .null, .null, .null, .null, .int 0, .null, .null, .null, .long 0, .null, .int 0, .int 0, .int 0, .int 0, .int 0, .int 0, .int 0, .null, .null]))] sz)) 11 110205 (va_A [(h0, .inr (14, [.null, .null, .null, .null, .null, .null, .int 0, .null, .null, .null, .long 0, .null, .int 0, .int 0, .int 0, .int 0, .int 0, .int 0, .int 0, .null, .null]))] sz) := by
  refine Met.ofW (cc := b_mLines_init) (maxL := 2) (ret := none) (by decide) rfl ?_
  intro p e s m args below meth c s₁ B hml hv
  obtain ⟨rfl, hsz, hP, hK, hD0, hF⟩ := hv
  have hx := B.exec
  have hb := B.bytes
  have hr := B.returns
  have hwd : ∀ w ∈ gT, w.before _ s = true := fun w h => atoms_spec (ws := w_mLines_init) B.pre w (List.mem_cons_of_mem _ h)
  have hown : s.vm.findClass R_mLines = some m.cls := findClass_of_methodNamed B.named
  have hlocks := B.notSynchronized
  have hin : meth.name = "<init>" := (name_of_methodNamed B.named B.method).1
  subst hsz
  have hD := hD0.self (sz := s.heap.size)
  generalize hAe : va_A [(h0, .inr (14, [.null, .null, .null, .null, .null, .null, .int 0, .null, .null, .null, .long 0, .null, .int 0, .int 0, .int 0, .int 0, .int 0, .int 0, .int 0, .null, .null]))] s.heap.size = A at hD hF ⊢
  have hA : ∀ q : Nat, s.heap.size ≤ q → A q := fun q h => by rw [← hAe]; exact Or.inr h
  have hS : va_S A s.heap s.heap [] := va_S.rf
  have hP : va_P (dC, dI) vcl [(h0, .inr (14, [.null, .null, .null, .null, .null, .null, .int 0, .null, .null, .null, .long 0, .null, .int 0, .int 0, .int 0, .int 0, .int 0, .int 0, .int 0, .null, .null]))] s.heap := hP
  have hl := lv_entry ([.ref h0, .int 70000]) (n := 2) (Nat.le_of_ble_eq_true rfl)
  rw [lg_entry_eq]
  generalize (lg_sl ([.ref h0, .int 70000]) ++ List.replicate (2 - (lg_sl ([.ref h0, .int 70000])).length) Slot.unset).toArray = ls at hl ⊢
  have hl : lv_has ls 2 [(0, .ref h0), (1, .int 70000)] := hl
  refine lv_aload_n hx hb d_mLines_init_0 rfl (lv_at hl 0 rfl) ?_
  refine W.objInit hx hb hown (hwd _ wd_10_82) (hwd _ wd_1_35) (hwd _ wd_1_36) rfl (by rw [hml]; exact hl.1) rfl d_mLines_init_1 (Nat.le_of_ble_eq_true rfl) (Nat.le_of_ble_eq_true rfl) ?_
  refine W.eq (g2 := F0 m 4 ls []) rfl ?_
  refine lv_aload_n hx hb d_mLines_init_4 rfl (lv_at hl 0 rfl) ?_
  refine lv_bipush (v := 64) hx hb d_mLines_init_5 (by decide) ?_
  refine va_newa (atype := .int) (N' := 64) (a0 := (64, .inl (fun _ => 0))) (ty := .int) (n := 64) hx hb (hwd _ wd_1_167) rfl hK hP hD hS hA (fun _ => rfl) (by decide) (by decide) (by decide) (Nat.le_of_ble_eq_true rfl) (Nat.le_of_ble_eq_true rfl) d_mLines_init_7 (fun q_1 cA_2 H hK hP hD hS => ?_)
  have hP : va_P (dC, dI) vcl [(h0, .inr (14, [.null, .null, .null, .null, .null, .null, .int 0, .null, .null, .null, .long 0, .null, .int 0, .int 0, .int 0, .int 0, .int 0, .int 0, .int 0, .null, .null])), (q_1, .inl (cA_2, 64, .inl (fun _ => 0)))] H := hP
  have hD : va_D A [(h0, .inr (14, [.null, .null, .null, .null, .null, .null, .int 0, .null, .null, .null, .long 0, .null, .int 0, .int 0, .int 0, .int 0, .int 0, .int 0, .int 0, .null, .null])), (q_1, .inl (cA_2, 64, .inl (fun _ => 0)))] := hD
  have hK : va_K (dC, dI) vcl [(cA_2, .int)] s := hK
  refine W.widen (k := 1) (n := 64) (by decide) (by decide) ?_
  refine lv_dup hx hb d_mLines_init_9 rfl ?_
  refine lv_iconst (v := 0) hx hb d_mLines_init_10 (by decide) ?_
  refine lv_sipush (v := 309) hx hb d_mLines_init_11 (by decide) ?_
  refine va_iast hx hb hK hP hD hS 1 0 rfl rfl (show ¬ ((0 : Int32) < 0 ∨ 64 ≤ (0 : Int32).toNatClampNeg) by decide) d_mLines_init_14 (fun H locs hP hD hS => ?_)
  rw [show (0 : Int32).toNatClampNeg = 0 by decide] at hP hD
  have hP : va_P (dC, dI) vcl [(h0, .inr (14, [.null, .null, .null, .null, .null, .null, .int 0, .null, .null, .null, .long 0, .null, .int 0, .int 0, .int 0, .int 0, .int 0, .int 0, .int 0, .null, .null])), (q_1, .inl (cA_2, 64, .inl (upd (fun _ => 0) 0 309)))] H := hP
  have hD : va_D A [(h0, .inr (14, [.null, .null, .null, .null, .null, .null, .int 0, .null, .null, .null, .long 0, .null, .int 0, .int 0, .int 0, .int 0, .int 0, .int 0, .int 0, .null, .null])), (q_1, .inl (cA_2, 64, .inl (upd (fun _ => 0) 0 309)))] := hD
  refine lv_dup hx hb d_mLines_init_15 rfl ?_
  refine lv_iconst (v := 1) hx hb d_mLines_init_16 (by decide) ?_
  refine lv_bipush (v := 71) hx hb d_mLines_init_17 (by decide) ?_
  refine va_iast hx hb hK hP hD hS 1 0 rfl rfl (show ¬ ((1 : Int32) < 0 ∨ 64 ≤ (1 : Int32).toNatClampNeg) by decide) d_mLines_init_19 (fun H locs hP hD hS => ?_)
  rw [show (1 : Int32).toNatClampNeg = 1 by decide] at hP hD
  have hP : va_P (dC, dI) vcl [(h0, .inr (14, [.null, .null, .null, .null, .null, .null, .int 0, .null, .null, .null, .long 0, .null, .int 0, .int 0, .int 0, .int 0, .int 0, .int 0, .int 0, .null, .null])), (q_1, .inl (cA_2, 64, .inl (upd (upd (fun _ => 0) 0 309) 1 71)))] H := hP
  have hD : va_D A [(h0, .inr (14, [.null, .null, .null, .null, .null, .null, .int 0, .null, .null, .null, .long 0, .null, .int 0, .int 0, .int 0, .int 0, .int 0, .int 0, .int 0, .null, .null])), (q_1, .inl (cA_2, 64, .inl (upd (upd (fun _ => 0) 0 309) 1 71)))] := hD
  refine lv_dup hx hb d_mLines_init_20 rfl ?_
  refine lv_iconst (v := 2) hx hb d_mLines_init_21 (by decide) ?_
  refine lv_bipush (v := 23) hx hb d_mLines_init_22 (by decide) ?_
  refine va_iast hx hb hK hP hD hS 1 0 rfl rfl (show ¬ ((2 : Int32) < 0 ∨ 64 ≤ (2 : Int32).toNatClampNeg) by decide) d_mLines_init_24 (fun H locs hP hD hS => ?_)
  rw [show (2 : Int32).toNatClampNeg = 2 by decide] at hP hD
  have hP : va_P (dC, dI) vcl [(h0, .inr (14, [.null, .null, .null, .null, .null, .null, .int 0, .null, .null, .null, .long 0, .null, .int 0, .int 0, .int 0, .int 0, .int 0, .int 0, .int 0, .null, .null])), (q_1, .inl (cA_2, 64, .inl (upd (upd (upd (fun _ => 0) 0 309) 1 71) 2 23)))] H := hP
  have hD : va_D A [(h0, .inr (14, [.null, .null, .null, .null, .null, .null, .int 0, .null, .null, .null, .long 0, .null, .int 0, .int 0, .int 0, .int 0, .int 0, .int 0, .int 0, .null, .null])), (q_1, .inl (cA_2, 64, .inl (upd (upd (upd (fun _ => 0) 0 309) 1 71) 2 23)))] := hD
  refine lv_dup hx hb d_mLines_init_25 rfl ?_
  refine lv_iconst (v := 3) hx hb d_mLines_init_26 (by decide) ?_
  refine lv_bipush (v := 24) hx hb d_mLines_init_27 (by decide) ?_
  refine va_iast hx hb hK hP hD hS 1 0 rfl rfl (show ¬ ((3 : Int32) < 0 ∨ 64 ≤ (3 : Int32).toNatClampNeg) by decide) d_mLines_init_29 (fun H locs hP hD hS => ?_)
  rw [show (3 : Int32).toNatClampNeg = 3 by decide] at hP hD
  have hP : va_P (dC, dI) vcl [(h0, .inr (14, [.null, .null, .null, .null, .null, .null, .int 0, .null, .null, .null, .long 0, .null, .int 0, .int 0, .int 0, .int 0, .int 0, .int 0, .int 0, .null, .null])), (q_1, .inl (cA_2, 64, .inl (upd (upd (upd (upd (fun _ => 0) 0 309) 1 71) 2 23) 3 24)))] H := hP
  have hD : va_D A [(h0, .inr (14, [.null, .null, .null, .null, .null, .null, .int 0, .null, .null, .null, .long 0, .null, .int 0, .int 0, .int 0, .int 0, .int 0, .int 0, .int 0, .null, .null])), (q_1, .inl (cA_2, 64, .inl (upd (upd (upd (upd (fun _ => 0) 0 309) 1 71) 2 23) 3 24)))] := hD
  refine lv_dup hx hb d_mLines_init_30 rfl ?_
  refine lv_iconst (v := 4) hx hb d_mLines_init_31 (by decide) ?_
  refine lv_bipush (v := 27) hx hb d_mLines_init_32 (by decide) ?_
  refine va_iast hx hb hK hP hD hS 1 0 rfl rfl (show ¬ ((4 : Int32) < 0 ∨ 64 ≤ (4 : Int32).toNatClampNeg) by decide) d_mLines_init_34 (fun H locs hP hD hS => ?_)
  rw [show (4 : Int32).toNatClampNeg = 4 by decide] at hP hD
  obtain ⟨f_3, ef_3⟩ : ∃ y : Nat → Int32, y = upd (upd (upd (upd (upd (fun _ => 0) 0 309) 1 71) 2 23) 3 24) 4 27 := ⟨_, rfl⟩
  have hP : va_P (dC, dI) vcl [(h0, .inr (14, [.null, .null, .null, .null, .null, .null, .int 0, .null, .null, .null, .long 0, .null, .int 0, .int 0, .int 0, .int 0, .int 0, .int 0, .int 0, .null, .null])), (q_1, .inl (cA_2, 64, .inl (upd (upd (upd (upd (upd (fun _ => 0) 0 309) 1 71) 2 23) 3 24) 4 27)))] H := hP
  have hD : va_D A [(h0, .inr (14, [.null, .null, .null, .null, .null, .null, .int 0, .null, .null, .null, .long 0, .null, .int 0, .int 0, .int 0, .int 0, .int 0, .int 0, .int 0, .null, .null])), (q_1, .inl (cA_2, 64, .inl (upd (upd (upd (upd (upd (fun _ => 0) 0 309) 1 71) 2 23) 3 24) 4 27)))] := hD
  rw [← ef_3] at hP hD
  have hP : va_P (dC, dI) vcl [(h0, .inr (14, [.null, .null, .null, .null, .null, .null, .int 0, .null, .null, .null, .long 0, .null, .int 0, .int 0, .int 0, .int 0, .int 0, .int 0, .int 0, .null, .null])), (q_1, .inl (cA_2, 64, .inl f_3))] H := hP
  have hD : va_D A [(h0, .inr (14, [.null, .null, .null, .null, .null, .null, .int 0, .null, .null, .null, .long 0, .null, .int 0, .int 0, .int 0, .int 0, .int 0, .int 0, .int 0, .null, .null])), (q_1, .inl (cA_2, 64, .inl f_3))] := hD
  refine lv_dup hx hb d_mLines_init_35 rfl ?_
  refine lv_iconst (v := 5) hx hb d_mLines_init_36 (by decide) ?_
  refine lv_bipush (v := 28) hx hb d_mLines_init_37 (by decide) ?_
  refine va_iast hx hb hK hP hD hS 1 0 rfl rfl (show ¬ ((5 : Int32) < 0 ∨ 64 ≤ (5 : Int32).toNatClampNeg) by decide) d_mLines_init_39 (fun H locs hP hD hS => ?_)
  rw [show (5 : Int32).toNatClampNeg = 5 by decide] at hP hD
  have hP : va_P (dC, dI) vcl [(h0, .inr (14, [.null, .null, .null, .null, .null, .null, .int 0, .null, .null, .null, .long 0, .null, .int 0, .int 0, .int 0, .int 0, .int 0, .int 0, .int 0, .null, .null])), (q_1, .inl (cA_2, 64, .inl (upd f_3 5 28)))] H := hP
  have hD : va_D A [(h0, .inr (14, [.null, .null, .null, .null, .null, .null, .int 0, .null, .null, .null, .long 0, .null, .int 0, .int 0, .int 0, .int 0, .int 0, .int 0, .int 0, .null, .null])), (q_1, .inl (cA_2, 64, .inl (upd f_3 5 28)))] := hD
  refine lv_dup hx hb d_mLines_init_40 rfl ?_
  refine lv_bipush (v := 6) hx hb d_mLines_init_41 (by decide) ?_
  refine lv_bipush (v := 30) hx hb d_mLines_init_43 (by decide) ?_
  refine va_iast hx hb hK hP hD hS 1 0 rfl rfl (show ¬ ((6 : Int32) < 0 ∨ 64 ≤ (6 : Int32).toNatClampNeg) by decide) d_mLines_init_45 (fun H locs hP hD hS => ?_)
  rw [show (6 : Int32).toNatClampNeg = 6 by decide] at hP hD
  have hP : va_P (dC, dI) vcl [(h0, .inr (14, [.null, .null, .null, .null, .null, .null, .int 0, .null, .null, .null, .long 0, .null, .int 0, .int 0, .int 0, .int 0, .int 0, .int 0, .int 0, .null, .null])), (q_1, .inl (cA_2, 64, .inl (upd (upd f_3 5 28) 6 30)))] H := hP
  have hD : va_D A [(h0, .inr (14, [.null, .null, .null, .null, .null, .null, .int 0, .null, .null, .null, .long 0, .null, .int 0, .int 0, .int 0, .int 0, .int 0, .int 0, .int 0, .null, .null])), (q_1, .inl (cA_2, 64, .inl (upd (upd f_3 5 28) 6 30)))] := hD
  refine lv_dup hx hb d_mLines_init_46 rfl ?_
  refine lv_bipush (v := 7) hx hb d_mLines_init_47 (by decide) ?_
  refine lv_bipush (v := 31) hx hb d_mLines_init_49 (by decide) ?_
  refine va_iast hx hb hK hP hD hS 1 0 rfl rfl (show ¬ ((7 : Int32) < 0 ∨ 64 ≤ (7 : Int32).toNatClampNeg) by decide) d_mLines_init_51 (fun H locs hP hD hS => ?_)
  rw [show (7 : Int32).toNatClampNeg = 7 by decide] at hP hD
  have hP : va_P (dC, dI) vcl [(h0, .inr (14, [.null, .null, .null, .null, .null, .null, .int 0, .null, .null, .null, .long 0, .null, .int 0, .int 0, .int 0, .int 0, .int 0, .int 0, .int 0, .null, .null])), (q_1, .inl (cA_2, 64, .inl (upd (upd (upd f_3 5 28) 6 30) 7 31)))] H := hP
  have hD : va_D A [(h0, .inr (14, [.null, .null, .null, .null, .null, .null, .int 0, .null, .null, .null, .long 0, .null, .int 0, .int 0, .int 0, .int 0, .int 0, .int 0, .int 0, .null, .null])), (q_1, .inl (cA_2, 64, .inl (upd (upd (upd f_3 5 28) 6 30) 7 31)))] := hD
  refine lv_dup hx hb d_mLines_init_52 rfl ?_
  refine lv_bipush (v := 8) hx hb d_mLines_init_53 (by decide) ?_
  refine lv_bipush (v := 51) hx hb d_mLines_init_55 (by decide) ?_
  refine va_iast hx hb hK hP hD hS 1 0 rfl rfl (show ¬ ((8 : Int32) < 0 ∨ 64 ≤ (8 : Int32).toNatClampNeg) by decide) d_mLines_init_57 (fun H locs hP hD hS => ?_)
  rw [show (8 : Int32).toNatClampNeg = 8 by decide] at hP hD
  have hP : va_P (dC, dI) vcl [(h0, .inr (14, [.null, .null, .null, .null, .null, .null, .int 0, .null, .null, .null, .long 0, .null, .int 0, .int 0, .int 0, .int 0, .int 0, .int 0, .int 0, .null, .null])), (q_1, .inl (cA_2, 64, .inl (upd (upd (upd (upd f_3 5 28) 6 30) 7 31) 8 51)))] H := hP
  have hD : va_D A [(h0, .inr (14, [.null, .null, .null, .null, .null, .null, .int 0, .null, .null, .null, .long 0, .null, .int 0, .int 0, .int 0, .int 0, .int 0, .int 0, .int 0, .null, .null])), (q_1, .inl (cA_2, 64, .inl (upd (upd (upd (upd f_3 5 28) 6 30) 7 31) 8 51)))] := hD
  refine lv_dup hx hb d_mLines_init_58 rfl ?_
  refine lv_bipush (v := 9) hx hb d_mLines_init_59 (by decide) ?_
  refine lv_bipush (v := 52) hx hb d_mLines_init_61 (by decide) ?_
  refine va_iast hx hb hK hP hD hS 1 0 rfl rfl (show ¬ ((9 : Int32) < 0 ∨ 64 ≤ (9 : Int32).toNatClampNeg) by decide) d_mLines_init_63 (fun H locs hP hD hS => ?_)
  rw [show (9 : Int32).toNatClampNeg = 9 by decide] at hP hD
  have hP : va_P (dC, dI) vcl [(h0, .inr (14, [.null, .null, .null, .null, .null, .null, .int 0, .null, .null, .null, .long 0, .null, .int 0, .int 0, .int 0, .int 0, .int 0, .int 0, .int 0, .null, .null])), (q_1, .inl (cA_2, 64, .inl (upd (upd (upd (upd (upd f_3 5 28) 6 30) 7 31) 8 51) 9 52)))] H := hP
  have hD : va_D A [(h0, .inr (14, [.null, .null, .null, .null, .null, .null, .int 0, .null, .null, .null, .long 0, .null, .int 0, .int 0, .int 0, .int 0, .int 0, .int 0, .int 0, .null, .null])), (q_1, .inl (cA_2, 64, .inl (upd (upd (upd (upd (upd f_3 5 28) 6 30) 7 31) 8 51) 9 52)))] := hD
  refine lv_dup hx hb d_mLines_init_64 rfl ?_
  refine lv_bipush (v := 10) hx hb d_mLines_init_65 (by decide) ?_
  refine lv_bipush (v := 39) hx hb d_mLines_init_67 (by decide) ?_
  refine va_iast hx hb hK hP hD hS 1 0 rfl rfl (show ¬ ((10 : Int32) < 0 ∨ 64 ≤ (10 : Int32).toNatClampNeg) by decide) d_mLines_init_69 (fun H locs hP hD hS => ?_)
  rw [show (10 : Int32).toNatClampNeg = 10 by decide] at hP hD
  obtain ⟨f_4, ef_4⟩ : ∃ y : Nat → Int32, y = upd (upd (upd (upd (upd (upd f_3 5 28) 6 30) 7 31) 8 51) 9 52) 10 39 := ⟨_, rfl⟩
  have hP : va_P (dC, dI) vcl [(h0, .inr (14, [.null, .null, .null, .null, .null, .null, .int 0, .null, .null, .null, .long 0, .null, .int 0, .int 0, .int 0, .int 0, .int 0, .int 0, .int 0, .null, .null])), (q_1, .inl (cA_2, 64, .inl (upd (upd (upd (upd (upd (upd f_3 5 28) 6 30) 7 31) 8 51) 9 52) 10 39)))] H := hP
  have hD : va_D A [(h0, .inr (14, [.null, .null, .null, .null, .null, .null, .int 0, .null, .null, .null, .long 0, .null, .int 0, .int 0, .int 0, .int 0, .int 0, .int 0, .int 0, .null, .null])), (q_1, .inl (cA_2, 64, .inl (upd (upd (upd (upd (upd (upd f_3 5 28) 6 30) 7 31) 8 51) 9 52) 10 39)))] := hD
  rw [← ef_4] at hP hD
  have hP : va_P (dC, dI) vcl [(h0, .inr (14, [.null, .null, .null, .null, .null, .null, .int 0, .null, .null, .null, .long 0, .null, .int 0, .int 0, .int 0, .int 0, .int 0, .int 0, .int 0, .null, .null])), (q_1, .inl (cA_2, 64, .inl f_4))] H := hP
  have hD : va_D A [(h0, .inr (14, [.null, .null, .null, .null, .null, .null, .int 0, .null, .null, .null, .long 0, .null, .int 0, .int 0, .int 0, .int 0, .int 0, .int 0, .int 0, .null, .null])), (q_1, .inl (cA_2, 64, .inl f_4))] := hD
  refine lv_dup hx hb d_mLines_init_70 rfl ?_
  refine lv_bipush (v := 11) hx hb d_mLines_init_71 (by decide) ?_
  refine lv_bipush (v := 40) hx hb d_mLines_init_73 (by decide) ?_
  refine va_iast hx hb hK hP hD hS 1 0 rfl rfl (show ¬ ((11 : Int32) < 0 ∨ 64 ≤ (11 : Int32).toNatClampNeg) by decide) d_mLines_init_75 (fun H locs hP hD hS => ?_)
  rw [show (11 : Int32).toNatClampNeg = 11 by decide] at hP hD
  have hP : va_P (dC, dI) vcl [(h0, .inr (14, [.null, .null, .null, .null, .null, .null, .int 0, .null, .null, .null, .long 0, .null, .int 0, .int 0, .int 0, .int 0, .int 0, .int 0, .int 0, .null, .null])), (q_1, .inl (cA_2, 64, .inl (upd f_4 11 40)))] H := hP
  have hD : va_D A [(h0, .inr (14, [.null, .null, .null, .null, .null, .null, .int 0, .null, .null, .null, .long 0, .null, .int 0, .int 0, .int 0, .int 0, .int 0, .int 0, .int 0, .null, .null])), (q_1, .inl (cA_2, 64, .inl (upd f_4 11 40)))] := hD
  refine lv_dup hx hb d_mLines_init_76 rfl ?_
  refine lv_bipush (v := 12) hx hb d_mLines_init_77 (by decide) ?_
  refine lv_bipush (v := 72) hx hb d_mLines_init_79 (by decide) ?_
  refine va_iast hx hb hK hP hD hS 1 0 rfl rfl (show ¬ ((12 : Int32) < 0 ∨ 64 ≤ (12 : Int32).toNatClampNeg) by decide) d_mLines_init_81 (fun H locs hP hD hS => ?_)
  rw [show (12 : Int32).toNatClampNeg = 12 by decide] at hP hD
  have hP : va_P (dC, dI) vcl [(h0, .inr (14, [.null, .null, .null, .null, .null, .null, .int 0, .null, .null, .null, .long 0, .null, .int 0, .int 0, .int 0, .int 0, .int 0, .int 0, .int 0, .null, .null])), (q_1, .inl (cA_2, 64, .inl (upd (upd f_4 11 40) 12 72)))] H := hP
  have hD : va_D A [(h0, .inr (14, [.null, .null, .null, .null, .null, .null, .int 0, .null, .null, .null, .long 0, .null, .int 0, .int 0, .int 0, .int 0, .int 0, .int 0, .int 0, .null, .null])), (q_1, .inl (cA_2, 64, .inl (upd (upd f_4 11 40) 12 72)))] := hD
  refine lv_dup hx hb d_mLines_init_82 rfl ?_
  refine lv_bipush (v := 13) hx hb d_mLines_init_83 (by decide) ?_
  refine lv_bipush (v := 67) hx hb d_mLines_init_85 (by decide) ?_
  refine va_iast hx hb hK hP hD hS 1 0 rfl rfl (show ¬ ((13 : Int32) < 0 ∨ 64 ≤ (13 : Int32).toNatClampNeg) by decide) d_mLines_init_87 (fun H locs hP hD hS => ?_)
  rw [show (13 : Int32).toNatClampNeg = 13 by decide] at hP hD
  have hP : va_P (dC, dI) vcl [(h0, .inr (14, [.null, .null, .null, .null, .null, .null, .int 0, .null, .null, .null, .long 0, .null, .int 0, .int 0, .int 0, .int 0, .int 0, .int 0, .int 0, .null, .null])), (q_1, .inl (cA_2, 64, .inl (upd (upd (upd f_4 11 40) 12 72) 13 67)))] H := hP
  have hD : va_D A [(h0, .inr (14, [.null, .null, .null, .null, .null, .null, .int 0, .null, .null, .null, .long 0, .null, .int 0, .int 0, .int 0, .int 0, .int 0, .int 0, .int 0, .null, .null])), (q_1, .inl (cA_2, 64, .inl (upd (upd (upd f_4 11 40) 12 72) 13 67)))] := hD
  refine lv_dup hx hb d_mLines_init_88 rfl ?_
  refine lv_bipush (v := 14) hx hb d_mLines_init_89 (by decide) ?_
  refine lv_bipush (v := 116) hx hb d_mLines_init_91 (by decide) ?_
  refine va_iast hx hb hK hP hD hS 1 0 rfl rfl (show ¬ ((14 : Int32) < 0 ∨ 64 ≤ (14 : Int32).toNatClampNeg) by decide) d_mLines_init_93 (fun H locs hP hD hS => ?_)
  rw [show (14 : Int32).toNatClampNeg = 14 by decide] at hP hD
  have hP : va_P (dC, dI) vcl [(h0, .inr (14, [.null, .null, .null, .null, .null, .null, .int 0, .null, .null, .null, .long 0, .null, .int 0, .int 0, .int 0, .int 0, .int 0, .int 0, .int 0, .null, .null])), (q_1, .inl (cA_2, 64, .inl (upd (upd (upd (upd f_4 11 40) 12 72) 13 67) 14 116)))] H := hP
  have hD : va_D A [(h0, .inr (14, [.null, .null, .null, .null, .null, .null, .int 0, .null, .null, .null, .long 0, .null, .int 0, .int 0, .int 0, .int 0, .int 0, .int 0, .int 0, .null, .null])), (q_1, .inl (cA_2, 64, .inl (upd (upd (upd (upd f_4 11 40) 12 72) 13 67) 14 116)))] := hD
  refine lv_dup hx hb d_mLines_init_94 rfl ?_
  refine lv_bipush (v := 15) hx hb d_mLines_init_95 (by decide) ?_
  refine lv_bipush (v := 117) hx hb d_mLines_init_97 (by decide) ?_
  refine va_iast hx hb hK hP hD hS 1 0 rfl rfl (show ¬ ((15 : Int32) < 0 ∨ 64 ≤ (15 : Int32).toNatClampNeg) by decide) d_mLines_init_99 (fun H locs hP hD hS => ?_)
  rw [show (15 : Int32).toNatClampNeg = 15 by decide] at hP hD
  obtain ⟨f_5, ef_5⟩ : ∃ y : Nat → Int32, y = upd (upd (upd (upd (upd f_4 11 40) 12 72) 13 67) 14 116) 15 117 := ⟨_, rfl⟩
  have hP : va_P (dC, dI) vcl [(h0, .inr (14, [.null, .null, .null, .null, .null, .null, .int 0, .null, .null, .null, .long 0, .null, .int 0, .int 0, .int 0, .int 0, .int 0, .int 0, .int 0, .null, .null])), (q_1, .inl (cA_2, 64, .inl (upd (upd (upd (upd (upd f_4 11 40) 12 72) 13 67) 14 116) 15 117)))] H := hP
  have hD : va_D A [(h0, .inr (14, [.null, .null, .null, .null, .null, .null, .int 0, .null, .null, .null, .long 0, .null, .int 0, .int 0, .int 0, .int 0, .int 0, .int 0, .int 0, .null, .null])), (q_1, .inl (cA_2, 64, .inl (upd (upd (upd (upd (upd f_4 11 40) 12 72) 13 67) 14 116) 15 117)))] := hD
  rw [← ef_5] at hP hD
  have hP : va_P (dC, dI) vcl [(h0, .inr (14, [.null, .null, .null, .null, .null, .null, .int 0, .null, .null, .null, .long 0, .null, .int 0, .int 0, .int 0, .int 0, .int 0, .int 0, .int 0, .null, .null])), (q_1, .inl (cA_2, 64, .inl f_5))] H := hP
  have hD : va_D A [(h0, .inr (14, [.null, .null, .null, .null, .null, .null, .int 0, .null, .null, .null, .long 0, .null, .int 0, .int 0, .int 0, .int 0, .int 0, .int 0, .int 0, .null, .null])), (q_1, .inl (cA_2, 64, .inl f_5))] := hD
  refine lv_dup hx hb d_mLines_init_100 rfl ?_
  refine lv_bipush (v := 16) hx hb d_mLines_init_101 (by decide) ?_
  refine lv_bipush (v := 106) hx hb d_mLines_init_103 (by decide) ?_
  refine va_iast hx hb hK hP hD hS 1 0 rfl rfl (show ¬ ((16 : Int32) < 0 ∨ 64 ≤ (16 : Int32).toNatClampNeg) by decide) d_mLines_init_105 (fun H locs hP hD hS => ?_)
  rw [show (16 : Int32).toNatClampNeg = 16 by decide] at hP hD
  have hP : va_P (dC, dI) vcl [(h0, .inr (14, [.null, .null, .null, .null, .null, .null, .int 0, .null, .null, .null, .long 0, .null, .int 0, .int 0, .int 0, .int 0, .int 0, .int 0, .int 0, .null, .null])), (q_1, .inl (cA_2, 64, .inl (upd f_5 16 106)))] H := hP
  have hD : va_D A [(h0, .inr (14, [.null, .null, .null, .null, .null, .null, .int 0, .null, .null, .null, .long 0, .null, .int 0, .int 0, .int 0, .int 0, .int 0, .int 0, .int 0, .null, .null])), (q_1, .inl (cA_2, 64, .inl (upd f_5 16 106)))] := hD
  refine lv_dup hx hb d_mLines_init_106 rfl ?_
  refine lv_bipush (v := 17) hx hb d_mLines_init_107 (by decide) ?_
  refine lv_bipush (v := 107) hx hb d_mLines_init_109 (by decide) ?_
  refine va_iast hx hb hK hP hD hS 1 0 rfl rfl (show ¬ ((17 : Int32) < 0 ∨ 64 ≤ (17 : Int32).toNatClampNeg) by decide) d_mLines_init_111 (fun H locs hP hD hS => ?_)
  rw [show (17 : Int32).toNatClampNeg = 17 by decide] at hP hD
  have hP : va_P (dC, dI) vcl [(h0, .inr (14, [.null, .null, .null, .null, .null, .null, .int 0, .null, .null, .null, .long 0, .null, .int 0, .int 0, .int 0, .int 0, .int 0, .int 0, .int 0, .null, .null])), (q_1, .inl (cA_2, 64, .inl (upd (upd f_5 16 106) 17 107)))] H := hP
  have hD : va_D A [(h0, .inr (14, [.null, .null, .null, .null, .null, .null, .int 0, .null, .null, .null, .long 0, .null, .int 0, .int 0, .int 0, .int 0, .int 0, .int 0, .int 0, .null, .null])), (q_1, .inl (cA_2, 64, .inl (upd (upd f_5 16 106) 17 107)))] := hD
  refine lv_dup hx hb d_mLines_init_112 rfl ?_
  refine lv_bipush (v := 18) hx hb d_mLines_init_113 (by decide) ?_
  refine lv_sipush (v := 167) hx hb d_mLines_init_115 (by decide) ?_
  refine va_iast hx hb hK hP hD hS 1 0 rfl rfl (show ¬ ((18 : Int32) < 0 ∨ 64 ≤ (18 : Int32).toNatClampNeg) by decide) d_mLines_init_118 (fun H locs hP hD hS => ?_)
  rw [show (18 : Int32).toNatClampNeg = 18 by decide] at hP hD
  have hP : va_P (dC, dI) vcl [(h0, .inr (14, [.null, .null, .null, .null, .null, .null, .int 0, .null, .null, .null, .long 0, .null, .int 0, .int 0, .int 0, .int 0, .int 0, .int 0, .int 0, .null, .null])), (q_1, .inl (cA_2, 64, .inl (upd (upd (upd f_5 16 106) 17 107) 18 167)))] H := hP
  have hD : va_D A [(h0, .inr (14, [.null, .null, .null, .null, .null, .null, .int 0, .null, .null, .null, .long 0, .null, .int 0, .int 0, .int 0, .int 0, .int 0, .int 0, .int 0, .null, .null])), (q_1, .inl (cA_2, 64, .inl (upd (upd (upd f_5 16 106) 17 107) 18 167)))] := hD
  refine lv_dup hx hb d_mLines_init_119 rfl ?_
  refine lv_bipush (v := 19) hx hb d_mLines_init_120 (by decide) ?_
  refine lv_sipush (v := 140) hx hb d_mLines_init_122 (by decide) ?_
  refine va_iast hx hb hK hP hD hS 1 0 rfl rfl (show ¬ ((19 : Int32) < 0 ∨ 64 ≤ (19 : Int32).toNatClampNeg) by decide) d_mLines_init_125 (fun H locs hP hD hS => ?_)
  rw [show (19 : Int32).toNatClampNeg = 19 by decide] at hP hD
  have hP : va_P (dC, dI) vcl [(h0, .inr (14, [.null, .null, .null, .null, .null, .null, .int 0, .null, .null, .null, .long 0, .null, .int 0, .int 0, .int 0, .int 0, .int 0, .int 0, .int 0, .null, .null])), (q_1, .inl (cA_2, 64, .inl (upd (upd (upd (upd f_5 16 106) 17 107) 18 167) 19 140)))] H := hP
  have hD : va_D A [(h0, .inr (14, [.null, .null, .null, .null, .null, .null, .int 0, .null, .null, .null, .long 0, .null, .int 0, .int 0, .int 0, .int 0, .int 0, .int 0, .int 0, .null, .null])), (q_1, .inl (cA_2, 64, .inl (upd (upd (upd (upd f_5 16 106) 17 107) 18 167) 19 140)))] := hD
  refine lv_dup hx hb d_mLines_init_126 rfl ?_
  refine lv_bipush (v := 20) hx hb d_mLines_init_127 (by decide) ?_
  refine lv_sipush (v := 136) hx hb d_mLines_init_129 (by decide) ?_
  refine va_iast hx hb hK hP hD hS 1 0 rfl rfl (show ¬ ((20 : Int32) < 0 ∨ 64 ≤ (20 : Int32).toNatClampNeg) by decide) d_mLines_init_132 (fun H locs hP hD hS => ?_)
  rw [show (20 : Int32).toNatClampNeg = 20 by decide] at hP hD
  obtain ⟨f_6, ef_6⟩ : ∃ y : Nat → Int32, y = upd (upd (upd (upd (upd f_5 16 106) 17 107) 18 167) 19 140) 20 136 := ⟨_, rfl⟩
  have hP : va_P (dC, dI) vcl [(h0, .inr (14, [.null, .null, .null, .null, .null, .null, .int 0, .null, .null, .null, .long 0, .null, .int 0, .int 0, .int 0, .int 0, .int 0, .int 0, .int 0, .null, .null])), (q_1, .inl (cA_2, 64, .inl (upd (upd (upd (upd (upd f_5 16 106) 17 107) 18 167) 19 140) 20 136)))] H := hP
  have hD : va_D A [(h0, .inr (14, [.null, .null, .null, .null, .null, .null, .int 0, .null, .null, .null, .long 0, .null, .int 0, .int 0, .int 0, .int 0, .int 0, .int 0, .int 0, .null, .null])), (q_1, .inl (cA_2, 64, .inl (upd (upd (upd (upd (upd f_5 16 106) 17 107) 18 167) 19 140) 20 136)))] := hD
  rw [← ef_6] at hP hD
  have hP : va_P (dC, dI) vcl [(h0, .inr (14, [.null, .null, .null, .null, .null, .null, .int 0, .null, .null, .null, .long 0, .null, .int 0, .int 0, .int 0, .int 0, .int 0, .int 0, .int 0, .null, .null])), (q_1, .inl (cA_2, 64, .inl f_6))] H := hP
  have hD : va_D A [(h0, .inr (14, [.null, .null, .null, .null, .null, .null, .int 0, .null, .null, .null, .long 0, .null, .int 0, .int 0, .int 0, .int 0, .int 0, .int 0, .int 0, .null, .null])), (q_1, .inl (cA_2, 64, .inl f_6))] := hD
  refine lv_dup hx hb d_mLines_init_133 rfl ?_
  refine lv_bipush (v := 21) hx hb d_mLines_init_134 (by decide) ?_
  refine lv_sipush (v := 151) hx hb d_mLines_init_136 (by decide) ?_
  refine va_iast hx hb hK hP hD hS 1 0 rfl rfl (show ¬ ((21 : Int32) < 0 ∨ 64 ≤ (21 : Int32).toNatClampNeg) by decide) d_mLines_init_139 (fun H locs hP hD hS => ?_)
  rw [show (21 : Int32).toNatClampNeg = 21 by decide] at hP hD
  have hP : va_P (dC, dI) vcl [(h0, .inr (14, [.null, .null, .null, .null, .null, .null, .int 0, .null, .null, .null, .long 0, .null, .int 0, .int 0, .int 0, .int 0, .int 0, .int 0, .int 0, .null, .null])), (q_1, .inl (cA_2, 64, .inl (upd f_6 21 151)))] H := hP
  have hD : va_D A [(h0, .inr (14, [.null, .null, .null, .null, .null, .null, .int 0, .null, .null, .null, .long 0, .null, .int 0, .int 0, .int 0, .int 0, .int 0, .int 0, .int 0, .null, .null])), (q_1, .inl (cA_2, 64, .inl (upd f_6 21 151)))] := hD
  refine lv_dup hx hb d_mLines_init_140 rfl ?_
  refine lv_bipush (v := 22) hx hb d_mLines_init_141 (by decide) ?_
  refine lv_sipush (v := 131) hx hb d_mLines_init_143 (by decide) ?_
  refine va_iast hx hb hK hP hD hS 1 0 rfl rfl (show ¬ ((22 : Int32) < 0 ∨ 64 ≤ (22 : Int32).toNatClampNeg) by decide) d_mLines_init_146 (fun H locs hP hD hS => ?_)
  rw [show (22 : Int32).toNatClampNeg = 22 by decide] at hP hD
  have hP : va_P (dC, dI) vcl [(h0, .inr (14, [.null, .null, .null, .null, .null, .null, .int 0, .null, .null, .null, .long 0, .null, .int 0, .int 0, .int 0, .int 0, .int 0, .int 0, .int 0, .null, .null])), (q_1, .inl (cA_2, 64, .inl (upd (upd f_6 21 151) 22 131)))] H := hP
  have hD : va_D A [(h0, .inr (14, [.null, .null, .null, .null, .null, .null, .int 0, .null, .null, .null, .long 0, .null, .int 0, .int 0, .int 0, .int 0, .int 0, .int 0, .int 0, .null, .null])), (q_1, .inl (cA_2, 64, .inl (upd (upd f_6 21 151) 22 131)))] := hD
  refine lv_dup hx hb d_mLines_init_147 rfl ?_
  refine lv_bipush (v := 23) hx hb d_mLines_init_148 (by decide) ?_
  refine lv_sipush (v := 132) hx hb d_mLines_init_150 (by decide) ?_
  refine va_iast hx hb hK hP hD hS 1 0 rfl rfl (show ¬ ((23 : Int32) < 0 ∨ 64 ≤ (23 : Int32).toNatClampNeg) by decide) d_mLines_init_153 (fun H locs hP hD hS => ?_)
  rw [show (23 : Int32).toNatClampNeg = 23 by decide] at hP hD
  have hP : va_P (dC, dI) vcl [(h0, .inr (14, [.null, .null, .null, .null, .null, .null, .int 0, .null, .null, .null, .long 0, .null, .int 0, .int 0, .int 0, .int 0, .int 0, .int 0, .int 0, .null, .null])), (q_1, .inl (cA_2, 64, .inl (upd (upd (upd f_6 21 151) 22 131) 23 132)))] H := hP
  have hD : va_D A [(h0, .inr (14, [.null, .null, .null, .null, .null, .null, .int 0, .null, .null, .null, .long 0, .null, .int 0, .int 0, .int 0, .int 0, .int 0, .int 0, .int 0, .null, .null])), (q_1, .inl (cA_2, 64, .inl (upd (upd (upd f_6 21 151) 22 131) 23 132)))] := hD
  refine lv_dup hx hb d_mLines_init_154 rfl ?_
  refine lv_bipush (v := 24) hx hb d_mLines_init_155 (by decide) ?_
  refine lv_sipush (v := 168) hx hb d_mLines_init_157 (by decide) ?_
  refine va_iast hx hb hK hP hD hS 1 0 rfl rfl (show ¬ ((24 : Int32) < 0 ∨ 64 ≤ (24 : Int32).toNatClampNeg) by decide) d_mLines_init_160 (fun H locs hP hD hS => ?_)
  rw [show (24 : Int32).toNatClampNeg = 24 by decide] at hP hD
  have hP : va_P (dC, dI) vcl [(h0, .inr (14, [.null, .null, .null, .null, .null, .null, .int 0, .null, .null, .null, .long 0, .null, .int 0, .int 0, .int 0, .int 0, .int 0, .int 0, .int 0, .null, .null])), (q_1, .inl (cA_2, 64, .inl (upd (upd (upd (upd f_6 21 151) 22 131) 23 132) 24 168)))] H := hP
  have hD : va_D A [(h0, .inr (14, [.null, .null, .null, .null, .null, .null, .int 0, .null, .null, .null, .long 0, .null, .int 0, .int 0, .int 0, .int 0, .int 0, .int 0, .int 0, .null, .null])), (q_1, .inl (cA_2, 64, .inl (upd (upd (upd (upd f_6 21 151) 22 131) 23 132) 24 168)))] := hD
  refine lv_dup hx hb d_mLines_init_161 rfl ?_
  refine lv_bipush (v := 25) hx hb d_mLines_init_162 (by decide) ?_
  refine lv_sipush (v := 171) hx hb d_mLines_init_164 (by decide) ?_
  refine va_iast hx hb hK hP hD hS 1 0 rfl rfl (show ¬ ((25 : Int32) < 0 ∨ 64 ≤ (25 : Int32).toNatClampNeg) by decide) d_mLines_init_167 (fun H locs hP hD hS => ?_)
  rw [show (25 : Int32).toNatClampNeg = 25 by decide] at hP hD
  obtain ⟨f_7, ef_7⟩ : ∃ y : Nat → Int32, y = upd (upd (upd (upd (upd f_6 21 151) 22 131) 23 132) 24 168) 25 171 := ⟨_, rfl⟩
  have hP : va_P (dC, dI) vcl [(h0, .inr (14, [.null, .null, .null, .null, .null, .null, .int 0, .null, .null, .null, .long 0, .null, .int 0, .int 0, .int 0, .int 0, .int 0, .int 0, .int 0, .null, .null])), (q_1, .inl (cA_2, 64, .inl (upd (upd (upd (upd (upd f_6 21 151) 22 131) 23 132) 24 168) 25 171)))] H := hP
  have hD : va_D A [(h0, .inr (14, [.null, .null, .null, .null, .null, .null, .int 0, .null, .null, .null, .long 0, .null, .int 0, .int 0, .int 0, .int 0, .int 0, .int 0, .int 0, .null, .null])), (q_1, .inl (cA_2, 64, .inl (upd (upd (upd (upd (upd f_6 21 151) 22 131) 23 132) 24 168) 25 171)))] := hD
  rw [← ef_7] at hP hD
  have hP : va_P (dC, dI) vcl [(h0, .inr (14, [.null, .null, .null, .null, .null, .null, .int 0, .null, .null, .null, .long 0, .null, .int 0, .int 0, .int 0, .int 0, .int 0, .int 0, .int 0, .null, .null])), (q_1, .inl (cA_2, 64, .inl f_7))] H := hP
  have hD : va_D A [(h0, .inr (14, [.null, .null, .null, .null, .null, .null, .int 0, .null, .null, .null, .long 0, .null, .int 0, .int 0, .int 0, .int 0, .int 0, .int 0, .int 0, .null, .null])), (q_1, .inl (cA_2, 64, .inl f_7))] := hD
  refine lv_dup hx hb d_mLines_init_168 rfl ?_
  refine lv_bipush (v := 26) hx hb d_mLines_init_169 (by decide) ?_
  refine lv_sipush (v := 147) hx hb d_mLines_init_171 (by decide) ?_
  refine va_iast hx hb hK hP hD hS 1 0 rfl rfl (show ¬ ((26 : Int32) < 0 ∨ 64 ≤ (26 : Int32).toNatClampNeg) by decide) d_mLines_init_174 (fun H locs hP hD hS => ?_)
  rw [show (26 : Int32).toNatClampNeg = 26 by decide] at hP hD
  have hP : va_P (dC, dI) vcl [(h0, .inr (14, [.null, .null, .null, .null, .null, .null, .int 0, .null, .null, .null, .long 0, .null, .int 0, .int 0, .int 0, .int 0, .int 0, .int 0, .int 0, .null, .null])), (q_1, .inl (cA_2, 64, .inl (upd f_7 26 147)))] H := hP
  have hD : va_D A [(h0, .inr (14, [.null, .null, .null, .null, .null, .null, .int 0, .null, .null, .null, .long 0, .null, .int 0, .int 0, .int 0, .int 0, .int 0, .int 0, .int 0, .null, .null])), (q_1, .inl (cA_2, 64, .inl (upd f_7 26 147)))] := hD
  refine lv_dup hx hb d_mLines_init_175 rfl ?_
  refine lv_bipush (v := 27) hx hb d_mLines_init_176 (by decide) ?_
  refine lv_sipush (v := 164) hx hb d_mLines_init_178 (by decide) ?_
  refine va_iast hx hb hK hP hD hS 1 0 rfl rfl (show ¬ ((27 : Int32) < 0 ∨ 64 ≤ (27 : Int32).toNatClampNeg) by decide) d_mLines_init_181 (fun H locs hP hD hS => ?_)
  rw [show (27 : Int32).toNatClampNeg = 27 by decide] at hP hD
  have hP : va_P (dC, dI) vcl [(h0, .inr (14, [.null, .null, .null, .null, .null, .null, .int 0, .null, .null, .null, .long 0, .null, .int 0, .int 0, .int 0, .int 0, .int 0, .int 0, .int 0, .null, .null])), (q_1, .inl (cA_2, 64, .inl (upd (upd f_7 26 147) 27 164)))] H := hP
  have hD : va_D A [(h0, .inr (14, [.null, .null, .null, .null, .null, .null, .int 0, .null, .null, .null, .long 0, .null, .int 0, .int 0, .int 0, .int 0, .int 0, .int 0, .int 0, .null, .null])), (q_1, .inl (cA_2, 64, .inl (upd (upd f_7 26 147) 27 164)))] := hD
  refine lv_dup hx hb d_mLines_init_182 rfl ?_
  refine lv_bipush (v := 28) hx hb d_mLines_init_183 (by decide) ?_
  refine lv_sipush (v := 152) hx hb d_mLines_init_185 (by decide) ?_
  refine va_iast hx hb hK hP hD hS 1 0 rfl rfl (show ¬ ((28 : Int32) < 0 ∨ 64 ≤ (28 : Int32).toNatClampNeg) by decide) d_mLines_init_188 (fun H locs hP hD hS => ?_)
  rw [show (28 : Int32).toNatClampNeg = 28 by decide] at hP hD
  have hP : va_P (dC, dI) vcl [(h0, .inr (14, [.null, .null, .null, .null, .null, .null, .int 0, .null, .null, .null, .long 0, .null, .int 0, .int 0, .int 0, .int 0, .int 0, .int 0, .int 0, .null, .null])), (q_1, .inl (cA_2, 64, .inl (upd (upd (upd f_7 26 147) 27 164) 28 152)))] H := hP
  have hD : va_D A [(h0, .inr (14, [.null, .null, .null, .null, .null, .null, .int 0, .null, .null, .null, .long 0, .null, .int 0, .int 0, .int 0, .int 0, .int 0, .int 0, .int 0, .null, .null])), (q_1, .inl (cA_2, 64, .inl (upd (upd (upd f_7 26 147) 27 164) 28 152)))] := hD
  refine lv_dup hx hb d_mLines_init_189 rfl ?_
  refine lv_bipush (v := 29) hx hb d_mLines_init_190 (by decide) ?_
  refine lv_sipush (v := 258) hx hb d_mLines_init_192 (by decide) ?_
  refine va_iast hx hb hK hP hD hS 1 0 rfl rfl (show ¬ ((29 : Int32) < 0 ∨ 64 ≤ (29 : Int32).toNatClampNeg) by decide) d_mLines_init_195 (fun H locs hP hD hS => ?_)
  rw [show (29 : Int32).toNatClampNeg = 29 by decide] at hP hD
  have hP : va_P (dC, dI) vcl [(h0, .inr (14, [.null, .null, .null, .null, .null, .null, .int 0, .null, .null, .null, .long 0, .null, .int 0, .int 0, .int 0, .int 0, .int 0, .int 0, .int 0, .null, .null])), (q_1, .inl (cA_2, 64, .inl (upd (upd (upd (upd f_7 26 147) 27 164) 28 152) 29 258)))] H := hP
  have hD : va_D A [(h0, .inr (14, [.null, .null, .null, .null, .null, .null, .int 0, .null, .null, .null, .long 0, .null, .int 0, .int 0, .int 0, .int 0, .int 0, .int 0, .int 0, .null, .null])), (q_1, .inl (cA_2, 64, .inl (upd (upd (upd (upd f_7 26 147) 27 164) 28 152) 29 258)))] := hD
  refine lv_dup hx hb d_mLines_init_196 rfl ?_
  refine lv_bipush (v := 30) hx hb d_mLines_init_197 (by decide) ?_
  refine lv_sipush (v := 259) hx hb d_mLines_init_199 (by decide) ?_
  refine va_iast hx hb hK hP hD hS 1 0 rfl rfl (show ¬ ((30 : Int32) < 0 ∨ 64 ≤ (30 : Int32).toNatClampNeg) by decide) d_mLines_init_202 (fun H locs hP hD hS => ?_)
  rw [show (30 : Int32).toNatClampNeg = 30 by decide] at hP hD
  obtain ⟨f_8, ef_8⟩ : ∃ y : Nat → Int32, y = upd (upd (upd (upd (upd f_7 26 147) 27 164) 28 152) 29 258) 30 259 := ⟨_, rfl⟩
  have hP : va_P (dC, dI) vcl [(h0, .inr (14, [.null, .null, .null, .null, .null, .null, .int 0, .null, .null, .null, .long 0, .null, .int 0, .int 0, .int 0, .int 0, .int 0, .int 0, .int 0, .null, .null])), (q_1, .inl (cA_2, 64, .inl (upd (upd (upd (upd (upd f_7 26 147) 27 164) 28 152) 29 258) 30 259)))] H := hP
  have hD : va_D A [(h0, .inr (14, [.null, .null, .null, .null, .null, .null, .int 0, .null, .null, .null, .long 0, .null, .int 0, .int 0, .int 0, .int 0, .int 0, .int 0, .int 0, .null, .null])), (q_1, .inl (cA_2, 64, .inl (upd (upd (upd (upd (upd f_7 26 147) 27 164) 28 152) 29 258) 30 259)))] := hD
  rw [← ef_8] at hP hD
  have hP : va_P (dC, dI) vcl [(h0, .inr (14, [.null, .null, .null, .null, .null, .null, .int 0, .null, .null, .null, .long 0, .null, .int 0, .int 0, .int 0, .int 0, .int 0, .int 0, .int 0, .null, .null])), (q_1, .inl (cA_2, 64, .inl f_8))] H := hP
  have hD : va_D A [(h0, .inr (14, [.null, .null, .null, .null, .null, .null, .int 0, .null, .null, .null, .long 0, .null, .int 0, .int 0, .int 0, .int 0, .int 0, .int 0, .int 0, .null, .null])), (q_1, .inl (cA_2, 64, .inl f_8))] := hD
  refine lv_dup hx hb d_mLines_init_203 rfl ?_
  refine lv_bipush (v := 31) hx hb d_mLines_init_204 (by decide) ?_
  refine lv_sipush (v := 282) hx hb d_mLines_init_206 (by decide) ?_
  refine va_iast hx hb hK hP hD hS 1 0 rfl rfl (show ¬ ((31 : Int32) < 0 ∨ 64 ≤ (31 : Int32).toNatClampNeg) by decide) d_mLines_init_209 (fun H locs hP hD hS => ?_)
  rw [show (31 : Int32).toNatClampNeg = 31 by decide] at hP hD
  have hP : va_P (dC, dI) vcl [(h0, .inr (14, [.null, .null, .null, .null, .null, .null, .int 0, .null, .null, .null, .long 0, .null, .int 0, .int 0, .int 0, .int 0, .int 0, .int 0, .int 0, .null, .null])), (q_1, .inl (cA_2, 64, .inl (upd f_8 31 282)))] H := hP
  have hD : va_D A [(h0, .inr (14, [.null, .null, .null, .null, .null, .null, .int 0, .null, .null, .null, .long 0, .null, .int 0, .int 0, .int 0, .int 0, .int 0, .int 0, .int 0, .null, .null])), (q_1, .inl (cA_2, 64, .inl (upd f_8 31 282)))] := hD
  refine lv_dup hx hb d_mLines_init_210 rfl ?_
  refine lv_bipush (v := 32) hx hb d_mLines_init_211 (by decide) ?_
  refine lv_sipush (v := 283) hx hb d_mLines_init_213 (by decide) ?_
  refine va_iast hx hb hK hP hD hS 1 0 rfl rfl (show ¬ ((32 : Int32) < 0 ∨ 64 ≤ (32 : Int32).toNatClampNeg) by decide) d_mLines_init_216 (fun H locs hP hD hS => ?_)
  rw [show (32 : Int32).toNatClampNeg = 32 by decide] at hP hD
  have hP : va_P (dC, dI) vcl [(h0, .inr (14, [.null, .null, .null, .null, .null, .null, .int 0, .null, .null, .null, .long 0, .null, .int 0, .int 0, .int 0, .int 0, .int 0, .int 0, .int 0, .null, .null])), (q_1, .inl (cA_2, 64, .inl (upd (upd f_8 31 282) 32 283)))] H := hP
  have hD : va_D A [(h0, .inr (14, [.null, .null, .null, .null, .null, .null, .int 0, .null, .null, .null, .long 0, .null, .int 0, .int 0, .int 0, .int 0, .int 0, .int 0, .int 0, .null, .null])), (q_1, .inl (cA_2, 64, .inl (upd (upd f_8 31 282) 32 283)))] := hD
  refine lv_dup hx hb d_mLines_init_217 rfl ?_
  refine lv_bipush (v := 33) hx hb d_mLines_init_218 (by decide) ?_
  refine lv_sipush (v := 274) hx hb d_mLines_init_220 (by decide) ?_
  refine va_iast hx hb hK hP hD hS 1 0 rfl rfl (show ¬ ((33 : Int32) < 0 ∨ 64 ≤ (33 : Int32).toNatClampNeg) by decide) d_mLines_init_223 (fun H locs hP hD hS => ?_)
  rw [show (33 : Int32).toNatClampNeg = 33 by decide] at hP hD
  have hP : va_P (dC, dI) vcl [(h0, .inr (14, [.null, .null, .null, .null, .null, .null, .int 0, .null, .null, .null, .long 0, .null, .int 0, .int 0, .int 0, .int 0, .int 0, .int 0, .int 0, .null, .null])), (q_1, .inl (cA_2, 64, .inl (upd (upd (upd f_8 31 282) 32 283) 33 274)))] H := hP
  have hD : va_D A [(h0, .inr (14, [.null, .null, .null, .null, .null, .null, .int 0, .null, .null, .null, .long 0, .null, .int 0, .int 0, .int 0, .int 0, .int 0, .int 0, .int 0, .null, .null])), (q_1, .inl (cA_2, 64, .inl (upd (upd (upd f_8 31 282) 32 283) 33 274)))] := hD
  refine lv_dup hx hb d_mLines_init_224 rfl ?_
  refine lv_bipush (v := 34) hx hb d_mLines_init_225 (by decide) ?_
  refine lv_sipush (v := 275) hx hb d_mLines_init_227 (by decide) ?_
  refine va_iast hx hb hK hP hD hS 1 0 rfl rfl (show ¬ ((34 : Int32) < 0 ∨ 64 ≤ (34 : Int32).toNatClampNeg) by decide) d_mLines_init_230 (fun H locs hP hD hS => ?_)
  rw [show (34 : Int32).toNatClampNeg = 34 by decide] at hP hD
  have hP : va_P (dC, dI) vcl [(h0, .inr (14, [.null, .null, .null, .null, .null, .null, .int 0, .null, .null, .null, .long 0, .null, .int 0, .int 0, .int 0, .int 0, .int 0, .int 0, .int 0, .null, .null])), (q_1, .inl (cA_2, 64, .inl (upd (upd (upd (upd f_8 31 282) 32 283) 33 274) 34 275)))] H := hP
  have hD : va_D A [(h0, .inr (14, [.null, .null, .null, .null, .null, .null, .int 0, .null, .null, .null, .long 0, .null, .int 0, .int 0, .int 0, .int 0, .int 0, .int 0, .int 0, .null, .null])), (q_1, .inl (cA_2, 64, .inl (upd (upd (upd (upd f_8 31 282) 32 283) 33 274) 34 275)))] := hD
  refine lv_dup hx hb d_mLines_init_231 rfl ?_
  refine lv_bipush (v := 35) hx hb d_mLines_init_232 (by decide) ?_
  refine lv_sipush (v := 276) hx hb d_mLines_init_234 (by decide) ?_
  refine va_iast hx hb hK hP hD hS 1 0 rfl rfl (show ¬ ((35 : Int32) < 0 ∨ 64 ≤ (35 : Int32).toNatClampNeg) by decide) d_mLines_init_237 (fun H locs hP hD hS => ?_)
  rw [show (35 : Int32).toNatClampNeg = 35 by decide] at hP hD
  obtain ⟨f_9, ef_9⟩ : ∃ y : Nat → Int32, y = upd (upd (upd (upd (upd f_8 31 282) 32 283) 33 274) 34 275) 35 276 := ⟨_, rfl⟩
  have hP : va_P (dC, dI) vcl [(h0, .inr (14, [.null, .null, .null, .null, .null, .null, .int 0, .null, .null, .null, .long 0, .null, .int 0, .int 0, .int 0, .int 0, .int 0, .int 0, .int 0, .null, .null])), (q_1, .inl (cA_2, 64, .inl (upd (upd (upd (upd (upd f_8 31 282) 32 283) 33 274) 34 275) 35 276)))] H := hP
  have hD : va_D A [(h0, .inr (14, [.null, .null, .null, .null, .null, .null, .int 0, .null, .null, .null, .long 0, .null, .int 0, .int 0, .int 0, .int 0, .int 0, .int 0, .int 0, .null, .null])), (q_1, .inl (cA_2, 64, .inl (upd (upd (upd (upd (upd f_8 31 282) 32 283) 33 274) 34 275) 35 276)))] := hD
  rw [← ef_9] at hP hD
  have hP : va_P (dC, dI) vcl [(h0, .inr (14, [.null, .null, .null, .null, .null, .null, .int 0, .null, .null, .null, .long 0, .null, .int 0, .int 0, .int 0, .int 0, .int 0, .int 0, .int 0, .null, .null])), (q_1, .inl (cA_2, 64, .inl f_9))] H := hP
  have hD : va_D A [(h0, .inr (14, [.null, .null, .null, .null, .null, .null, .int 0, .null, .null, .null, .long 0, .null, .int 0, .int 0, .int 0, .int 0, .int 0, .int 0, .int 0, .null, .null])), (q_1, .inl (cA_2, 64, .inl f_9))] := hD
  refine lv_dup hx hb d_mLines_init_238 rfl ?_
  refine lv_bipush (v := 36) hx hb d_mLines_init_239 (by decide) ?_
  refine lv_sipush (v := 277) hx hb d_mLines_init_241 (by decide) ?_
  refine va_iast hx hb hK hP hD hS 1 0 rfl rfl (show ¬ ((36 : Int32) < 0 ∨ 64 ≤ (36 : Int32).toNatClampNeg) by decide) d_mLines_init_244 (fun H locs hP hD hS => ?_)
  rw [show (36 : Int32).toNatClampNeg = 36 by decide] at hP hD
  have hP : va_P (dC, dI) vcl [(h0, .inr (14, [.null, .null, .null, .null, .null, .null, .int 0, .null, .null, .null, .long 0, .null, .int 0, .int 0, .int 0, .int 0, .int 0, .int 0, .int 0, .null, .null])), (q_1, .inl (cA_2, 64, .inl (upd f_9 36 277)))] H := hP
  have hD : va_D A [(h0, .inr (14, [.null, .null, .null, .null, .null, .null, .int 0, .null, .null, .null, .long 0, .null, .int 0, .int 0, .int 0, .int 0, .int 0, .int 0, .int 0, .null, .null])), (q_1, .inl (cA_2, 64, .inl (upd f_9 36 277)))] := hD
  refine lv_dup hx hb d_mLines_init_245 rfl ?_
  refine lv_bipush (v := 37) hx hb d_mLines_init_246 (by decide) ?_
  refine lv_sipush (v := 278) hx hb d_mLines_init_248 (by decide) ?_
  refine va_iast hx hb hK hP hD hS 1 0 rfl rfl (show ¬ ((37 : Int32) < 0 ∨ 64 ≤ (37 : Int32).toNatClampNeg) by decide) d_mLines_init_251 (fun H locs hP hD hS => ?_)
  rw [show (37 : Int32).toNatClampNeg = 37 by decide] at hP hD
  have hP : va_P (dC, dI) vcl [(h0, .inr (14, [.null, .null, .null, .null, .null, .null, .int 0, .null, .null, .null, .long 0, .null, .int 0, .int 0, .int 0, .int 0, .int 0, .int 0, .int 0, .null, .null])), (q_1, .inl (cA_2, 64, .inl (upd (upd f_9 36 277) 37 278)))] H := hP
  have hD : va_D A [(h0, .inr (14, [.null, .null, .null, .null, .null, .null, .int 0, .null, .null, .null, .long 0, .null, .int 0, .int 0, .int 0, .int 0, .int 0, .int 0, .int 0, .null, .null])), (q_1, .inl (cA_2, 64, .inl (upd (upd f_9 36 277) 37 278)))] := hD
  refine lv_dup hx hb d_mLines_init_252 rfl ?_
  refine lv_bipush (v := 38) hx hb d_mLines_init_253 (by decide) ?_
  refine lv_sipush (v := 279) hx hb d_mLines_init_255 (by decide) ?_
  refine va_iast hx hb hK hP hD hS 1 0 rfl rfl (show ¬ ((38 : Int32) < 0 ∨ 64 ≤ (38 : Int32).toNatClampNeg) by decide) d_mLines_init_258 (fun H locs hP hD hS => ?_)
  rw [show (38 : Int32).toNatClampNeg = 38 by decide] at hP hD
  have hP : va_P (dC, dI) vcl [(h0, .inr (14, [.null, .null, .null, .null, .null, .null, .int 0, .null, .null, .null, .long 0, .null, .int 0, .int 0, .int 0, .int 0, .int 0, .int 0, .int 0, .null, .null])), (q_1, .inl (cA_2, 64, .inl (upd (upd (upd f_9 36 277) 37 278) 38 279)))] H := hP
  have hD : va_D A [(h0, .inr (14, [.null, .null, .null, .null, .null, .null, .int 0, .null, .null, .null, .long 0, .null, .int 0, .int 0, .int 0, .int 0, .int 0, .int 0, .int 0, .null, .null])), (q_1, .inl (cA_2, 64, .inl (upd (upd (upd f_9 36 277) 37 278) 38 279)))] := hD
  refine lv_dup hx hb d_mLines_init_259 rfl ?_
  refine lv_bipush (v := 39) hx hb d_mLines_init_260 (by decide) ?_
  refine lv_sipush (v := 296) hx hb d_mLines_init_262 (by decide) ?_
  refine va_iast hx hb hK hP hD hS 1 0 rfl rfl (show ¬ ((39 : Int32) < 0 ∨ 64 ≤ (39 : Int32).toNatClampNeg) by decide) d_mLines_init_265 (fun H locs hP hD hS => ?_)
  rw [show (39 : Int32).toNatClampNeg = 39 by decide] at hP hD
  have hP : va_P (dC, dI) vcl [(h0, .inr (14, [.null, .null, .null, .null, .null, .null, .int 0, .null, .null, .null, .long 0, .null, .int 0, .int 0, .int 0, .int 0, .int 0, .int 0, .int 0, .null, .null])), (q_1, .inl (cA_2, 64, .inl (upd (upd (upd (upd f_9 36 277) 37 278) 38 279) 39 296)))] H := hP
  have hD : va_D A [(h0, .inr (14, [.null, .null, .null, .null, .null, .null, .int 0, .null, .null, .null, .long 0, .null, .int 0, .int 0, .int 0, .int 0, .int 0, .int 0, .int 0, .null, .null])), (q_1, .inl (cA_2, 64, .inl (upd (upd (upd (upd f_9 36 277) 37 278) 38 279) 39 296)))] := hD
  refine lv_dup hx hb d_mLines_init_266 rfl ?_
  refine lv_bipush (v := 40) hx hb d_mLines_init_267 (by decide) ?_
  refine lv_sipush (v := 297) hx hb d_mLines_init_269 (by decide) ?_
  refine va_iast hx hb hK hP hD hS 1 0 rfl rfl (show ¬ ((40 : Int32) < 0 ∨ 64 ≤ (40 : Int32).toNatClampNeg) by decide) d_mLines_init_272 (fun H locs hP hD hS => ?_)
  rw [show (40 : Int32).toNatClampNeg = 40 by decide] at hP hD
  obtain ⟨f_10, ef_10⟩ : ∃ y : Nat → Int32, y = upd (upd (upd (upd (upd f_9 36 277) 37 278) 38 279) 39 296) 40 297 := ⟨_, rfl⟩
  have hP : va_P (dC, dI) vcl [(h0, .inr (14, [.null, .null, .null, .null, .null, .null, .int 0, .null, .null, .null, .long 0, .null, .int 0, .int 0, .int 0, .int 0, .int 0, .int 0, .int 0, .null, .null])), (q_1, .inl (cA_2, 64, .inl (upd (upd (upd (upd (upd f_9 36 277) 37 278) 38 279) 39 296) 40 297)))] H := hP
  have hD : va_D A [(h0, .inr (14, [.null, .null, .null, .null, .null, .null, .int 0, .null, .null, .null, .long 0, .null, .int 0, .int 0, .int 0, .int 0, .int 0, .int 0, .int 0, .null, .null])), (q_1, .inl (cA_2, 64, .inl (upd (upd (upd (upd (upd f_9 36 277) 37 278) 38 279) 39 296) 40 297)))] := hD
  rw [← ef_10] at hP hD
  have hP : va_P (dC, dI) vcl [(h0, .inr (14, [.null, .null, .null, .null, .null, .null, .int 0, .null, .null, .null, .long 0, .null, .int 0, .int 0, .int 0, .int 0, .int 0, .int 0, .int 0, .null, .null])), (q_1, .inl (cA_2, 64, .inl f_10))] H := hP
  have hD : va_D A [(h0, .inr (14, [.null, .null, .null, .null, .null, .null, .int 0, .null, .null, .null, .long 0, .null, .int 0, .int 0, .int 0, .int 0, .int 0, .int 0, .int 0, .null, .null])), (q_1, .inl (cA_2, 64, .inl f_10))] := hD
  refine lv_dup hx hb d_mLines_init_273 rfl ?_
  refine lv_bipush (v := 41) hx hb d_mLines_init_274 (by decide) ?_
  refine lv_sipush (v := 298) hx hb d_mLines_init_276 (by decide) ?_
  refine va_iast hx hb hK hP hD hS 1 0 rfl rfl (show ¬ ((41 : Int32) < 0 ∨ 64 ≤ (41 : Int32).toNatClampNeg) by decide) d_mLines_init_279 (fun H locs hP hD hS => ?_)
  rw [show (41 : Int32).toNatClampNeg = 41 by decide] at hP hD
  have hP : va_P (dC, dI) vcl [(h0, .inr (14, [.null, .null, .null, .null, .null, .null, .int 0, .null, .null, .null, .long 0, .null, .int 0, .int 0, .int 0, .int 0, .int 0, .int 0, .int 0, .null, .null])), (q_1, .inl (cA_2, 64, .inl (upd f_10 41 298)))] H := hP
  have hD : va_D A [(h0, .inr (14, [.null, .null, .null, .null, .null, .null, .int 0, .null, .null, .null, .long 0, .null, .int 0, .int 0, .int 0, .int 0, .int 0, .int 0, .int 0, .null, .null])), (q_1, .inl (cA_2, 64, .inl (upd f_10 41 298)))] := hD
  refine lv_dup hx hb d_mLines_init_280 rfl ?_
  refine lv_bipush (v := 42) hx hb d_mLines_init_281 (by decide) ?_
  refine lv_sipush (v := 299) hx hb d_mLines_init_283 (by decide) ?_
  refine va_iast hx hb hK hP hD hS 1 0 rfl rfl (show ¬ ((42 : Int32) < 0 ∨ 64 ≤ (42 : Int32).toNatClampNeg) by decide) d_mLines_init_286 (fun H locs hP hD hS => ?_)
  rw [show (42 : Int32).toNatClampNeg = 42 by decide] at hP hD
  have hP : va_P (dC, dI) vcl [(h0, .inr (14, [.null, .null, .null, .null, .null, .null, .int 0, .null, .null, .null, .long 0, .null, .int 0, .int 0, .int 0, .int 0, .int 0, .int 0, .int 0, .null, .null])), (q_1, .inl (cA_2, 64, .inl (upd (upd f_10 41 298) 42 299)))] H := hP
  have hD : va_D A [(h0, .inr (14, [.null, .null, .null, .null, .null, .null, .int 0, .null, .null, .null, .long 0, .null, .int 0, .int 0, .int 0, .int 0, .int 0, .int 0, .int 0, .null, .null])), (q_1, .inl (cA_2, 64, .inl (upd (upd f_10 41 298) 42 299)))] := hD
  refine lv_dup hx hb d_mLines_init_287 rfl ?_
  refine lv_bipush (v := 43) hx hb d_mLines_init_288 (by decide) ?_
  refine lv_sipush (v := 300) hx hb d_mLines_init_290 (by decide) ?_
  refine va_iast hx hb hK hP hD hS 1 0 rfl rfl (show ¬ ((43 : Int32) < 0 ∨ 64 ≤ (43 : Int32).toNatClampNeg) by decide) d_mLines_init_293 (fun H locs hP hD hS => ?_)
  rw [show (43 : Int32).toNatClampNeg = 43 by decide] at hP hD
  have hP : va_P (dC, dI) vcl [(h0, .inr (14, [.null, .null, .null, .null, .null, .null, .int 0, .null, .null, .null, .long 0, .null, .int 0, .int 0, .int 0, .int 0, .int 0, .int 0, .int 0, .null, .null])), (q_1, .inl (cA_2, 64, .inl (upd (upd (upd f_10 41 298) 42 299) 43 300)))] H := hP
  have hD : va_D A [(h0, .inr (14, [.null, .null, .null, .null, .null, .null, .int 0, .null, .null, .null, .long 0, .null, .int 0, .int 0, .int 0, .int 0, .int 0, .int 0, .int 0, .null, .null])), (q_1, .inl (cA_2, 64, .inl (upd (upd (upd f_10 41 298) 42 299) 43 300)))] := hD
  refine lv_dup hx hb d_mLines_init_294 rfl ?_
  refine lv_bipush (v := 44) hx hb d_mLines_init_295 (by decide) ?_
  refine lv_sipush (v := 301) hx hb d_mLines_init_297 (by decide) ?_
  refine va_iast hx hb hK hP hD hS 1 0 rfl rfl (show ¬ ((44 : Int32) < 0 ∨ 64 ≤ (44 : Int32).toNatClampNeg) by decide) d_mLines_init_300 (fun H locs hP hD hS => ?_)
  rw [show (44 : Int32).toNatClampNeg = 44 by decide] at hP hD
  have hP : va_P (dC, dI) vcl [(h0, .inr (14, [.null, .null, .null, .null, .null, .null, .int 0, .null, .null, .null, .long 0, .null, .int 0, .int 0, .int 0, .int 0, .int 0, .int 0, .int 0, .null, .null])), (q_1, .inl (cA_2, 64, .inl (upd (upd (upd (upd f_10 41 298) 42 299) 43 300) 44 301)))] H := hP
  have hD : va_D A [(h0, .inr (14, [.null, .null, .null, .null, .null, .null, .int 0, .null, .null, .null, .long 0, .null, .int 0, .int 0, .int 0, .int 0, .int 0, .int 0, .int 0, .null, .null])), (q_1, .inl (cA_2, 64, .inl (upd (upd (upd (upd f_10 41 298) 42 299) 43 300) 44 301)))] := hD
  refine lv_dup hx hb d_mLines_init_301 rfl ?_
  refine lv_bipush (v := 45) hx hb d_mLines_init_302 (by decide) ?_
  refine lv_sipush (v := 260) hx hb d_mLines_init_304 (by decide) ?_
  refine va_iast hx hb hK hP hD hS 1 0 rfl rfl (show ¬ ((45 : Int32) < 0 ∨ 64 ≤ (45 : Int32).toNatClampNeg) by decide) d_mLines_init_307 (fun H locs hP hD hS => ?_)
  rw [show (45 : Int32).toNatClampNeg = 45 by decide] at hP hD
  obtain ⟨f_11, ef_11⟩ : ∃ y : Nat → Int32, y = upd (upd (upd (upd (upd f_10 41 298) 42 299) 43 300) 44 301) 45 260 := ⟨_, rfl⟩
  have hP : va_P (dC, dI) vcl [(h0, .inr (14, [.null, .null, .null, .null, .null, .null, .int 0, .null, .null, .null, .long 0, .null, .int 0, .int 0, .int 0, .int 0, .int 0, .int 0, .int 0, .null, .null])), (q_1, .inl (cA_2, 64, .inl (upd (upd (upd (upd (upd f_10 41 298) 42 299) 43 300) 44 301) 45 260)))] H := hP
  have hD : va_D A [(h0, .inr (14, [.null, .null, .null, .null, .null, .null, .int 0, .null, .null, .null, .long 0, .null, .int 0, .int 0, .int 0, .int 0, .int 0, .int 0, .int 0, .null, .null])), (q_1, .inl (cA_2, 64, .inl (upd (upd (upd (upd (upd f_10 41 298) 42 299) 43 300) 44 301) 45 260)))] := hD
  rw [← ef_11] at hP hD
  have hP : va_P (dC, dI) vcl [(h0, .inr (14, [.null, .null, .null, .null, .null, .null, .int 0, .null, .null, .null, .long 0, .null, .int 0, .int 0, .int 0, .int 0, .int 0, .int 0, .int 0, .null, .null])), (q_1, .inl (cA_2, 64, .inl f_11))] H := hP
  have hD : va_D A [(h0, .inr (14, [.null, .null, .null, .null, .null, .null, .int 0, .null, .null, .null, .long 0, .null, .int 0, .int 0, .int 0, .int 0, .int 0, .int 0, .int 0, .null, .null])), (q_1, .inl (cA_2, 64, .inl f_11))] := hD
  refine lv_dup hx hb d_mLines_init_308 rfl ?_
  refine lv_bipush (v := 46) hx hb d_mLines_init_309 (by decide) ?_
  refine lv_sipush (v := 261) hx hb d_mLines_init_311 (by decide) ?_
  refine va_iast hx hb hK hP hD hS 1 0 rfl rfl (show ¬ ((46 : Int32) < 0 ∨ 64 ≤ (46 : Int32).toNatClampNeg) by decide) d_mLines_init_314 (fun H locs hP hD hS => ?_)
  rw [show (46 : Int32).toNatClampNeg = 46 by decide] at hP hD
  have hP : va_P (dC, dI) vcl [(h0, .inr (14, [.null, .null, .null, .null, .null, .null, .int 0, .null, .null, .null, .long 0, .null, .int 0, .int 0, .int 0, .int 0, .int 0, .int 0, .int 0, .null, .null])), (q_1, .inl (cA_2, 64, .inl (upd f_11 46 261)))] H := hP
  have hD : va_D A [(h0, .inr (14, [.null, .null, .null, .null, .null, .null, .int 0, .null, .null, .null, .long 0, .null, .int 0, .int 0, .int 0, .int 0, .int 0, .int 0, .int 0, .null, .null])), (q_1, .inl (cA_2, 64, .inl (upd f_11 46 261)))] := hD
  refine lv_dup hx hb d_mLines_init_315 rfl ?_
  refine lv_bipush (v := 47) hx hb d_mLines_init_316 (by decide) ?_
  refine lv_sipush (v := 266) hx hb d_mLines_init_318 (by decide) ?_
  refine va_iast hx hb hK hP hD hS 1 0 rfl rfl (show ¬ ((47 : Int32) < 0 ∨ 64 ≤ (47 : Int32).toNatClampNeg) by decide) d_mLines_init_321 (fun H locs hP hD hS => ?_)
  rw [show (47 : Int32).toNatClampNeg = 47 by decide] at hP hD
  have hP : va_P (dC, dI) vcl [(h0, .inr (14, [.null, .null, .null, .null, .null, .null, .int 0, .null, .null, .null, .long 0, .null, .int 0, .int 0, .int 0, .int 0, .int 0, .int 0, .int 0, .null, .null])), (q_1, .inl (cA_2, 64, .inl (upd (upd f_11 46 261) 47 266)))] H := hP
  have hD : va_D A [(h0, .inr (14, [.null, .null, .null, .null, .null, .null, .int 0, .null, .null, .null, .long 0, .null, .int 0, .int 0, .int 0, .int 0, .int 0, .int 0, .int 0, .null, .null])), (q_1, .inl (cA_2, 64, .inl (upd (upd f_11 46 261) 47 266)))] := hD
  refine lv_dup hx hb d_mLines_init_322 rfl ?_
  refine lv_bipush (v := 48) hx hb d_mLines_init_323 (by decide) ?_
  refine lv_sipush (v := 267) hx hb d_mLines_init_325 (by decide) ?_
  refine va_iast hx hb hK hP hD hS 1 0 rfl rfl (show ¬ ((48 : Int32) < 0 ∨ 64 ≤ (48 : Int32).toNatClampNeg) by decide) d_mLines_init_328 (fun H locs hP hD hS => ?_)
  rw [show (48 : Int32).toNatClampNeg = 48 by decide] at hP hD
  have hP : va_P (dC, dI) vcl [(h0, .inr (14, [.null, .null, .null, .null, .null, .null, .int 0, .null, .null, .null, .long 0, .null, .int 0, .int 0, .int 0, .int 0, .int 0, .int 0, .int 0, .null, .null])), (q_1, .inl (cA_2, 64, .inl (upd (upd (upd f_11 46 261) 47 266) 48 267)))] H := hP
  have hD : va_D A [(h0, .inr (14, [.null, .null, .null, .null, .null, .null, .int 0, .null, .null, .null, .long 0, .null, .int 0, .int 0, .int 0, .int 0, .int 0, .int 0, .int 0, .null, .null])), (q_1, .inl (cA_2, 64, .inl (upd (upd (upd f_11 46 261) 47 266) 48 267)))] := hD
  refine lv_dup hx hb d_mLines_init_329 rfl ?_
  refine lv_bipush (v := 49) hx hb d_mLines_init_330 (by decide) ?_
  refine lv_sipush (v := 338) hx hb d_mLines_init_332 (by decide) ?_
  refine va_iast hx hb hK hP hD hS 1 0 rfl rfl (show ¬ ((49 : Int32) < 0 ∨ 64 ≤ (49 : Int32).toNatClampNeg) by decide) d_mLines_init_335 (fun H locs hP hD hS => ?_)
  rw [show (49 : Int32).toNatClampNeg = 49 by decide] at hP hD
  have hP : va_P (dC, dI) vcl [(h0, .inr (14, [.null, .null, .null, .null, .null, .null, .int 0, .null, .null, .null, .long 0, .null, .int 0, .int 0, .int 0, .int 0, .int 0, .int 0, .int 0, .null, .null])), (q_1, .inl (cA_2, 64, .inl (upd (upd (upd (upd f_11 46 261) 47 266) 48 267) 49 338)))] H := hP
  have hD : va_D A [(h0, .inr (14, [.null, .null, .null, .null, .null, .null, .int 0, .null, .null, .null, .long 0, .null, .int 0, .int 0, .int 0, .int 0, .int 0, .int 0, .int 0, .null, .null])), (q_1, .inl (cA_2, 64, .inl (upd (upd (upd (upd f_11 46 261) 47 266) 48 267) 49 338)))] := hD
  refine lv_dup hx hb d_mLines_init_336 rfl ?_
  refine lv_bipush (v := 50) hx hb d_mLines_init_337 (by decide) ?_
  refine lv_sipush (v := 339) hx hb d_mLines_init_339 (by decide) ?_
  refine va_iast hx hb hK hP hD hS 1 0 rfl rfl (show ¬ ((50 : Int32) < 0 ∨ 64 ≤ (50 : Int32).toNatClampNeg) by decide) d_mLines_init_342 (fun H locs hP hD hS => ?_)
  rw [show (50 : Int32).toNatClampNeg = 50 by decide] at hP hD
  obtain ⟨f_12, ef_12⟩ : ∃ y : Nat → Int32, y = upd (upd (upd (upd (upd f_11 46 261) 47 266) 48 267) 49 338) 50 339 := ⟨_, rfl⟩
  have hP : va_P (dC, dI) vcl [(h0, .inr (14, [.null, .null, .null, .null, .null, .null, .int 0, .null, .null, .null, .long 0, .null, .int 0, .int 0, .int 0, .int 0, .int 0, .int 0, .int 0, .null, .null])), (q_1, .inl (cA_2, 64, .inl (upd (upd (upd (upd (upd f_11 46 261) 47 266) 48 267) 49 338) 50 339)))] H := hP
  have hD : va_D A [(h0, .inr (14, [.null, .null, .null, .null, .null, .null, .int 0, .null, .null, .null, .long 0, .null, .int 0, .int 0, .int 0, .int 0, .int 0, .int 0, .int 0, .null, .null])), (q_1, .inl (cA_2, 64, .inl (upd (upd (upd (upd (upd f_11 46 261) 47 266) 48 267) 49 338) 50 339)))] := hD
  rw [← ef_12] at hP hD
  have hP : va_P (dC, dI) vcl [(h0, .inr (14, [.null, .null, .null, .null, .null, .null, .int 0, .null, .null, .null, .long 0, .null, .int 0, .int 0, .int 0, .int 0, .int 0, .int 0, .int 0, .null, .null])), (q_1, .inl (cA_2, 64, .inl f_12))] H := hP
  have hD : va_D A [(h0, .inr (14, [.null, .null, .null, .null, .null, .null, .int 0, .null, .null, .null, .long 0, .null, .int 0, .int 0, .int 0, .int 0, .int 0, .int 0, .int 0, .null, .null])), (q_1, .inl (cA_2, 64, .inl f_12))] := hD
  refine lv_dup hx hb d_mLines_init_343 rfl ?_
  refine lv_bipush (v := 51) hx hb d_mLines_init_344 (by decide) ?_
  refine lv_sipush (v := 340) hx hb d_mLines_init_346 (by decide) ?_
  refine va_iast hx hb hK hP hD hS 1 0 rfl rfl (show ¬ ((51 : Int32) < 0 ∨ 64 ≤ (51 : Int32).toNatClampNeg) by decide) d_mLines_init_349 (fun H locs hP hD hS => ?_)
  rw [show (51 : Int32).toNatClampNeg = 51 by decide] at hP hD
  have hP : va_P (dC, dI) vcl [(h0, .inr (14, [.null, .null, .null, .null, .null, .null, .int 0, .null, .null, .null, .long 0, .null, .int 0, .int 0, .int 0, .int 0, .int 0, .int 0, .int 0, .null, .null])), (q_1, .inl (cA_2, 64, .inl (upd f_12 51 340)))] H := hP
  have hD : va_D A [(h0, .inr (14, [.null, .null, .null, .null, .null, .null, .int 0, .null, .null, .null, .long 0, .null, .int 0, .int 0, .int 0, .int 0, .int 0, .int 0, .int 0, .null, .null])), (q_1, .inl (cA_2, 64, .inl (upd f_12 51 340)))] := hD
  refine lv_dup hx hb d_mLines_init_350 rfl ?_
  refine lv_bipush (v := 52) hx hb d_mLines_init_351 (by decide) ?_
  refine lv_sipush (v := 341) hx hb d_mLines_init_353 (by decide) ?_
  refine va_iast hx hb hK hP hD hS 1 0 rfl rfl (show ¬ ((52 : Int32) < 0 ∨ 64 ≤ (52 : Int32).toNatClampNeg) by decide) d_mLines_init_356 (fun H locs hP hD hS => ?_)
  rw [show (52 : Int32).toNatClampNeg = 52 by decide] at hP hD
  have hP : va_P (dC, dI) vcl [(h0, .inr (14, [.null, .null, .null, .null, .null, .null, .int 0, .null, .null, .null, .long 0, .null, .int 0, .int 0, .int 0, .int 0, .int 0, .int 0, .int 0, .null, .null])), (q_1, .inl (cA_2, 64, .inl (upd (upd f_12 51 340) 52 341)))] H := hP
  have hD : va_D A [(h0, .inr (14, [.null, .null, .null, .null, .null, .null, .int 0, .null, .null, .null, .long 0, .null, .int 0, .int 0, .int 0, .int 0, .int 0, .int 0, .int 0, .null, .null])), (q_1, .inl (cA_2, 64, .inl (upd (upd f_12 51 340) 52 341)))] := hD
  refine lv_dup hx hb d_mLines_init_357 rfl ?_
  refine lv_bipush (v := 53) hx hb d_mLines_init_358 (by decide) ?_
  refine lv_sipush (v := 292) hx hb d_mLines_init_360 (by decide) ?_
  refine va_iast hx hb hK hP hD hS 1 0 rfl rfl (show ¬ ((53 : Int32) < 0 ∨ 64 ≤ (53 : Int32).toNatClampNeg) by decide) d_mLines_init_363 (fun H locs hP hD hS => ?_)
  rw [show (53 : Int32).toNatClampNeg = 53 by decide] at hP hD
  have hP : va_P (dC, dI) vcl [(h0, .inr (14, [.null, .null, .null, .null, .null, .null, .int 0, .null, .null, .null, .long 0, .null, .int 0, .int 0, .int 0, .int 0, .int 0, .int 0, .int 0, .null, .null])), (q_1, .inl (cA_2, 64, .inl (upd (upd (upd f_12 51 340) 52 341) 53 292)))] H := hP
  have hD : va_D A [(h0, .inr (14, [.null, .null, .null, .null, .null, .null, .int 0, .null, .null, .null, .long 0, .null, .int 0, .int 0, .int 0, .int 0, .int 0, .int 0, .int 0, .null, .null])), (q_1, .inl (cA_2, 64, .inl (upd (upd (upd f_12 51 340) 52 341) 53 292)))] := hD
  refine lv_dup hx hb d_mLines_init_364 rfl ?_
  refine lv_bipush (v := 54) hx hb d_mLines_init_365 (by decide) ?_
  refine lv_sipush (v := 293) hx hb d_mLines_init_367 (by decide) ?_
  refine va_iast hx hb hK hP hD hS 1 0 rfl rfl (show ¬ ((54 : Int32) < 0 ∨ 64 ≤ (54 : Int32).toNatClampNeg) by decide) d_mLines_init_370 (fun H locs hP hD hS => ?_)
  rw [show (54 : Int32).toNatClampNeg = 54 by decide] at hP hD
  have hP : va_P (dC, dI) vcl [(h0, .inr (14, [.null, .null, .null, .null, .null, .null, .int 0, .null, .null, .null, .long 0, .null, .int 0, .int 0, .int 0, .int 0, .int 0, .int 0, .int 0, .null, .null])), (q_1, .inl (cA_2, 64, .inl (upd (upd (upd (upd f_12 51 340) 52 341) 53 292) 54 293)))] H := hP
  have hD : va_D A [(h0, .inr (14, [.null, .null, .null, .null, .null, .null, .int 0, .null, .null, .null, .long 0, .null, .int 0, .int 0, .int 0, .int 0, .int 0, .int 0, .int 0, .null, .null])), (q_1, .inl (cA_2, 64, .inl (upd (upd (upd (upd f_12 51 340) 52 341) 53 292) 54 293)))] := hD
  refine lv_dup hx hb d_mLines_init_371 rfl ?_
  refine lv_bipush (v := 55) hx hb d_mLines_init_372 (by decide) ?_
  refine lv_sipush (v := 344) hx hb d_mLines_init_374 (by decide) ?_
  refine va_iast hx hb hK hP hD hS 1 0 rfl rfl (show ¬ ((55 : Int32) < 0 ∨ 64 ≤ (55 : Int32).toNatClampNeg) by decide) d_mLines_init_377 (fun H locs hP hD hS => ?_)
  rw [show (55 : Int32).toNatClampNeg = 55 by decide] at hP hD
  obtain ⟨f_13, ef_13⟩ : ∃ y : Nat → Int32, y = upd (upd (upd (upd (upd f_12 51 340) 52 341) 53 292) 54 293) 55 344 := ⟨_, rfl⟩
  have hP : va_P (dC, dI) vcl [(h0, .inr (14, [.null, .null, .null, .null, .null, .null, .int 0, .null, .null, .null, .long 0, .null, .int 0, .int 0, .int 0, .int 0, .int 0, .int 0, .int 0, .null, .null])), (q_1, .inl (cA_2, 64, .inl (upd (upd (upd (upd (upd f_12 51 340) 52 341) 53 292) 54 293) 55 344)))] H := hP
  have hD : va_D A [(h0, .inr (14, [.null, .null, .null, .null, .null, .null, .int 0, .null, .null, .null, .long 0, .null, .int 0, .int 0, .int 0, .int 0, .int 0, .int 0, .int 0, .null, .null])), (q_1, .inl (cA_2, 64, .inl (upd (upd (upd (upd (upd f_12 51 340) 52 341) 53 292) 54 293) 55 344)))] := hD
  rw [← ef_13] at hP hD
  have hP : va_P (dC, dI) vcl [(h0, .inr (14, [.null, .null, .null, .null, .null, .null, .int 0, .null, .null, .null, .long 0, .null, .int 0, .int 0, .int 0, .int 0, .int 0, .int 0, .int 0, .null, .null])), (q_1, .inl (cA_2, 64, .inl f_13))] H := hP
  have hD : va_D A [(h0, .inr (14, [.null, .null, .null, .null, .null, .null, .int 0, .null, .null, .null, .long 0, .null, .int 0, .int 0, .int 0, .int 0, .int 0, .int 0, .int 0, .null, .null])), (q_1, .inl (cA_2, 64, .inl f_13))] := hD
  refine lv_dup hx hb d_mLines_init_378 rfl ?_
  refine lv_bipush (v := 56) hx hb d_mLines_init_379 (by decide) ?_
  refine lv_sipush (v := 345) hx hb d_mLines_init_381 (by decide) ?_
  refine va_iast hx hb hK hP hD hS 1 0 rfl rfl (show ¬ ((56 : Int32) < 0 ∨ 64 ≤ (56 : Int32).toNatClampNeg) by decide) d_mLines_init_384 (fun H locs hP hD hS => ?_)
  rw [show (56 : Int32).toNatClampNeg = 56 by decide] at hP hD
  have hP : va_P (dC, dI) vcl [(h0, .inr (14, [.null, .null, .null, .null, .null, .null, .int 0, .null, .null, .null, .long 0, .null, .int 0, .int 0, .int 0, .int 0, .int 0, .int 0, .int 0, .null, .null])), (q_1, .inl (cA_2, 64, .inl (upd f_13 56 345)))] H := hP
  have hD : va_D A [(h0, .inr (14, [.null, .null, .null, .null, .null, .null, .int 0, .null, .null, .null, .long 0, .null, .int 0, .int 0, .int 0, .int 0, .int 0, .int 0, .int 0, .null, .null])), (q_1, .inl (cA_2, 64, .inl (upd f_13 56 345)))] := hD
  refine lv_dup hx hb d_mLines_init_385 rfl ?_
  refine lv_bipush (v := 57) hx hb d_mLines_init_386 (by decide) ?_
  refine lv_sipush (v := 346) hx hb d_mLines_init_388 (by decide) ?_
  refine va_iast hx hb hK hP hD hS 1 0 rfl rfl (show ¬ ((57 : Int32) < 0 ∨ 64 ≤ (57 : Int32).toNatClampNeg) by decide) d_mLines_init_391 (fun H locs hP hD hS => ?_)
  rw [show (57 : Int32).toNatClampNeg = 57 by decide] at hP hD
  have hP : va_P (dC, dI) vcl [(h0, .inr (14, [.null, .null, .null, .null, .null, .null, .int 0, .null, .null, .null, .long 0, .null, .int 0, .int 0, .int 0, .int 0, .int 0, .int 0, .int 0, .null, .null])), (q_1, .inl (cA_2, 64, .inl (upd (upd f_13 56 345) 57 346)))] H := hP
  have hD : va_D A [(h0, .inr (14, [.null, .null, .null, .null, .null, .null, .int 0, .null, .null, .null, .long 0, .null, .int 0, .int 0, .int 0, .int 0, .int 0, .int 0, .int 0, .null, .null])), (q_1, .inl (cA_2, 64, .inl (upd (upd f_13 56 345) 57 346)))] := hD
  refine lv_dup hx hb d_mLines_init_392 rfl ?_
  refine lv_bipush (v := 58) hx hb d_mLines_init_393 (by decide) ?_
  refine lv_sipush (v := 347) hx hb d_mLines_init_395 (by decide) ?_
  refine va_iast hx hb hK hP hD hS 1 0 rfl rfl (show ¬ ((58 : Int32) < 0 ∨ 64 ≤ (58 : Int32).toNatClampNeg) by decide) d_mLines_init_398 (fun H locs hP hD hS => ?_)
  rw [show (58 : Int32).toNatClampNeg = 58 by decide] at hP hD
  have hP : va_P (dC, dI) vcl [(h0, .inr (14, [.null, .null, .null, .null, .null, .null, .int 0, .null, .null, .null, .long 0, .null, .int 0, .int 0, .int 0, .int 0, .int 0, .int 0, .int 0, .null, .null])), (q_1, .inl (cA_2, 64, .inl (upd (upd (upd f_13 56 345) 57 346) 58 347)))] H := hP
  have hD : va_D A [(h0, .inr (14, [.null, .null, .null, .null, .null, .null, .int 0, .null, .null, .null, .long 0, .null, .int 0, .int 0, .int 0, .int 0, .int 0, .int 0, .int 0, .null, .null])), (q_1, .inl (cA_2, 64, .inl (upd (upd (upd f_13 56 345) 57 346) 58 347)))] := hD
  refine lv_dup hx hb d_mLines_init_399 rfl ?_
  refine lv_bipush (v := 59) hx hb d_mLines_init_400 (by decide) ?_
  refine lv_sipush (v := 330) hx hb d_mLines_init_402 (by decide) ?_
  refine va_iast hx hb hK hP hD hS 1 0 rfl rfl (show ¬ ((59 : Int32) < 0 ∨ 64 ≤ (59 : Int32).toNatClampNeg) by decide) d_mLines_init_405 (fun H locs hP hD hS => ?_)
  rw [show (59 : Int32).toNatClampNeg = 59 by decide] at hP hD
  have hP : va_P (dC, dI) vcl [(h0, .inr (14, [.null, .null, .null, .null, .null, .null, .int 0, .null, .null, .null, .long 0, .null, .int 0, .int 0, .int 0, .int 0, .int 0, .int 0, .int 0, .null, .null])), (q_1, .inl (cA_2, 64, .inl (upd (upd (upd (upd f_13 56 345) 57 346) 58 347) 59 330)))] H := hP
  have hD : va_D A [(h0, .inr (14, [.null, .null, .null, .null, .null, .null, .int 0, .null, .null, .null, .long 0, .null, .int 0, .int 0, .int 0, .int 0, .int 0, .int 0, .int 0, .null, .null])), (q_1, .inl (cA_2, 64, .inl (upd (upd (upd (upd f_13 56 345) 57 346) 58 347) 59 330)))] := hD
  refine lv_dup hx hb d_mLines_init_406 rfl ?_
  refine lv_bipush (v := 60) hx hb d_mLines_init_407 (by decide) ?_
  refine lv_sipush (v := 331) hx hb d_mLines_init_409 (by decide) ?_
  refine va_iast hx hb hK hP hD hS 1 0 rfl rfl (show ¬ ((60 : Int32) < 0 ∨ 64 ≤ (60 : Int32).toNatClampNeg) by decide) d_mLines_init_412 (fun H locs hP hD hS => ?_)
  rw [show (60 : Int32).toNatClampNeg = 60 by decide] at hP hD
  obtain ⟨f_14, ef_14⟩ : ∃ y : Nat → Int32, y = upd (upd (upd (upd (upd f_13 56 345) 57 346) 58 347) 59 330) 60 331 := ⟨_, rfl⟩
  have hP : va_P (dC, dI) vcl [(h0, .inr (14, [.null, .null, .null, .null, .null, .null, .int 0, .null, .null, .null, .long 0, .null, .int 0, .int 0, .int 0, .int 0, .int 0, .int 0, .int 0, .null, .null])), (q_1, .inl (cA_2, 64, .inl (upd (upd (upd (upd (upd f_13 56 345) 57 346) 58 347) 59 330) 60 331)))] H := hP
  have hD : va_D A [(h0, .inr (14, [.null, .null, .null, .null, .null, .null, .int 0, .null, .null, .null, .long 0, .null, .int 0, .int 0, .int 0, .int 0, .int 0, .int 0, .int 0, .null, .null])), (q_1, .inl (cA_2, 64, .inl (upd (upd (upd (upd (upd f_13 56 345) 57 346) 58 347) 59 330) 60 331)))] := hD
  rw [← ef_14] at hP hD
  have hP : va_P (dC, dI) vcl [(h0, .inr (14, [.null, .null, .null, .null, .null, .null, .int 0, .null, .null, .null, .long 0, .null, .int 0, .int 0, .int 0, .int 0, .int 0, .int 0, .int 0, .null, .null])), (q_1, .inl (cA_2, 64, .inl f_14))] H := hP
  have hD : va_D A [(h0, .inr (14, [.null, .null, .null, .null, .null, .null, .int 0, .null, .null, .null, .long 0, .null, .int 0, .int 0, .int 0, .int 0, .int 0, .int 0, .int 0, .null, .null])), (q_1, .inl (cA_2, 64, .inl f_14))] := hD
  refine lv_dup hx hb d_mLines_init_413 rfl ?_
  refine lv_bipush (v := 61) hx hb d_mLines_init_414 (by decide) ?_
  refine lv_sipush (v := 306) hx hb d_mLines_init_416 (by decide) ?_
  refine va_iast hx hb hK hP hD hS 1 0 rfl rfl (show ¬ ((61 : Int32) < 0 ∨ 64 ≤ (61 : Int32).toNatClampNeg) by decide) d_mLines_init_419 (fun H locs hP hD hS => ?_)
  rw [show (61 : Int32).toNatClampNeg = 61 by decide] at hP hD
  have hP : va_P (dC, dI) vcl [(h0, .inr (14, [.null, .null, .null, .null, .null, .null, .int 0, .null, .null, .null, .long 0, .null, .int 0, .int 0, .int 0, .int 0, .int 0, .int 0, .int 0, .null, .null])), (q_1, .inl (cA_2, 64, .inl (upd f_14 61 306)))] H := hP
  have hD : va_D A [(h0, .inr (14, [.null, .null, .null, .null, .null, .null, .int 0, .null, .null, .null, .long 0, .null, .int 0, .int 0, .int 0, .int 0, .int 0, .int 0, .int 0, .null, .null])), (q_1, .inl (cA_2, 64, .inl (upd f_14 61 306)))] := hD
  refine lv_dup hx hb d_mLines_init_420 rfl ?_
  refine lv_bipush (v := 62) hx hb d_mLines_init_421 (by decide) ?_
  refine lv_sipush (v := 307) hx hb d_mLines_init_423 (by decide) ?_
  refine va_iast hx hb hK hP hD hS 1 0 rfl rfl (show ¬ ((62 : Int32) < 0 ∨ 64 ≤ (62 : Int32).toNatClampNeg) by decide) d_mLines_init_426 (fun H locs hP hD hS => ?_)
  rw [show (62 : Int32).toNatClampNeg = 62 by decide] at hP hD
  have hP : va_P (dC, dI) vcl [(h0, .inr (14, [.null, .null, .null, .null, .null, .null, .int 0, .null, .null, .null, .long 0, .null, .int 0, .int 0, .int 0, .int 0, .int 0, .int 0, .int 0, .null, .null])), (q_1, .inl (cA_2, 64, .inl (upd (upd f_14 61 306) 62 307)))] H := hP
  have hD : va_D A [(h0, .inr (14, [.null, .null, .null, .null, .null, .null, .int 0, .null, .null, .null, .long 0, .null, .int 0, .int 0, .int 0, .int 0, .int 0, .int 0, .int 0, .null, .null])), (q_1, .inl (cA_2, 64, .inl (upd (upd f_14 61 306) 62 307)))] := hD
  refine lv_dup hx hb d_mLines_init_427 rfl ?_
  refine lv_bipush (v := 63) hx hb d_mLines_init_428 (by decide) ?_
  refine lv_sipush (v := 308) hx hb d_mLines_init_430 (by decide) ?_
  refine va_iast hx hb hK hP hD hS 1 0 rfl rfl (show ¬ ((63 : Int32) < 0 ∨ 64 ≤ (63 : Int32).toNatClampNeg) by decide) d_mLines_init_433 (fun H locs hP hD hS => ?_)
  rw [show (63 : Int32).toNatClampNeg = 63 by decide] at hP hD
  have hP : va_P (dC, dI) vcl [(h0, .inr (14, [.null, .null, .null, .null, .null, .null, .int 0, .null, .null, .null, .long 0, .null, .int 0, .int 0, .int 0, .int 0, .int 0, .int 0, .int 0, .null, .null])), (q_1, .inl (cA_2, 64, .inl (upd (upd (upd f_14 61 306) 62 307) 63 308)))] H := hP
  have hD : va_D A [(h0, .inr (14, [.null, .null, .null, .null, .null, .null, .int 0, .null, .null, .null, .long 0, .null, .int 0, .int 0, .int 0, .int 0, .int 0, .int 0, .int 0, .null, .null])), (q_1, .inl (cA_2, 64, .inl (upd (upd (upd f_14 61 306) 62 307) 63 308)))] := hD
  refine va_putF (D := (dC, dI)) (ci := 14) (v := .ref q_1) (ty := (.array .int)) (C := R_mLines) (T := F_mLines) (N := 21) hx hb hwd i_mLines t_mLines to_mLines no_mLines hown hK hP hD hS 0 rfl rfl 0 (by decide) (hwd _ wd_10_83) (fun _ h9 => h9) rfl hin rfl (by decide +kernel) rfl rfl (Nat.le_of_ble_eq_true rfl) d_mLines_init_434 (fun H locs hP hD hS => ?_)
  have hP : va_P (dC, dI) vcl [(h0, .inr (14, [.ref q_1, .null, .null, .null, .null, .null, .int 0, .null, .null, .null, .long 0, .null, .int 0, .int 0, .int 0, .int 0, .int 0, .int 0, .int 0, .null, .null])), (q_1, .inl (cA_2, 64, .inl (upd (upd (upd f_14 61 306) 62 307) 63 308)))] H := hP
  have hD : va_D A [(h0, .inr (14, [.ref q_1, .null, .null, .null, .null, .null, .int 0, .null, .null, .null, .long 0, .null, .int 0, .int 0, .int 0, .int 0, .int 0, .int 0, .int 0, .null, .null])), (q_1, .inl (cA_2, 64, .inl (upd (upd (upd f_14 61 306) 62 307) 63 308)))] := hD
  refine lv_aload_n hx hb d_mLines_init_437 rfl (lv_at hl 0 rfl) ?_
  refine lv_bipush (v := 64) hx hb d_mLines_init_438 (by decide) ?_
  refine va_newa (atype := .int) (N' := 64) (a0 := (64, .inl (fun _ => 0))) (ty := .int) (n := 64) hx hb (hwd _ wd_1_167) rfl hK hP hD hS hA (fun _ => rfl) (by decide) (by decide) (by decide) (Nat.le_of_ble_eq_true rfl) (Nat.le_of_ble_eq_true rfl) d_mLines_init_440 (fun q_15 cA_16 H hK hP hD hS => ?_)
  have hP : va_P (dC, dI) vcl [(h0, .inr (14, [.ref q_1, .null, .null, .null, .null, .null, .int 0, .null, .null, .null, .long 0, .null, .int 0, .int 0, .int 0, .int 0, .int 0, .int 0, .int 0, .null, .null])), (q_1, .inl (cA_2, 64, .inl (upd (upd (upd f_14 61 306) 62 307) 63 308))), (q_15, .inl (cA_16, 64, .inl (fun _ => 0)))] H := hP
  have hD : va_D A [(h0, .inr (14, [.ref q_1, .null, .null, .null, .null, .null, .int 0, .null, .null, .null, .long 0, .null, .int 0, .int 0, .int 0, .int 0, .int 0, .int 0, .int 0, .null, .null])), (q_1, .inl (cA_2, 64, .inl (upd (upd (upd f_14 61 306) 62 307) 63 308))), (q_15, .inl (cA_16, 64, .inl (fun _ => 0)))] := hD
  have hK : va_K (dC, dI) vcl [(cA_2, .int), (cA_16, .int)] s := hK
  refine W.widen (k := 2) (n := 128) (by decide) (by decide) ?_
  refine lv_dup hx hb d_mLines_init_442 rfl ?_
  refine lv_iconst (v := 0) hx hb d_mLines_init_443 (by decide) ?_
  refine lv_sipush (v := 1079) hx hb d_mLines_init_444 (by decide) ?_
  refine va_iast hx hb hK hP hD hS 2 1 rfl rfl (show ¬ ((0 : Int32) < 0 ∨ 64 ≤ (0 : Int32).toNatClampNeg) by decide) d_mLines_init_447 (fun H locs hP hD hS => ?_)
  rw [show (0 : Int32).toNatClampNeg = 0 by decide] at hP hD
  have hP : va_P (dC, dI) vcl [(h0, .inr (14, [.ref q_1, .null, .null, .null, .null, .null, .int 0, .null, .null, .null, .long 0, .null, .int 0, .int 0, .int 0, .int 0, .int 0, .int 0, .int 0, .null, .null])), (q_1, .inl (cA_2, 64, .inl (upd (upd (upd f_14 61 306) 62 307) 63 308))), (q_15, .inl (cA_16, 64, .inl (upd (fun _ => 0) 0 1079)))] H := hP
  have hD : va_D A [(h0, .inr (14, [.ref q_1, .null, .null, .null, .null, .null, .int 0, .null, .null, .null, .long 0, .null, .int 0, .int 0, .int 0, .int 0, .int 0, .int 0, .int 0, .null, .null])), (q_1, .inl (cA_2, 64, .inl (upd (upd (upd f_14 61 306) 62 307) 63 308))), (q_15, .inl (cA_16, 64, .inl (upd (fun _ => 0) 0 1079)))] := hD
  refine lv_dup hx hb d_mLines_init_448 rfl ?_
  refine lv_iconst (v := 1) hx hb d_mLines_init_449 (by decide) ?_
  refine lv_bipush (v := 10) hx hb d_mLines_init_450 (by decide) ?_
  refine va_iast hx hb hK hP hD hS 2 1 rfl rfl (show ¬ ((1 : Int32) < 0 ∨ 64 ≤ (1 : Int32).toNatClampNeg) by decide) d_mLines_init_452 (fun H locs hP hD hS => ?_)
  rw [show (1 : Int32).toNatClampNeg = 1 by decide] at hP hD
  have hP : va_P (dC, dI) vcl [(h0, .inr (14, [.ref q_1, .null, .null, .null, .null, .null, .int 0, .null, .null, .null, .long 0, .null, .int 0, .int 0, .int 0, .int 0, .int 0, .int 0, .int 0, .null, .null])), (q_1, .inl (cA_2, 64, .inl (upd (upd (upd f_14 61 306) 62 307) 63 308))), (q_15, .inl (cA_16, 64, .inl (upd (upd (fun _ => 0) 0 1079) 1 10)))] H := hP
  have hD : va_D A [(h0, .inr (14, [.ref q_1, .null, .null, .null, .null, .null, .int 0, .null, .null, .null, .long 0, .null, .int 0, .int 0, .int 0, .int 0, .int 0, .int 0, .int 0, .null, .null])), (q_1, .inl (cA_2, 64, .inl (upd (upd (upd f_14 61 306) 62 307) 63 308))), (q_15, .inl (cA_16, 64, .inl (upd (upd (fun _ => 0) 0 1079) 1 10)))] := hD
  refine lv_dup hx hb d_mLines_init_453 rfl ?_
  refine lv_iconst (v := 2) hx hb d_mLines_init_454 (by decide) ?_
  refine lv_bipush (v := 7) hx hb d_mLines_init_455 (by decide) ?_
  refine va_iast hx hb hK hP hD hS 2 1 rfl rfl (show ¬ ((2 : Int32) < 0 ∨ 64 ≤ (2 : Int32).toNatClampNeg) by decide) d_mLines_init_457 (fun H locs hP hD hS => ?_)
  rw [show (2 : Int32).toNatClampNeg = 2 by decide] at hP hD
  have hP : va_P (dC, dI) vcl [(h0, .inr (14, [.ref q_1, .null, .null, .null, .null, .null, .int 0, .null, .null, .null, .long 0, .null, .int 0, .int 0, .int 0, .int 0, .int 0, .int 0, .int 0, .null, .null])), (q_1, .inl (cA_2, 64, .inl (upd (upd (upd f_14 61 306) 62 307) 63 308))), (q_15, .inl (cA_16, 64, .inl (upd (upd (upd (fun _ => 0) 0 1079) 1 10) 2 7)))] H := hP
  have hD : va_D A [(h0, .inr (14, [.ref q_1, .null, .null, .null, .null, .null, .int 0, .null, .null, .null, .long 0, .null, .int 0, .int 0, .int 0, .int 0, .int 0, .int 0, .int 0, .null, .null])), (q_1, .inl (cA_2, 64, .inl (upd (upd (upd f_14 61 306) 62 307) 63 308))), (q_15, .inl (cA_16, 64, .inl (upd (upd (upd (fun _ => 0) 0 1079) 1 10) 2 7)))] := hD
  refine lv_dup hx hb d_mLines_init_458 rfl ?_
  refine lv_iconst (v := 3) hx hb d_mLines_init_459 (by decide) ?_
  refine lv_bipush (v := 6) hx hb d_mLines_init_460 (by decide) ?_
  refine va_iast hx hb hK hP hD hS 2 1 rfl rfl (show ¬ ((3 : Int32) < 0 ∨ 64 ≤ (3 : Int32).toNatClampNeg) by decide) d_mLines_init_462 (fun H locs hP hD hS => ?_)
  rw [show (3 : Int32).toNatClampNeg = 3 by decide] at hP hD
  have hP : va_P (dC, dI) vcl [(h0, .inr (14, [.ref q_1, .null, .null, .null, .null, .null, .int 0, .null, .null, .null, .long 0, .null, .int 0, .int 0, .int 0, .int 0, .int 0, .int 0, .int 0, .null, .null])), (q_1, .inl (cA_2, 64, .inl (upd (upd (upd f_14 61 306) 62 307) 63 308))), (q_15, .inl (cA_16, 64, .inl (upd (upd (upd (upd (fun _ => 0) 0 1079) 1 10) 2 7) 3 6)))] H := hP
  have hD : va_D A [(h0, .inr (14, [.ref q_1, .null, .null, .null, .null, .null, .int 0, .null, .null, .null, .long 0, .null, .int 0, .int 0, .int 0, .int 0, .int 0, .int 0, .int 0, .null, .null])), (q_1, .inl (cA_2, 64, .inl (upd (upd (upd f_14 61 306) 62 307) 63 308))), (q_15, .inl (cA_16, 64, .inl (upd (upd (upd (upd (fun _ => 0) 0 1079) 1 10) 2 7) 3 6)))] := hD
  refine lv_dup hx hb d_mLines_init_463 rfl ?_
  refine lv_iconst (v := 4) hx hb d_mLines_init_464 (by decide) ?_
  refine lv_bipush (v := 11) hx hb d_mLines_init_465 (by decide) ?_
  refine va_iast hx hb hK hP hD hS 2 1 rfl rfl (show ¬ ((4 : Int32) < 0 ∨ 64 ≤ (4 : Int32).toNatClampNeg) by decide) d_mLines_init_467 (fun H locs hP hD hS => ?_)
  rw [show (4 : Int32).toNatClampNeg = 4 by decide] at hP hD
  obtain ⟨f_17, ef_17⟩ : ∃ y : Nat → Int32, y = upd (upd (upd (upd (upd (fun _ => 0) 0 1079) 1 10) 2 7) 3 6) 4 11 := ⟨_, rfl⟩
  have hP : va_P (dC, dI) vcl [(h0, .inr (14, [.ref q_1, .null, .null, .null, .null, .null, .int 0, .null, .null, .null, .long 0, .null, .int 0, .int 0, .int 0, .int 0, .int 0, .int 0, .int 0, .null, .null])), (q_1, .inl (cA_2, 64, .inl (upd (upd (upd f_14 61 306) 62 307) 63 308))), (q_15, .inl (cA_16, 64, .inl (upd (upd (upd (upd (upd (fun _ => 0) 0 1079) 1 10) 2 7) 3 6) 4 11)))] H := hP
  have hD : va_D A [(h0, .inr (14, [.ref q_1, .null, .null, .null, .null, .null, .int 0, .null, .null, .null, .long 0, .null, .int 0, .int 0, .int 0, .int 0, .int 0, .int 0, .int 0, .null, .null])), (q_1, .inl (cA_2, 64, .inl (upd (upd (upd f_14 61 306) 62 307) 63 308))), (q_15, .inl (cA_16, 64, .inl (upd (upd (upd (upd (upd (fun _ => 0) 0 1079) 1 10) 2 7) 3 6) 4 11)))] := hD
  rw [← ef_17] at hP hD
  have hP : va_P (dC, dI) vcl [(h0, .inr (14, [.ref q_1, .null, .null, .null, .null, .null, .int 0, .null, .null, .null, .long 0, .null, .int 0, .int 0, .int 0, .int 0, .int 0, .int 0, .int 0, .null, .null])), (q_1, .inl (cA_2, 64, .inl (upd (upd (upd f_14 61 306) 62 307) 63 308))), (q_15, .inl (cA_16, 64, .inl f_17))] H := hP
  have hD : va_D A [(h0, .inr (14, [.ref q_1, .null, .null, .null, .null, .null, .int 0, .null, .null, .null, .long 0, .null, .int 0, .int 0, .int 0, .int 0, .int 0, .int 0, .int 0, .null, .null])), (q_1, .inl (cA_2, 64, .inl (upd (upd (upd f_14 61 306) 62 307) 63 308))), (q_15, .inl (cA_16, 64, .inl f_17))] := hD
  refine lv_dup hx hb d_mLines_init_468 rfl ?_
  refine lv_iconst (v := 5) hx hb d_mLines_init_469 (by decide) ?_
  refine lv_bipush (v := 19) hx hb d_mLines_init_470 (by decide) ?_
  refine va_iast hx hb hK hP hD hS 2 1 rfl rfl (show ¬ ((5 : Int32) < 0 ∨ 64 ≤ (5 : Int32).toNatClampNeg) by decide) d_mLines_init_472 (fun H locs hP hD hS => ?_)
  rw [show (5 : Int32).toNatClampNeg = 5 by decide] at hP hD
  have hP : va_P (dC, dI) vcl [(h0, .inr (14, [.ref q_1, .null, .null, .null, .null, .null, .int 0, .null, .null, .null, .long 0, .null, .int 0, .int 0, .int 0, .int 0, .int 0, .int 0, .int 0, .null, .null])), (q_1, .inl (cA_2, 64, .inl (upd (upd (upd f_14 61 306) 62 307) 63 308))), (q_15, .inl (cA_16, 64, .inl (upd f_17 5 19)))] H := hP
  have hD : va_D A [(h0, .inr (14, [.ref q_1, .null, .null, .null, .null, .null, .int 0, .null, .null, .null, .long 0, .null, .int 0, .int 0, .int 0, .int 0, .int 0, .int 0, .int 0, .null, .null])), (q_1, .inl (cA_2, 64, .inl (upd (upd (upd f_14 61 306) 62 307) 63 308))), (q_15, .inl (cA_16, 64, .inl (upd f_17 5 19)))] := hD
  refine lv_dup hx hb d_mLines_init_473 rfl ?_
  refine lv_bipush (v := 6) hx hb d_mLines_init_474 (by decide) ?_
  refine lv_bipush (v := 18) hx hb d_mLines_init_476 (by decide) ?_
  refine va_iast hx hb hK hP hD hS 2 1 rfl rfl (show ¬ ((6 : Int32) < 0 ∨ 64 ≤ (6 : Int32).toNatClampNeg) by decide) d_mLines_init_478 (fun H locs hP hD hS => ?_)
  rw [show (6 : Int32).toNatClampNeg = 6 by decide] at hP hD
  have hP : va_P (dC, dI) vcl [(h0, .inr (14, [.ref q_1, .null, .null, .null, .null, .null, .int 0, .null, .null, .null, .long 0, .null, .int 0, .int 0, .int 0, .int 0, .int 0, .int 0, .int 0, .null, .null])), (q_1, .inl (cA_2, 64, .inl (upd (upd (upd f_14 61 306) 62 307) 63 308))), (q_15, .inl (cA_16, 64, .inl (upd (upd f_17 5 19) 6 18)))] H := hP
  have hD : va_D A [(h0, .inr (14, [.ref q_1, .null, .null, .null, .null, .null, .int 0, .null, .null, .null, .long 0, .null, .int 0, .int 0, .int 0, .int 0, .int 0, .int 0, .int 0, .null, .null])), (q_1, .inl (cA_2, 64, .inl (upd (upd (upd f_14 61 306) 62 307) 63 308))), (q_15, .inl (cA_16, 64, .inl (upd (upd f_17 5 19) 6 18)))] := hD
  refine lv_dup hx hb d_mLines_init_479 rfl ?_
  refine lv_bipush (v := 7) hx hb d_mLines_init_480 (by decide) ?_
  refine lv_bipush (v := 35) hx hb d_mLines_init_482 (by decide) ?_
  refine va_iast hx hb hK hP hD hS 2 1 rfl rfl (show ¬ ((7 : Int32) < 0 ∨ 64 ≤ (7 : Int32).toNatClampNeg) by decide) d_mLines_init_484 (fun H locs hP hD hS => ?_)
  rw [show (7 : Int32).toNatClampNeg = 7 by decide] at hP hD
  have hP : va_P (dC, dI) vcl [(h0, .inr (14, [.ref q_1, .null, .null, .null, .null, .null, .int 0, .null, .null, .null, .long 0, .null, .int 0, .int 0, .int 0, .int 0, .int 0, .int 0, .int 0, .null, .null])), (q_1, .inl (cA_2, 64, .inl (upd (upd (upd f_14 61 306) 62 307) 63 308))), (q_15, .inl (cA_16, 64, .inl (upd (upd (upd f_17 5 19) 6 18) 7 35)))] H := hP
  have hD : va_D A [(h0, .inr (14, [.ref q_1, .null, .null, .null, .null, .null, .int 0, .null, .null, .null, .long 0, .null, .int 0, .int 0, .int 0, .int 0, .int 0, .int 0, .int 0, .null, .null])), (q_1, .inl (cA_2, 64, .inl (upd (upd (upd f_14 61 306) 62 307) 63 308))), (q_15, .inl (cA_16, 64, .inl (upd (upd (upd f_17 5 19) 6 18) 7 35)))] := hD
  refine lv_dup hx hb d_mLines_init_485 rfl ?_
  refine lv_bipush (v := 8) hx hb d_mLines_init_486 (by decide) ?_
  refine lv_bipush (v := 69) hx hb d_mLines_init_488 (by decide) ?_
  refine va_iast hx hb hK hP hD hS 2 1 rfl rfl (show ¬ ((8 : Int32) < 0 ∨ 64 ≤ (8 : Int32).toNatClampNeg) by decide) d_mLines_init_490 (fun H locs hP hD hS => ?_)
  rw [show (8 : Int32).toNatClampNeg = 8 by decide] at hP hD
  have hP : va_P (dC, dI) vcl [(h0, .inr (14, [.ref q_1, .null, .null, .null, .null, .null, .int 0, .null, .null, .null, .long 0, .null, .int 0, .int 0, .int 0, .int 0, .int 0, .int 0, .int 0, .null, .null])), (q_1, .inl (cA_2, 64, .inl (upd (upd (upd f_14 61 306) 62 307) 63 308))), (q_15, .inl (cA_16, 64, .inl (upd (upd (upd (upd f_17 5 19) 6 18) 7 35) 8 69)))] H := hP
  have hD : va_D A [(h0, .inr (14, [.ref q_1, .null, .null, .null, .null, .null, .int 0, .null, .null, .null, .long 0, .null, .int 0, .int 0, .int 0, .int 0, .int 0, .int 0, .int 0, .null, .null])), (q_1, .inl (cA_2, 64, .inl (upd (upd (upd f_14 61 306) 62 307) 63 308))), (q_15, .inl (cA_16, 64, .inl (upd (upd (upd (upd f_17 5 19) 6 18) 7 35) 8 69)))] := hD
  refine lv_dup hx hb d_mLines_init_491 rfl ?_
  refine lv_bipush (v := 9) hx hb d_mLines_init_492 (by decide) ?_
  refine lv_bipush (v := 68) hx hb d_mLines_init_494 (by decide) ?_
  refine va_iast hx hb hK hP hD hS 2 1 rfl rfl (show ¬ ((9 : Int32) < 0 ∨ 64 ≤ (9 : Int32).toNatClampNeg) by decide) d_mLines_init_496 (fun H locs hP hD hS => ?_)
  rw [show (9 : Int32).toNatClampNeg = 9 by decide] at hP hD
  have hP : va_P (dC, dI) vcl [(h0, .inr (14, [.ref q_1, .null, .null, .null, .null, .null, .int 0, .null, .null, .null, .long 0, .null, .int 0, .int 0, .int 0, .int 0, .int 0, .int 0, .int 0, .null, .null])), (q_1, .inl (cA_2, 64, .inl (upd (upd (upd f_14 61 306) 62 307) 63 308))), (q_15, .inl (cA_16, 64, .inl (upd (upd (upd (upd (upd f_17 5 19) 6 18) 7 35) 8 69) 9 68)))] H := hP
  have hD : va_D A [(h0, .inr (14, [.ref q_1, .null, .null, .null, .null, .null, .int 0, .null, .null, .null, .long 0, .null, .int 0, .int 0, .int 0, .int 0, .int 0, .int 0, .int 0, .null, .null])), (q_1, .inl (cA_2, 64, .inl (upd (upd (upd f_14 61 306) 62 307) 63 308))), (q_15, .inl (cA_16, 64, .inl (upd (upd (upd (upd (upd f_17 5 19) 6 18) 7 35) 8 69) 9 68)))] := hD
  refine lv_dup hx hb d_mLines_init_497 rfl ?_
  refine lv_bipush (v := 10) hx hb d_mLines_init_498 (by decide) ?_
  refine lv_sipush (v := 132) hx hb d_mLines_init_500 (by decide) ?_
  refine va_iast hx hb hK hP hD hS 2 1 rfl rfl (show ¬ ((10 : Int32) < 0 ∨ 64 ≤ (10 : Int32).toNatClampNeg) by decide) d_mLines_init_503 (fun H locs hP hD hS => ?_)
  rw [show (10 : Int32).toNatClampNeg = 10 by decide] at hP hD
  obtain ⟨f_18, ef_18⟩ : ∃ y : Nat → Int32, y = upd (upd (upd (upd (upd (upd f_17 5 19) 6 18) 7 35) 8 69) 9 68) 10 132 := ⟨_, rfl⟩
  have hP : va_P (dC, dI) vcl [(h0, .inr (14, [.ref q_1, .null, .null, .null, .null, .null, .int 0, .null, .null, .null, .long 0, .null, .int 0, .int 0, .int 0, .int 0, .int 0, .int 0, .int 0, .null, .null])), (q_1, .inl (cA_2, 64, .inl (upd (upd (upd f_14 61 306) 62 307) 63 308))), (q_15, .inl (cA_16, 64, .inl (upd (upd (upd (upd (upd (upd f_17 5 19) 6 18) 7 35) 8 69) 9 68) 10 132)))] H := hP
  have hD : va_D A [(h0, .inr (14, [.ref q_1, .null, .null, .null, .null, .null, .int 0, .null, .null, .null, .long 0, .null, .int 0, .int 0, .int 0, .int 0, .int 0, .int 0, .int 0, .null, .null])), (q_1, .inl (cA_2, 64, .inl (upd (upd (upd f_14 61 306) 62 307) 63 308))), (q_15, .inl (cA_16, 64, .inl (upd (upd (upd (upd (upd (upd f_17 5 19) 6 18) 7 35) 8 69) 9 68) 10 132)))] := hD
  rw [← ef_18] at hP hD
  have hP : va_P (dC, dI) vcl [(h0, .inr (14, [.ref q_1, .null, .null, .null, .null, .null, .int 0, .null, .null, .null, .long 0, .null, .int 0, .int 0, .int 0, .int 0, .int 0, .int 0, .int 0, .null, .null])), (q_1, .inl (cA_2, 64, .inl (upd (upd (upd f_14 61 306) 62 307) 63 308))), (q_15, .inl (cA_16, 64, .inl f_18))] H := hP
  have hD : va_D A [(h0, .inr (14, [.ref q_1, .null, .null, .null, .null, .null, .int 0, .null, .null, .null, .long 0, .null, .int 0, .int 0, .int 0, .int 0, .int 0, .int 0, .int 0, .null, .null])), (q_1, .inl (cA_2, 64, .inl (upd (upd (upd f_14 61 306) 62 307) 63 308))), (q_15, .inl (cA_16, 64, .inl f_18))] := hD
  refine lv_dup hx hb d_mLines_init_504 rfl ?_
  refine lv_bipush (v := 11) hx hb d_mLines_init_505 (by decide) ?_
  refine lv_sipush (v := 133) hx hb d_mLines_init_507 (by decide) ?_
  refine va_iast hx hb hK hP hD hS 2 1 rfl rfl (show ¬ ((11 : Int32) < 0 ∨ 64 ≤ (11 : Int32).toNatClampNeg) by decide) d_mLines_init_510 (fun H locs hP hD hS => ?_)
  rw [show (11 : Int32).toNatClampNeg = 11 by decide] at hP hD
  have hP : va_P (dC, dI) vcl [(h0, .inr (14, [.ref q_1, .null, .null, .null, .null, .null, .int 0, .null, .null, .null, .long 0, .null, .int 0, .int 0, .int 0, .int 0, .int 0, .int 0, .int 0, .null, .null])), (q_1, .inl (cA_2, 64, .inl (upd (upd (upd f_14 61 306) 62 307) 63 308))), (q_15, .inl (cA_16, 64, .inl (upd f_18 11 133)))] H := hP
  have hD : va_D A [(h0, .inr (14, [.ref q_1, .null, .null, .null, .null, .null, .int 0, .null, .null, .null, .long 0, .null, .int 0, .int 0, .int 0, .int 0, .int 0, .int 0, .int 0, .null, .null])), (q_1, .inl (cA_2, 64, .inl (upd (upd (upd f_14 61 306) 62 307) 63 308))), (q_15, .inl (cA_16, 64, .inl (upd f_18 11 133)))] := hD
  refine lv_dup hx hb d_mLines_init_511 rfl ?_
  refine lv_bipush (v := 12) hx hb d_mLines_init_512 (by decide) ?_
  refine lv_sipush (v := 135) hx hb d_mLines_init_514 (by decide) ?_
  refine va_iast hx hb hK hP hD hS 2 1 rfl rfl (show ¬ ((12 : Int32) < 0 ∨ 64 ≤ (12 : Int32).toNatClampNeg) by decide) d_mLines_init_517 (fun H locs hP hD hS => ?_)
  rw [show (12 : Int32).toNatClampNeg = 12 by decide] at hP hD
  have hP : va_P (dC, dI) vcl [(h0, .inr (14, [.ref q_1, .null, .null, .null, .null, .null, .int 0, .null, .null, .null, .long 0, .null, .int 0, .int 0, .int 0, .int 0, .int 0, .int 0, .int 0, .null, .null])), (q_1, .inl (cA_2, 64, .inl (upd (upd (upd f_14 61 306) 62 307) 63 308))), (q_15, .inl (cA_16, 64, .inl (upd (upd f_18 11 133) 12 135)))] H := hP
  have hD : va_D A [(h0, .inr (14, [.ref q_1, .null, .null, .null, .null, .null, .int 0, .null, .null, .null, .long 0, .null, .int 0, .int 0, .int 0, .int 0, .int 0, .int 0, .int 0, .null, .null])), (q_1, .inl (cA_2, 64, .inl (upd (upd (upd f_14 61 306) 62 307) 63 308))), (q_15, .inl (cA_16, 64, .inl (upd (upd f_18 11 133) 12 135)))] := hD
  refine lv_dup hx hb d_mLines_init_518 rfl ?_
  refine lv_bipush (v := 13) hx hb d_mLines_init_519 (by decide) ?_
  refine lv_sipush (v := 260) hx hb d_mLines_init_521 (by decide) ?_
  refine va_iast hx hb hK hP hD hS 2 1 rfl rfl (show ¬ ((13 : Int32) < 0 ∨ 64 ≤ (13 : Int32).toNatClampNeg) by decide) d_mLines_init_524 (fun H locs hP hD hS => ?_)
  rw [show (13 : Int32).toNatClampNeg = 13 by decide] at hP hD
  have hP : va_P (dC, dI) vcl [(h0, .inr (14, [.ref q_1, .null, .null, .null, .null, .null, .int 0, .null, .null, .null, .long 0, .null, .int 0, .int 0, .int 0, .int 0, .int 0, .int 0, .int 0, .null, .null])), (q_1, .inl (cA_2, 64, .inl (upd (upd (upd f_14 61 306) 62 307) 63 308))), (q_15, .inl (cA_16, 64, .inl (upd (upd (upd f_18 11 133) 12 135) 13 260)))] H := hP
  have hD : va_D A [(h0, .inr (14, [.ref q_1, .null, .null, .null, .null, .null, .int 0, .null, .null, .null, .long 0, .null, .int 0, .int 0, .int 0, .int 0, .int 0, .int 0, .int 0, .null, .null])), (q_1, .inl (cA_2, 64, .inl (upd (upd (upd f_14 61 306) 62 307) 63 308))), (q_15, .inl (cA_16, 64, .inl (upd (upd (upd f_18 11 133) 12 135) 13 260)))] := hD
  refine lv_dup hx hb d_mLines_init_525 rfl ?_
  refine lv_bipush (v := 14) hx hb d_mLines_init_526 (by decide) ?_
  refine lv_sipush (v := 263) hx hb d_mLines_init_528 (by decide) ?_
  refine va_iast hx hb hK hP hD hS 2 1 rfl rfl (show ¬ ((14 : Int32) < 0 ∨ 64 ≤ (14 : Int32).toNatClampNeg) by decide) d_mLines_init_531 (fun H locs hP hD hS => ?_)
  rw [show (14 : Int32).toNatClampNeg = 14 by decide] at hP hD
  have hP : va_P (dC, dI) vcl [(h0, .inr (14, [.ref q_1, .null, .null, .null, .null, .null, .int 0, .null, .null, .null, .long 0, .null, .int 0, .int 0, .int 0, .int 0, .int 0, .int 0, .int 0, .null, .null])), (q_1, .inl (cA_2, 64, .inl (upd (upd (upd f_14 61 306) 62 307) 63 308))), (q_15, .inl (cA_16, 64, .inl (upd (upd (upd (upd f_18 11 133) 12 135) 13 260) 14 263)))] H := hP
  have hD : va_D A [(h0, .inr (14, [.ref q_1, .null, .null, .null, .null, .null, .int 0, .null, .null, .null, .long 0, .null, .int 0, .int 0, .int 0, .int 0, .int 0, .int 0, .int 0, .null, .null])), (q_1, .inl (cA_2, 64, .inl (upd (upd (upd f_14 61 306) 62 307) 63 308))), (q_15, .inl (cA_16, 64, .inl (upd (upd (upd (upd f_18 11 133) 12 135) 13 260) 14 263)))] := hD
  refine lv_dup hx hb d_mLines_init_532 rfl ?_
  refine lv_bipush (v := 15) hx hb d_mLines_init_533 (by decide) ?_
  refine lv_sipush (v := 536) hx hb d_mLines_init_535 (by decide) ?_
  refine va_iast hx hb hK hP hD hS 2 1 rfl rfl (show ¬ ((15 : Int32) < 0 ∨ 64 ≤ (15 : Int32).toNatClampNeg) by decide) d_mLines_init_538 (fun H locs hP hD hS => ?_)
  rw [show (15 : Int32).toNatClampNeg = 15 by decide] at hP hD
  obtain ⟨f_19, ef_19⟩ : ∃ y : Nat → Int32, y = upd (upd (upd (upd (upd f_18 11 133) 12 135) 13 260) 14 263) 15 536 := ⟨_, rfl⟩
  have hP : va_P (dC, dI) vcl [(h0, .inr (14, [.ref q_1, .null, .null, .null, .null, .null, .int 0, .null, .null, .null, .long 0, .null, .int 0, .int 0, .int 0, .int 0, .int 0, .int 0, .int 0, .null, .null])), (q_1, .inl (cA_2, 64, .inl (upd (upd (upd f_14 61 306) 62 307) 63 308))), (q_15, .inl (cA_16, 64, .inl (upd (upd (upd (upd (upd f_18 11 133) 12 135) 13 260) 14 263) 15 536)))] H := hP
  have hD : va_D A [(h0, .inr (14, [.ref q_1, .null, .null, .null, .null, .null, .int 0, .null, .null, .null, .long 0, .null, .int 0, .int 0, .int 0, .int 0, .int 0, .int 0, .int 0, .null, .null])), (q_1, .inl (cA_2, 64, .inl (upd (upd (upd f_14 61 306) 62 307) 63 308))), (q_15, .inl (cA_16, 64, .inl (upd (upd (upd (upd (upd f_18 11 133) 12 135) 13 260) 14 263) 15 536)))] := hD
  rw [← ef_19] at hP hD
  have hP : va_P (dC, dI) vcl [(h0, .inr (14, [.ref q_1, .null, .null, .null, .null, .null, .int 0, .null, .null, .null, .long 0, .null, .int 0, .int 0, .int 0, .int 0, .int 0, .int 0, .int 0, .null, .null])), (q_1, .inl (cA_2, 64, .inl (upd (upd (upd f_14 61 306) 62 307) 63 308))), (q_15, .inl (cA_16, 64, .inl f_19))] H := hP
  have hD : va_D A [(h0, .inr (14, [.ref q_1, .null, .null, .null, .null, .null, .int 0, .null, .null, .null, .long 0, .null, .int 0, .int 0, .int 0, .int 0, .int 0, .int 0, .int 0, .null, .null])), (q_1, .inl (cA_2, 64, .inl (upd (upd (upd f_14 61 306) 62 307) 63 308))), (q_15, .inl (cA_16, 64, .inl f_19))] := hD
  refine lv_dup hx hb d_mLines_init_539 rfl ?_
  refine lv_bipush (v := 16) hx hb d_mLines_init_540 (by decide) ?_
  refine lv_sipush (v := 1047) hx hb d_mLines_init_542 (by decide) ?_
  refine va_iast hx hb hK hP hD hS 2 1 rfl rfl (show ¬ ((16 : Int32) < 0 ∨ 64 ≤ (16 : Int32).toNatClampNeg) by decide) d_mLines_init_545 (fun H locs hP hD hS => ?_)
  rw [show (16 : Int32).toNatClampNeg = 16 by decide] at hP hD
  have hP : va_P (dC, dI) vcl [(h0, .inr (14, [.ref q_1, .null, .null, .null, .null, .null, .int 0, .null, .null, .null, .long 0, .null, .int 0, .int 0, .int 0, .int 0, .int 0, .int 0, .int 0, .null, .null])), (q_1, .inl (cA_2, 64, .inl (upd (upd (upd f_14 61 306) 62 307) 63 308))), (q_15, .inl (cA_16, 64, .inl (upd f_19 16 1047)))] H := hP
  have hD : va_D A [(h0, .inr (14, [.ref q_1, .null, .null, .null, .null, .null, .int 0, .null, .null, .null, .long 0, .null, .int 0, .int 0, .int 0, .int 0, .int 0, .int 0, .int 0, .null, .null])), (q_1, .inl (cA_2, 64, .inl (upd (upd (upd f_14 61 306) 62 307) 63 308))), (q_15, .inl (cA_16, 64, .inl (upd f_19 16 1047)))] := hD
  refine lv_dup hx hb d_mLines_init_546 rfl ?_
  refine lv_bipush (v := 17) hx hb d_mLines_init_547 (by decide) ?_
  refine lv_sipush (v := 1048) hx hb d_mLines_init_549 (by decide) ?_
  refine va_iast hx hb hK hP hD hS 2 1 rfl rfl (show ¬ ((17 : Int32) < 0 ∨ 64 ≤ (17 : Int32).toNatClampNeg) by decide) d_mLines_init_552 (fun H locs hP hD hS => ?_)
  rw [show (17 : Int32).toNatClampNeg = 17 by decide] at hP hD
  have hP : va_P (dC, dI) vcl [(h0, .inr (14, [.ref q_1, .null, .null, .null, .null, .null, .int 0, .null, .null, .null, .long 0, .null, .int 0, .int 0, .int 0, .int 0, .int 0, .int 0, .int 0, .null, .null])), (q_1, .inl (cA_2, 64, .inl (upd (upd (upd f_14 61 306) 62 307) 63 308))), (q_15, .inl (cA_16, 64, .inl (upd (upd f_19 16 1047) 17 1048)))] H := hP
  have hD : va_D A [(h0, .inr (14, [.ref q_1, .null, .null, .null, .null, .null, .int 0, .null, .null, .null, .long 0, .null, .int 0, .int 0, .int 0, .int 0, .int 0, .int 0, .int 0, .null, .null])), (q_1, .inl (cA_2, 64, .inl (upd (upd (upd f_14 61 306) 62 307) 63 308))), (q_15, .inl (cA_16, 64, .inl (upd (upd f_19 16 1047) 17 1048)))] := hD
  refine lv_dup hx hb d_mLines_init_553 rfl ?_
  refine lv_bipush (v := 18) hx hb d_mLines_init_554 (by decide) ?_
  refine lv_sipush (v := 1032) hx hb d_mLines_init_556 (by decide) ?_
  refine va_iast hx hb hK hP hD hS 2 1 rfl rfl (show ¬ ((18 : Int32) < 0 ∨ 64 ≤ (18 : Int32).toNatClampNeg) by decide) d_mLines_init_559 (fun H locs hP hD hS => ?_)
  rw [show (18 : Int32).toNatClampNeg = 18 by decide] at hP hD
  have hP : va_P (dC, dI) vcl [(h0, .inr (14, [.ref q_1, .null, .null, .null, .null, .null, .int 0, .null, .null, .null, .long 0, .null, .int 0, .int 0, .int 0, .int 0, .int 0, .int 0, .int 0, .null, .null])), (q_1, .inl (cA_2, 64, .inl (upd (upd (upd f_14 61 306) 62 307) 63 308))), (q_15, .inl (cA_16, 64, .inl (upd (upd (upd f_19 16 1047) 17 1048) 18 1032)))] H := hP
  have hD : va_D A [(h0, .inr (14, [.ref q_1, .null, .null, .null, .null, .null, .int 0, .null, .null, .null, .long 0, .null, .int 0, .int 0, .int 0, .int 0, .int 0, .int 0, .int 0, .null, .null])), (q_1, .inl (cA_2, 64, .inl (upd (upd (upd f_14 61 306) 62 307) 63 308))), (q_15, .inl (cA_16, 64, .inl (upd (upd (upd f_19 16 1047) 17 1048) 18 1032)))] := hD
  refine lv_dup hx hb d_mLines_init_560 rfl ?_
  refine lv_bipush (v := 19) hx hb d_mLines_init_561 (by decide) ?_
  refine lv_sipush (v := 2151) hx hb d_mLines_init_563 (by decide) ?_
  refine va_iast hx hb hK hP hD hS 2 1 rfl rfl (show ¬ ((19 : Int32) < 0 ∨ 64 ≤ (19 : Int32).toNatClampNeg) by decide) d_mLines_init_566 (fun H locs hP hD hS => ?_)
  rw [show (19 : Int32).toNatClampNeg = 19 by decide] at hP hD
  have hP : va_P (dC, dI) vcl [(h0, .inr (14, [.ref q_1, .null, .null, .null, .null, .null, .int 0, .null, .null, .null, .long 0, .null, .int 0, .int 0, .int 0, .int 0, .int 0, .int 0, .int 0, .null, .null])), (q_1, .inl (cA_2, 64, .inl (upd (upd (upd f_14 61 306) 62 307) 63 308))), (q_15, .inl (cA_16, 64, .inl (upd (upd (upd (upd f_19 16 1047) 17 1048) 18 1032) 19 2151)))] H := hP
  have hD : va_D A [(h0, .inr (14, [.ref q_1, .null, .null, .null, .null, .null, .int 0, .null, .null, .null, .long 0, .null, .int 0, .int 0, .int 0, .int 0, .int 0, .int 0, .int 0, .null, .null])), (q_1, .inl (cA_2, 64, .inl (upd (upd (upd f_14 61 306) 62 307) 63 308))), (q_15, .inl (cA_16, 64, .inl (upd (upd (upd (upd f_19 16 1047) 17 1048) 18 1032) 19 2151)))] := hD
  refine lv_dup hx hb d_mLines_init_567 rfl ?_
  refine lv_bipush (v := 20) hx hb d_mLines_init_568 (by decide) ?_
  refine lv_sipush (v := 2152) hx hb d_mLines_init_570 (by decide) ?_
  refine va_iast hx hb hK hP hD hS 2 1 rfl rfl (show ¬ ((20 : Int32) < 0 ∨ 64 ≤ (20 : Int32).toNatClampNeg) by decide) d_mLines_init_573 (fun H locs hP hD hS => ?_)
  rw [show (20 : Int32).toNatClampNeg = 20 by decide] at hP hD
  obtain ⟨f_20, ef_20⟩ : ∃ y : Nat → Int32, y = upd (upd (upd (upd (upd f_19 16 1047) 17 1048) 18 1032) 19 2151) 20 2152 := ⟨_, rfl⟩
  have hP : va_P (dC, dI) vcl [(h0, .inr (14, [.ref q_1, .null, .null, .null, .null, .null, .int 0, .null, .null, .null, .long 0, .null, .int 0, .int 0, .int 0, .int 0, .int 0, .int 0, .int 0, .null, .null])), (q_1, .inl (cA_2, 64, .inl (upd (upd (upd f_14 61 306) 62 307) 63 308))), (q_15, .inl (cA_16, 64, .inl (upd (upd (upd (upd (upd f_19 16 1047) 17 1048) 18 1032) 19 2151) 20 2152)))] H := hP
  have hD : va_D A [(h0, .inr (14, [.ref q_1, .null, .null, .null, .null, .null, .int 0, .null, .null, .null, .long 0, .null, .int 0, .int 0, .int 0, .int 0, .int 0, .int 0, .int 0, .null, .null])), (q_1, .inl (cA_2, 64, .inl (upd (upd (upd f_14 61 306) 62 307) 63 308))), (q_15, .inl (cA_16, 64, .inl (upd (upd (upd (upd (upd f_19 16 1047) 17 1048) 18 1032) 19 2151) 20 2152)))] := hD
  rw [← ef_20] at hP hD
  have hP : va_P (dC, dI) vcl [(h0, .inr (14, [.ref q_1, .null, .null, .null, .null, .null, .int 0, .null, .null, .null, .long 0, .null, .int 0, .int 0, .int 0, .int 0, .int 0, .int 0, .int 0, .null, .null])), (q_1, .inl (cA_2, 64, .inl (upd (upd (upd f_14 61 306) 62 307) 63 308))), (q_15, .inl (cA_16, 64, .inl f_20))] H := hP
  have hD : va_D A [(h0, .inr (14, [.ref q_1, .null, .null, .null, .null, .null, .int 0, .null, .null, .null, .long 0, .null, .int 0, .int 0, .int 0, .int 0, .int 0, .int 0, .int 0, .null, .null])), (q_1, .inl (cA_2, 64, .inl (upd (upd (upd f_14 61 306) 62 307) 63 308))), (q_15, .inl (cA_16, 64, .inl f_20))] := hD
  refine lv_dup hx hb d_mLines_init_574 rfl ?_
  refine lv_bipush (v := 21) hx hb d_mLines_init_575 (by decide) ?_
  refine lv_sipush (v := 2156) hx hb d_mLines_init_577 (by decide) ?_
  refine va_iast hx hb hK hP hD hS 2 1 rfl rfl (show ¬ ((21 : Int32) < 0 ∨ 64 ≤ (21 : Int32).toNatClampNeg) by decide) d_mLines_init_580 (fun H locs hP hD hS => ?_)
  rw [show (21 : Int32).toNatClampNeg = 21 by decide] at hP hD
  have hP : va_P (dC, dI) vcl [(h0, .inr (14, [.ref q_1, .null, .null, .null, .null, .null, .int 0, .null, .null, .null, .long 0, .null, .int 0, .int 0, .int 0, .int 0, .int 0, .int 0, .int 0, .null, .null])), (q_1, .inl (cA_2, 64, .inl (upd (upd (upd f_14 61 306) 62 307) 63 308))), (q_15, .inl (cA_16, 64, .inl (upd f_20 21 2156)))] H := hP
  have hD : va_D A [(h0, .inr (14, [.ref q_1, .null, .null, .null, .null, .null, .int 0, .null, .null, .null, .long 0, .null, .int 0, .int 0, .int 0, .int 0, .int 0, .int 0, .int 0, .null, .null])), (q_1, .inl (cA_2, 64, .inl (upd (upd (upd f_14 61 306) 62 307) 63 308))), (q_15, .inl (cA_16, 64, .inl (upd f_20 21 2156)))] := hD
  refine lv_dup hx hb d_mLines_init_581 rfl ?_
  refine lv_bipush (v := 22) hx hb d_mLines_init_582 (by decide) ?_
  refine lv_sipush (v := 2103) hx hb d_mLines_init_584 (by decide) ?_
  refine va_iast hx hb hK hP hD hS 2 1 rfl rfl (show ¬ ((22 : Int32) < 0 ∨ 64 ≤ (22 : Int32).toNatClampNeg) by decide) d_mLines_init_587 (fun H locs hP hD hS => ?_)
  rw [show (22 : Int32).toNatClampNeg = 22 by decide] at hP hD
  have hP : va_P (dC, dI) vcl [(h0, .inr (14, [.ref q_1, .null, .null, .null, .null, .null, .int 0, .null, .null, .null, .long 0, .null, .int 0, .int 0, .int 0, .int 0, .int 0, .int 0, .int 0, .null, .null])), (q_1, .inl (cA_2, 64, .inl (upd (upd (upd f_14 61 306) 62 307) 63 308))), (q_15, .inl (cA_16, 64, .inl (upd (upd f_20 21 2156) 22 2103)))] H := hP
  have hD : va_D A [(h0, .inr (14, [.ref q_1, .null, .null, .null, .null, .null, .int 0, .null, .null, .null, .long 0, .null, .int 0, .int 0, .int 0, .int 0, .int 0, .int 0, .int 0, .null, .null])), (q_1, .inl (cA_2, 64, .inl (upd (upd (upd f_14 61 306) 62 307) 63 308))), (q_15, .inl (cA_16, 64, .inl (upd (upd f_20 21 2156) 22 2103)))] := hD
  refine lv_dup hx hb d_mLines_init_588 rfl ?_
  refine lv_bipush (v := 23) hx hb d_mLines_init_589 (by decide) ?_
  refine lv_sipush (v := 2088) hx hb d_mLines_init_591 (by decide) ?_
  refine va_iast hx hb hK hP hD hS 2 1 rfl rfl (show ¬ ((23 : Int32) < 0 ∨ 64 ≤ (23 : Int32).toNatClampNeg) by decide) d_mLines_init_594 (fun H locs hP hD hS => ?_)
  rw [show (23 : Int32).toNatClampNeg = 23 by decide] at hP hD
  have hP : va_P (dC, dI) vcl [(h0, .inr (14, [.ref q_1, .null, .null, .null, .null, .null, .int 0, .null, .null, .null, .long 0, .null, .int 0, .int 0, .int 0, .int 0, .int 0, .int 0, .int 0, .null, .null])), (q_1, .inl (cA_2, 64, .inl (upd (upd (upd f_14 61 306) 62 307) 63 308))), (q_15, .inl (cA_16, 64, .inl (upd (upd (upd f_20 21 2156) 22 2103) 23 2088)))] H := hP
  have hD : va_D A [(h0, .inr (14, [.ref q_1, .null, .null, .null, .null, .null, .int 0, .null, .null, .null, .long 0, .null, .int 0, .int 0, .int 0, .int 0, .int 0, .int 0, .int 0, .null, .null])), (q_1, .inl (cA_2, 64, .inl (upd (upd (upd f_14 61 306) 62 307) 63 308))), (q_15, .inl (cA_16, 64, .inl (upd (upd (upd f_20 21 2156) 22 2103) 23 2088)))] := hD
  refine lv_dup hx hb d_mLines_init_595 rfl ?_
  refine lv_bipush (v := 24) hx hb d_mLines_init_596 (by decide) ?_
  refine lv_sipush (v := 2071) hx hb d_mLines_init_598 (by decide) ?_
  refine va_iast hx hb hK hP hD hS 2 1 rfl rfl (show ¬ ((24 : Int32) < 0 ∨ 64 ≤ (24 : Int32).toNatClampNeg) by decide) d_mLines_init_601 (fun H locs hP hD hS => ?_)
  rw [show (24 : Int32).toNatClampNeg = 24 by decide] at hP hD
  have hP : va_P (dC, dI) vcl [(h0, .inr (14, [.ref q_1, .null, .null, .null, .null, .null, .int 0, .null, .null, .null, .long 0, .null, .int 0, .int 0, .int 0, .int 0, .int 0, .int 0, .int 0, .null, .null])), (q_1, .inl (cA_2, 64, .inl (upd (upd (upd f_14 61 306) 62 307) 63 308))), (q_15, .inl (cA_16, 64, .inl (upd (upd (upd (upd f_20 21 2156) 22 2103) 23 2088) 24 2071)))] H := hP
  have hD : va_D A [(h0, .inr (14, [.ref q_1, .null, .null, .null, .null, .null, .int 0, .null, .null, .null, .long 0, .null, .int 0, .int 0, .int 0, .int 0, .int 0, .int 0, .int 0, .null, .null])), (q_1, .inl (cA_2, 64, .inl (upd (upd (upd f_14 61 306) 62 307) 63 308))), (q_15, .inl (cA_16, 64, .inl (upd (upd (upd (upd f_20 21 2156) 22 2103) 23 2088) 24 2071)))] := hD
  refine lv_dup hx hb d_mLines_init_602 rfl ?_
  refine lv_bipush (v := 25) hx hb d_mLines_init_603 (by decide) ?_
  refine lv_sipush (v := 2072) hx hb d_mLines_init_605 (by decide) ?_
  refine va_iast hx hb hK hP hD hS 2 1 rfl rfl (show ¬ ((25 : Int32) < 0 ∨ 64 ≤ (25 : Int32).toNatClampNeg) by decide) d_mLines_init_608 (fun H locs hP hD hS => ?_)
  rw [show (25 : Int32).toNatClampNeg = 25 by decide] at hP hD
  obtain ⟨f_21, ef_21⟩ : ∃ y : Nat → Int32, y = upd (upd (upd (upd (upd f_20 21 2156) 22 2103) 23 2088) 24 2071) 25 2072 := ⟨_, rfl⟩
  have hP : va_P (dC, dI) vcl [(h0, .inr (14, [.ref q_1, .null, .null, .null, .null, .null, .int 0, .null, .null, .null, .long 0, .null, .int 0, .int 0, .int 0, .int 0, .int 0, .int 0, .int 0, .null, .null])), (q_1, .inl (cA_2, 64, .inl (upd (upd (upd f_14 61 306) 62 307) 63 308))), (q_15, .inl (cA_16, 64, .inl (upd (upd (upd (upd (upd f_20 21 2156) 22 2103) 23 2088) 24 2071) 25 2072)))] H := hP
  have hD : va_D A [(h0, .inr (14, [.ref q_1, .null, .null, .null, .null, .null, .int 0, .null, .null, .null, .long 0, .null, .int 0, .int 0, .int 0, .int 0, .int 0, .int 0, .int 0, .null, .null])), (q_1, .inl (cA_2, 64, .inl (upd (upd (upd f_14 61 306) 62 307) 63 308))), (q_15, .inl (cA_16, 64, .inl (upd (upd (upd (upd (upd f_20 21 2156) 22 2103) 23 2088) 24 2071) 25 2072)))] := hD
  rw [← ef_21] at hP hD
  have hP : va_P (dC, dI) vcl [(h0, .inr (14, [.ref q_1, .null, .null, .null, .null, .null, .int 0, .null, .null, .null, .long 0, .null, .int 0, .int 0, .int 0, .int 0, .int 0, .int 0, .int 0, .null, .null])), (q_1, .inl (cA_2, 64, .inl (upd (upd (upd f_14 61 306) 62 307) 63 308))), (q_15, .inl (cA_16, 64, .inl f_21))] H := hP
  have hD : va_D A [(h0, .inr (14, [.ref q_1, .null, .null, .null, .null, .null, .int 0, .null, .null, .null, .long 0, .null, .int 0, .int 0, .int 0, .int 0, .int 0, .int 0, .int 0, .null, .null])), (q_1, .inl (cA_2, 64, .inl (upd (upd (upd f_14 61 306) 62 307) 63 308))), (q_15, .inl (cA_16, 64, .inl f_21))] := hD
  refine lv_dup hx hb d_mLines_init_609 rfl ?_
  refine lv_bipush (v := 26) hx hb d_mLines_init_610 (by decide) ?_
  refine lv_sipush (v := 4298) hx hb d_mLines_init_612 (by decide) ?_
  refine va_iast hx hb hK hP hD hS 2 1 rfl rfl (show ¬ ((26 : Int32) < 0 ∨ 64 ≤ (26 : Int32).toNatClampNeg) by decide) d_mLines_init_615 (fun H locs hP hD hS => ?_)
  rw [show (26 : Int32).toNatClampNeg = 26 by decide] at hP hD
  have hP : va_P (dC, dI) vcl [(h0, .inr (14, [.ref q_1, .null, .null, .null, .null, .null, .int 0, .null, .null, .null, .long 0, .null, .int 0, .int 0, .int 0, .int 0, .int 0, .int 0, .int 0, .null, .null])), (q_1, .inl (cA_2, 64, .inl (upd (upd (upd f_14 61 306) 62 307) 63 308))), (q_15, .inl (cA_16, 64, .inl (upd f_21 26 4298)))] H := hP
  have hD : va_D A [(h0, .inr (14, [.ref q_1, .null, .null, .null, .null, .null, .int 0, .null, .null, .null, .long 0, .null, .int 0, .int 0, .int 0, .int 0, .int 0, .int 0, .int 0, .null, .null])), (q_1, .inl (cA_2, 64, .inl (upd (upd (upd f_14 61 306) 62 307) 63 308))), (q_15, .inl (cA_16, 64, .inl (upd f_21 26 4298)))] := hD
  refine lv_dup hx hb d_mLines_init_616 rfl ?_
  refine lv_bipush (v := 27) hx hb d_mLines_init_617 (by decide) ?_
  refine lv_sipush (v := 4299) hx hb d_mLines_init_619 (by decide) ?_
  refine va_iast hx hb hK hP hD hS 2 1 rfl rfl (show ¬ ((27 : Int32) < 0 ∨ 64 ≤ (27 : Int32).toNatClampNeg) by decide) d_mLines_init_622 (fun H locs hP hD hS => ?_)
  rw [show (27 : Int32).toNatClampNeg = 27 by decide] at hP hD
  have hP : va_P (dC, dI) vcl [(h0, .inr (14, [.ref q_1, .null, .null, .null, .null, .null, .int 0, .null, .null, .null, .long 0, .null, .int 0, .int 0, .int 0, .int 0, .int 0, .int 0, .int 0, .null, .null])), (q_1, .inl (cA_2, 64, .inl (upd (upd (upd f_14 61 306) 62 307) 63 308))), (q_15, .inl (cA_16, 64, .inl (upd (upd f_21 26 4298) 27 4299)))] H := hP
  have hD : va_D A [(h0, .inr (14, [.ref q_1, .null, .null, .null, .null, .null, .int 0, .null, .null, .null, .long 0, .null, .int 0, .int 0, .int 0, .int 0, .int 0, .int 0, .int 0, .null, .null])), (q_1, .inl (cA_2, 64, .inl (upd (upd (upd f_14 61 306) 62 307) 63 308))), (q_15, .inl (cA_16, 64, .inl (upd (upd f_21 26 4298) 27 4299)))] := hD
  refine lv_dup hx hb d_mLines_init_623 rfl ?_
  refine lv_bipush (v := 28) hx hb d_mLines_init_624 (by decide) ?_
  refine lv_sipush (v := 4300) hx hb d_mLines_init_626 (by decide) ?_
  refine va_iast hx hb hK hP hD hS 2 1 rfl rfl (show ¬ ((28 : Int32) < 0 ∨ 64 ≤ (28 : Int32).toNatClampNeg) by decide) d_mLines_init_629 (fun H locs hP hD hS => ?_)
  rw [show (28 : Int32).toNatClampNeg = 28 by decide] at hP hD
  have hP : va_P (dC, dI) vcl [(h0, .inr (14, [.ref q_1, .null, .null, .null, .null, .null, .int 0, .null, .null, .null, .long 0, .null, .int 0, .int 0, .int 0, .int 0, .int 0, .int 0, .int 0, .null, .null])), (q_1, .inl (cA_2, 64, .inl (upd (upd (upd f_14 61 306) 62 307) 63 308))), (q_15, .inl (cA_16, 64, .inl (upd (upd (upd f_21 26 4298) 27 4299) 28 4300)))] H := hP
  have hD : va_D A [(h0, .inr (14, [.ref q_1, .null, .null, .null, .null, .null, .int 0, .null, .null, .null, .long 0, .null, .int 0, .int 0, .int 0, .int 0, .int 0, .int 0, .int 0, .null, .null])), (q_1, .inl (cA_2, 64, .inl (upd (upd (upd f_14 61 306) 62 307) 63 308))), (q_15, .inl (cA_16, 64, .inl (upd (upd (upd f_21 26 4298) 27 4299) 28 4300)))] := hD
  refine lv_dup hx hb d_mLines_init_630 rfl ?_
  refine lv_bipush (v := 29) hx hb d_mLines_init_631 (by decide) ?_
  refine lv_sipush (v := 4301) hx hb d_mLines_init_633 (by decide) ?_
  refine va_iast hx hb hK hP hD hS 2 1 rfl rfl (show ¬ ((29 : Int32) < 0 ∨ 64 ≤ (29 : Int32).toNatClampNeg) by decide) d_mLines_init_636 (fun H locs hP hD hS => ?_)
  rw [show (29 : Int32).toNatClampNeg = 29 by decide] at hP hD
  have hP : va_P (dC, dI) vcl [(h0, .inr (14, [.ref q_1, .null, .null, .null, .null, .null, .int 0, .null, .null, .null, .long 0, .null, .int 0, .int 0, .int 0, .int 0, .int 0, .int 0, .int 0, .null, .null])), (q_1, .inl (cA_2, 64, .inl (upd (upd (upd f_14 61 306) 62 307) 63 308))), (q_15, .inl (cA_16, 64, .inl (upd (upd (upd (upd f_21 26 4298) 27 4299) 28 4300) 29 4301)))] H := hP
  have hD : va_D A [(h0, .inr (14, [.ref q_1, .null, .null, .null, .null, .null, .int 0, .null, .null, .null, .long 0, .null, .int 0, .int 0, .int 0, .int 0, .int 0, .int 0, .int 0, .null, .null])), (q_1, .inl (cA_2, 64, .inl (upd (upd (upd f_14 61 306) 62 307) 63 308))), (q_15, .inl (cA_16, 64, .inl (upd (upd (upd (upd f_21 26 4298) 27 4299) 28 4300) 29 4301)))] := hD
  refine lv_dup hx hb d_mLines_init_637 rfl ?_
  refine lv_bipush (v := 30) hx hb d_mLines_init_638 (by decide) ?_
  refine lv_sipush (v := 4200) hx hb d_mLines_init_640 (by decide) ?_
  refine va_iast hx hb hK hP hD hS 2 1 rfl rfl (show ¬ ((30 : Int32) < 0 ∨ 64 ≤ (30 : Int32).toNatClampNeg) by decide) d_mLines_init_643 (fun H locs hP hD hS => ?_)
  rw [show (30 : Int32).toNatClampNeg = 30 by decide] at hP hD
  obtain ⟨f_22, ef_22⟩ : ∃ y : Nat → Int32, y = upd (upd (upd (upd (upd f_21 26 4298) 27 4299) 28 4300) 29 4301) 30 4200 := ⟨_, rfl⟩
  have hP : va_P (dC, dI) vcl [(h0, .inr (14, [.ref q_1, .null, .null, .null, .null, .null, .int 0, .null, .null, .null, .long 0, .null, .int 0, .int 0, .int 0, .int 0, .int 0, .int 0, .int 0, .null, .null])), (q_1, .inl (cA_2, 64, .inl (upd (upd (upd f_14 61 306) 62 307) 63 308))), (q_15, .inl (cA_16, 64, .inl (upd (upd (upd (upd (upd f_21 26 4298) 27 4299) 28 4300) 29 4301) 30 4200)))] H := hP
  have hD : va_D A [(h0, .inr (14, [.ref q_1, .null, .null, .null, .null, .null, .int 0, .null, .null, .null, .long 0, .null, .int 0, .int 0, .int 0, .int 0, .int 0, .int 0, .int 0, .null, .null])), (q_1, .inl (cA_2, 64, .inl (upd (upd (upd f_14 61 306) 62 307) 63 308))), (q_15, .inl (cA_16, 64, .inl (upd (upd (upd (upd (upd f_21 26 4298) 27 4299) 28 4300) 29 4301) 30 4200)))] := hD
  rw [← ef_22] at hP hD
  have hP : va_P (dC, dI) vcl [(h0, .inr (14, [.ref q_1, .null, .null, .null, .null, .null, .int 0, .null, .null, .null, .long 0, .null, .int 0, .int 0, .int 0, .int 0, .int 0, .int 0, .int 0, .null, .null])), (q_1, .inl (cA_2, 64, .inl (upd (upd (upd f_14 61 306) 62 307) 63 308))), (q_15, .inl (cA_16, 64, .inl f_22))] H := hP
  have hD : va_D A [(h0, .inr (14, [.ref q_1, .null, .null, .null, .null, .null, .int 0, .null, .null, .null, .long 0, .null, .int 0, .int 0, .int 0, .int 0, .int 0, .int 0, .int 0, .null, .null])), (q_1, .inl (cA_2, 64, .inl (upd (upd (upd f_14 61 306) 62 307) 63 308))), (q_15, .inl (cA_16, 64, .inl f_22))] := hD
  refine lv_dup hx hb d_mLines_init_644 rfl ?_
  refine lv_bipush (v := 31) hx hb d_mLines_init_645 (by decide) ?_
  refine lv_sipush (v := 4201) hx hb d_mLines_init_647 (by decide) ?_
  refine va_iast hx hb hK hP hD hS 2 1 rfl rfl (show ¬ ((31 : Int32) < 0 ∨ 64 ≤ (31 : Int32).toNatClampNeg) by decide) d_mLines_init_650 (fun H locs hP hD hS => ?_)
  rw [show (31 : Int32).toNatClampNeg = 31 by decide] at hP hD
  have hP : va_P (dC, dI) vcl [(h0, .inr (14, [.ref q_1, .null, .null, .null, .null, .null, .int 0, .null, .null, .null, .long 0, .null, .int 0, .int 0, .int 0, .int 0, .int 0, .int 0, .int 0, .null, .null])), (q_1, .inl (cA_2, 64, .inl (upd (upd (upd f_14 61 306) 62 307) 63 308))), (q_15, .inl (cA_16, 64, .inl (upd f_22 31 4201)))] H := hP
  have hD : va_D A [(h0, .inr (14, [.ref q_1, .null, .null, .null, .null, .null, .int 0, .null, .null, .null, .long 0, .null, .int 0, .int 0, .int 0, .int 0, .int 0, .int 0, .int 0, .null, .null])), (q_1, .inl (cA_2, 64, .inl (upd (upd (upd f_14 61 306) 62 307) 63 308))), (q_15, .inl (cA_16, 64, .inl (upd f_22 31 4201)))] := hD
  refine lv_dup hx hb d_mLines_init_651 rfl ?_
  refine lv_bipush (v := 32) hx hb d_mLines_init_652 (by decide) ?_
  refine lv_sipush (v := 4202) hx hb d_mLines_init_654 (by decide) ?_
  refine va_iast hx hb hK hP hD hS 2 1 rfl rfl (show ¬ ((32 : Int32) < 0 ∨ 64 ≤ (32 : Int32).toNatClampNeg) by decide) d_mLines_init_657 (fun H locs hP hD hS => ?_)
  rw [show (32 : Int32).toNatClampNeg = 32 by decide] at hP hD
  have hP : va_P (dC, dI) vcl [(h0, .inr (14, [.ref q_1, .null, .null, .null, .null, .null, .int 0, .null, .null, .null, .long 0, .null, .int 0, .int 0, .int 0, .int 0, .int 0, .int 0, .int 0, .null, .null])), (q_1, .inl (cA_2, 64, .inl (upd (upd (upd f_14 61 306) 62 307) 63 308))), (q_15, .inl (cA_16, 64, .inl (upd (upd f_22 31 4201) 32 4202)))] H := hP
  have hD : va_D A [(h0, .inr (14, [.ref q_1, .null, .null, .null, .null, .null, .int 0, .null, .null, .null, .long 0, .null, .int 0, .int 0, .int 0, .int 0, .int 0, .int 0, .int 0, .null, .null])), (q_1, .inl (cA_2, 64, .inl (upd (upd (upd f_14 61 306) 62 307) 63 308))), (q_15, .inl (cA_16, 64, .inl (upd (upd f_22 31 4201) 32 4202)))] := hD
  refine lv_dup hx hb d_mLines_init_658 rfl ?_
  refine lv_bipush (v := 33) hx hb d_mLines_init_659 (by decide) ?_
  refine lv_sipush (v := 4203) hx hb d_mLines_init_661 (by decide) ?_
  refine va_iast hx hb hK hP hD hS 2 1 rfl rfl (show ¬ ((33 : Int32) < 0 ∨ 64 ≤ (33 : Int32).toNatClampNeg) by decide) d_mLines_init_664 (fun H locs hP hD hS => ?_)
  rw [show (33 : Int32).toNatClampNeg = 33 by decide] at hP hD
  have hP : va_P (dC, dI) vcl [(h0, .inr (14, [.ref q_1, .null, .null, .null, .null, .null, .int 0, .null, .null, .null, .long 0, .null, .int 0, .int 0, .int 0, .int 0, .int 0, .int 0, .int 0, .null, .null])), (q_1, .inl (cA_2, 64, .inl (upd (upd (upd f_14 61 306) 62 307) 63 308))), (q_15, .inl (cA_16, 64, .inl (upd (upd (upd f_22 31 4201) 32 4202) 33 4203)))] H := hP
  have hD : va_D A [(h0, .inr (14, [.ref q_1, .null, .null, .null, .null, .null, .int 0, .null, .null, .null, .long 0, .null, .int 0, .int 0, .int 0, .int 0, .int 0, .int 0, .int 0, .null, .null])), (q_1, .inl (cA_2, 64, .inl (upd (upd (upd f_14 61 306) 62 307) 63 308))), (q_15, .inl (cA_16, 64, .inl (upd (upd (upd f_22 31 4201) 32 4202) 33 4203)))] := hD
  refine lv_dup hx hb d_mLines_init_665 rfl ?_
  refine lv_bipush (v := 34) hx hb d_mLines_init_666 (by decide) ?_
  refine lv_sipush (v := 4306) hx hb d_mLines_init_668 (by decide) ?_
  refine va_iast hx hb hK hP hD hS 2 1 rfl rfl (show ¬ ((34 : Int32) < 0 ∨ 64 ≤ (34 : Int32).toNatClampNeg) by decide) d_mLines_init_671 (fun H locs hP hD hS => ?_)
  rw [show (34 : Int32).toNatClampNeg = 34 by decide] at hP hD
  have hP : va_P (dC, dI) vcl [(h0, .inr (14, [.ref q_1, .null, .null, .null, .null, .null, .int 0, .null, .null, .null, .long 0, .null, .int 0, .int 0, .int 0, .int 0, .int 0, .int 0, .int 0, .null, .null])), (q_1, .inl (cA_2, 64, .inl (upd (upd (upd f_14 61 306) 62 307) 63 308))), (q_15, .inl (cA_16, 64, .inl (upd (upd (upd (upd f_22 31 4201) 32 4202) 33 4203) 34 4306)))] H := hP
  have hD : va_D A [(h0, .inr (14, [.ref q_1, .null, .null, .null, .null, .null, .int 0, .null, .null, .null, .long 0, .null, .int 0, .int 0, .int 0, .int 0, .int 0, .int 0, .int 0, .null, .null])), (q_1, .inl (cA_2, 64, .inl (upd (upd (upd f_14 61 306) 62 307) 63 308))), (q_15, .inl (cA_16, 64, .inl (upd (upd (upd (upd f_22 31 4201) 32 4202) 33 4203) 34 4306)))] := hD
  refine lv_dup hx hb d_mLines_init_672 rfl ?_
  refine lv_bipush (v := 35) hx hb d_mLines_init_673 (by decide) ?_
  refine lv_sipush (v := 4307) hx hb d_mLines_init_675 (by decide) ?_
  refine va_iast hx hb hK hP hD hS 2 1 rfl rfl (show ¬ ((35 : Int32) < 0 ∨ 64 ≤ (35 : Int32).toNatClampNeg) by decide) d_mLines_init_678 (fun H locs hP hD hS => ?_)
  rw [show (35 : Int32).toNatClampNeg = 35 by decide] at hP hD
  obtain ⟨f_23, ef_23⟩ : ∃ y : Nat → Int32, y = upd (upd (upd (upd (upd f_22 31 4201) 32 4202) 33 4203) 34 4306) 35 4307 := ⟨_, rfl⟩
  have hP : va_P (dC, dI) vcl [(h0, .inr (14, [.ref q_1, .null, .null, .null, .null, .null, .int 0, .null, .null, .null, .long 0, .null, .int 0, .int 0, .int 0, .int 0, .int 0, .int 0, .int 0, .null, .null])), (q_1, .inl (cA_2, 64, .inl (upd (upd (upd f_14 61 306) 62 307) 63 308))), (q_15, .inl (cA_16, 64, .inl (upd (upd (upd (upd (upd f_22 31 4201) 32 4202) 33 4203) 34 4306) 35 4307)))] H := hP
  have hD : va_D A [(h0, .inr (14, [.ref q_1, .null, .null, .null, .null, .null, .int 0, .null, .null, .null, .long 0, .null, .int 0, .int 0, .int 0, .int 0, .int 0, .int 0, .int 0, .null, .null])), (q_1, .inl (cA_2, 64, .inl (upd (upd (upd f_14 61 306) 62 307) 63 308))), (q_15, .inl (cA_16, 64, .inl (upd (upd (upd (upd (upd f_22 31 4201) 32 4202) 33 4203) 34 4306) 35 4307)))] := hD
  rw [← ef_23] at hP hD
  have hP : va_P (dC, dI) vcl [(h0, .inr (14, [.ref q_1, .null, .null, .null, .null, .null, .int 0, .null, .null, .null, .long 0, .null, .int 0, .int 0, .int 0, .int 0, .int 0, .int 0, .int 0, .null, .null])), (q_1, .inl (cA_2, 64, .inl (upd (upd (upd f_14 61 306) 62 307) 63 308))), (q_15, .inl (cA_16, 64, .inl f_23))] H := hP
  have hD : va_D A [(h0, .inr (14, [.ref q_1, .null, .null, .null, .null, .null, .int 0, .null, .null, .null, .long 0, .null, .int 0, .int 0, .int 0, .int 0, .int 0, .int 0, .int 0, .null, .null])), (q_1, .inl (cA_2, 64, .inl (upd (upd (upd f_14 61 306) 62 307) 63 308))), (q_15, .inl (cA_16, 64, .inl f_23))] := hD
  refine lv_dup hx hb d_mLines_init_679 rfl ?_
  refine lv_bipush (v := 36) hx hb d_mLines_init_680 (by decide) ?_
  refine lv_sipush (v := 4308) hx hb d_mLines_init_682 (by decide) ?_
  refine va_iast hx hb hK hP hD hS 2 1 rfl rfl (show ¬ ((36 : Int32) < 0 ∨ 64 ≤ (36 : Int32).toNatClampNeg) by decide) d_mLines_init_685 (fun H locs hP hD hS => ?_)
  rw [show (36 : Int32).toNatClampNeg = 36 by decide] at hP hD
  have hP : va_P (dC, dI) vcl [(h0, .inr (14, [.ref q_1, .null, .null, .null, .null, .null, .int 0, .null, .null, .null, .long 0, .null, .int 0, .int 0, .int 0, .int 0, .int 0, .int 0, .int 0, .null, .null])), (q_1, .inl (cA_2, 64, .inl (upd (upd (upd f_14 61 306) 62 307) 63 308))), (q_15, .inl (cA_16, 64, .inl (upd f_23 36 4308)))] H := hP
  have hD : va_D A [(h0, .inr (14, [.ref q_1, .null, .null, .null, .null, .null, .int 0, .null, .null, .null, .long 0, .null, .int 0, .int 0, .int 0, .int 0, .int 0, .int 0, .int 0, .null, .null])), (q_1, .inl (cA_2, 64, .inl (upd (upd (upd f_14 61 306) 62 307) 63 308))), (q_15, .inl (cA_16, 64, .inl (upd f_23 36 4308)))] := hD
  refine lv_dup hx hb d_mLines_init_686 rfl ?_
  refine lv_bipush (v := 37) hx hb d_mLines_init_687 (by decide) ?_
  refine lv_sipush (v := 4309) hx hb d_mLines_init_689 (by decide) ?_
  refine va_iast hx hb hK hP hD hS 2 1 rfl rfl (show ¬ ((37 : Int32) < 0 ∨ 64 ≤ (37 : Int32).toNatClampNeg) by decide) d_mLines_init_692 (fun H locs hP hD hS => ?_)
  rw [show (37 : Int32).toNatClampNeg = 37 by decide] at hP hD
  have hP : va_P (dC, dI) vcl [(h0, .inr (14, [.ref q_1, .null, .null, .null, .null, .null, .int 0, .null, .null, .null, .long 0, .null, .int 0, .int 0, .int 0, .int 0, .int 0, .int 0, .int 0, .null, .null])), (q_1, .inl (cA_2, 64, .inl (upd (upd (upd f_14 61 306) 62 307) 63 308))), (q_15, .inl (cA_16, 64, .inl (upd (upd f_23 36 4308) 37 4309)))] H := hP
  have hD : va_D A [(h0, .inr (14, [.ref q_1, .null, .null, .null, .null, .null, .int 0, .null, .null, .null, .long 0, .null, .int 0, .int 0, .int 0, .int 0, .int 0, .int 0, .int 0, .null, .null])), (q_1, .inl (cA_2, 64, .inl (upd (upd (upd f_14 61 306) 62 307) 63 308))), (q_15, .inl (cA_16, 64, .inl (upd (upd f_23 36 4308) 37 4309)))] := hD
  refine lv_dup hx hb d_mLines_init_693 rfl ?_
  refine lv_bipush (v := 38) hx hb d_mLines_init_694 (by decide) ?_
  refine lv_sipush (v := 4310) hx hb d_mLines_init_696 (by decide) ?_
  refine va_iast hx hb hK hP hD hS 2 1 rfl rfl (show ¬ ((38 : Int32) < 0 ∨ 64 ≤ (38 : Int32).toNatClampNeg) by decide) d_mLines_init_699 (fun H locs hP hD hS => ?_)
  rw [show (38 : Int32).toNatClampNeg = 38 by decide] at hP hD
  have hP : va_P (dC, dI) vcl [(h0, .inr (14, [.ref q_1, .null, .null, .null, .null, .null, .int 0, .null, .null, .null, .long 0, .null, .int 0, .int 0, .int 0, .int 0, .int 0, .int 0, .int 0, .null, .null])), (q_1, .inl (cA_2, 64, .inl (upd (upd (upd f_14 61 306) 62 307) 63 308))), (q_15, .inl (cA_16, 64, .inl (upd (upd (upd f_23 36 4308) 37 4309) 38 4310)))] H := hP
  have hD : va_D A [(h0, .inr (14, [.ref q_1, .null, .null, .null, .null, .null, .int 0, .null, .null, .null, .long 0, .null, .int 0, .int 0, .int 0, .int 0, .int 0, .int 0, .int 0, .null, .null])), (q_1, .inl (cA_2, 64, .inl (upd (upd (upd f_14 61 306) 62 307) 63 308))), (q_15, .inl (cA_16, 64, .inl (upd (upd (upd f_23 36 4308) 37 4309) 38 4310)))] := hD
  refine lv_dup hx hb d_mLines_init_700 rfl ?_
  refine lv_bipush (v := 39) hx hb d_mLines_init_701 (by decide) ?_
  refine lv_sipush (v := 4311) hx hb d_mLines_init_703 (by decide) ?_
  refine va_iast hx hb hK hP hD hS 2 1 rfl rfl (show ¬ ((39 : Int32) < 0 ∨ 64 ≤ (39 : Int32).toNatClampNeg) by decide) d_mLines_init_706 (fun H locs hP hD hS => ?_)
  rw [show (39 : Int32).toNatClampNeg = 39 by decide] at hP hD
  have hP : va_P (dC, dI) vcl [(h0, .inr (14, [.ref q_1, .null, .null, .null, .null, .null, .int 0, .null, .null, .null, .long 0, .null, .int 0, .int 0, .int 0, .int 0, .int 0, .int 0, .int 0, .null, .null])), (q_1, .inl (cA_2, 64, .inl (upd (upd (upd f_14 61 306) 62 307) 63 308))), (q_15, .inl (cA_16, 64, .inl (upd (upd (upd (upd f_23 36 4308) 37 4309) 38 4310) 39 4311)))] H := hP
  have hD : va_D A [(h0, .inr (14, [.ref q_1, .null, .null, .null, .null, .null, .int 0, .null, .null, .null, .long 0, .null, .int 0, .int 0, .int 0, .int 0, .int 0, .int 0, .int 0, .null, .null])), (q_1, .inl (cA_2, 64, .inl (upd (upd (upd f_14 61 306) 62 307) 63 308))), (q_15, .inl (cA_16, 64, .inl (upd (upd (upd (upd f_23 36 4308) 37 4309) 38 4310) 39 4311)))] := hD
  refine lv_dup hx hb d_mLines_init_707 rfl ?_
  refine lv_bipush (v := 40) hx hb d_mLines_init_708 (by decide) ?_
  refine lv_sipush (v := 4204) hx hb d_mLines_init_710 (by decide) ?_
  refine va_iast hx hb hK hP hD hS 2 1 rfl rfl (show ¬ ((40 : Int32) < 0 ∨ 64 ≤ (40 : Int32).toNatClampNeg) by decide) d_mLines_init_713 (fun H locs hP hD hS => ?_)
  rw [show (40 : Int32).toNatClampNeg = 40 by decide] at hP hD
  obtain ⟨f_24, ef_24⟩ : ∃ y : Nat → Int32, y = upd (upd (upd (upd (upd f_23 36 4308) 37 4309) 38 4310) 39 4311) 40 4204 := ⟨_, rfl⟩
  have hP : va_P (dC, dI) vcl [(h0, .inr (14, [.ref q_1, .null, .null, .null, .null, .null, .int 0, .null, .null, .null, .long 0, .null, .int 0, .int 0, .int 0, .int 0, .int 0, .int 0, .int 0, .null, .null])), (q_1, .inl (cA_2, 64, .inl (upd (upd (upd f_14 61 306) 62 307) 63 308))), (q_15, .inl (cA_16, 64, .inl (upd (upd (upd (upd (upd f_23 36 4308) 37 4309) 38 4310) 39 4311) 40 4204)))] H := hP
  have hD : va_D A [(h0, .inr (14, [.ref q_1, .null, .null, .null, .null, .null, .int 0, .null, .null, .null, .long 0, .null, .int 0, .int 0, .int 0, .int 0, .int 0, .int 0, .int 0, .null, .null])), (q_1, .inl (cA_2, 64, .inl (upd (upd (upd f_14 61 306) 62 307) 63 308))), (q_15, .inl (cA_16, 64, .inl (upd (upd (upd (upd (upd f_23 36 4308) 37 4309) 38 4310) 39 4311) 40 4204)))] := hD
  rw [← ef_24] at hP hD
  have hP : va_P (dC, dI) vcl [(h0, .inr (14, [.ref q_1, .null, .null, .null, .null, .null, .int 0, .null, .null, .null, .long 0, .null, .int 0, .int 0, .int 0, .int 0, .int 0, .int 0, .int 0, .null, .null])), (q_1, .inl (cA_2, 64, .inl (upd (upd (upd f_14 61 306) 62 307) 63 308))), (q_15, .inl (cA_16, 64, .inl f_24))] H := hP
  have hD : va_D A [(h0, .inr (14, [.ref q_1, .null, .null, .null, .null, .null, .int 0, .null, .null, .null, .long 0, .null, .int 0, .int 0, .int 0, .int 0, .int 0, .int 0, .int 0, .null, .null])), (q_1, .inl (cA_2, 64, .inl (upd (upd (upd f_14 61 306) 62 307) 63 308))), (q_15, .inl (cA_16, 64, .inl f_24))] := hD
  refine lv_dup hx hb d_mLines_init_714 rfl ?_
  refine lv_bipush (v := 41) hx hb d_mLines_init_715 (by decide) ?_
  refine lv_sipush (v := 4205) hx hb d_mLines_init_717 (by decide) ?_
  refine va_iast hx hb hK hP hD hS 2 1 rfl rfl (show ¬ ((41 : Int32) < 0 ∨ 64 ≤ (41 : Int32).toNatClampNeg) by decide) d_mLines_init_720 (fun H locs hP hD hS => ?_)
  rw [show (41 : Int32).toNatClampNeg = 41 by decide] at hP hD
  have hP : va_P (dC, dI) vcl [(h0, .inr (14, [.ref q_1, .null, .null, .null, .null, .null, .int 0, .null, .null, .null, .long 0, .null, .int 0, .int 0, .int 0, .int 0, .int 0, .int 0, .int 0, .null, .null])), (q_1, .inl (cA_2, 64, .inl (upd (upd (upd f_14 61 306) 62 307) 63 308))), (q_15, .inl (cA_16, 64, .inl (upd f_24 41 4205)))] H := hP
  have hD : va_D A [(h0, .inr (14, [.ref q_1, .null, .null, .null, .null, .null, .int 0, .null, .null, .null, .long 0, .null, .int 0, .int 0, .int 0, .int 0, .int 0, .int 0, .int 0, .null, .null])), (q_1, .inl (cA_2, 64, .inl (upd (upd (upd f_14 61 306) 62 307) 63 308))), (q_15, .inl (cA_16, 64, .inl (upd f_24 41 4205)))] := hD
  refine lv_dup hx hb d_mLines_init_721 rfl ?_
  refine lv_bipush (v := 42) hx hb d_mLines_init_722 (by decide) ?_
  refine lv_sipush (v := 4314) hx hb d_mLines_init_724 (by decide) ?_
  refine va_iast hx hb hK hP hD hS 2 1 rfl rfl (show ¬ ((42 : Int32) < 0 ∨ 64 ≤ (42 : Int32).toNatClampNeg) by decide) d_mLines_init_727 (fun H locs hP hD hS => ?_)
  rw [show (42 : Int32).toNatClampNeg = 42 by decide] at hP hD
  have hP : va_P (dC, dI) vcl [(h0, .inr (14, [.ref q_1, .null, .null, .null, .null, .null, .int 0, .null, .null, .null, .long 0, .null, .int 0, .int 0, .int 0, .int 0, .int 0, .int 0, .int 0, .null, .null])), (q_1, .inl (cA_2, 64, .inl (upd (upd (upd f_14 61 306) 62 307) 63 308))), (q_15, .inl (cA_16, 64, .inl (upd (upd f_24 41 4205) 42 4314)))] H := hP
  have hD : va_D A [(h0, .inr (14, [.ref q_1, .null, .null, .null, .null, .null, .int 0, .null, .null, .null, .long 0, .null, .int 0, .int 0, .int 0, .int 0, .int 0, .int 0, .int 0, .null, .null])), (q_1, .inl (cA_2, 64, .inl (upd (upd (upd f_14 61 306) 62 307) 63 308))), (q_15, .inl (cA_16, 64, .inl (upd (upd f_24 41 4205) 42 4314)))] := hD
  refine lv_dup hx hb d_mLines_init_728 rfl ?_
  refine lv_bipush (v := 43) hx hb d_mLines_init_729 (by decide) ?_
  refine lv_sipush (v := 4315) hx hb d_mLines_init_731 (by decide) ?_
  refine va_iast hx hb hK hP hD hS 2 1 rfl rfl (show ¬ ((43 : Int32) < 0 ∨ 64 ≤ (43 : Int32).toNatClampNeg) by decide) d_mLines_init_734 (fun H locs hP hD hS => ?_)
  rw [show (43 : Int32).toNatClampNeg = 43 by decide] at hP hD
  have hP : va_P (dC, dI) vcl [(h0, .inr (14, [.ref q_1, .null, .null, .null, .null, .null, .int 0, .null, .null, .null, .long 0, .null, .int 0, .int 0, .int 0, .int 0, .int 0, .int 0, .int 0, .null, .null])), (q_1, .inl (cA_2, 64, .inl (upd (upd (upd f_14 61 306) 62 307) 63 308))), (q_15, .inl (cA_16, 64, .inl (upd (upd (upd f_24 41 4205) 42 4314) 43 4315)))] H := hP
  have hD : va_D A [(h0, .inr (14, [.ref q_1, .null, .null, .null, .null, .null, .int 0, .null, .null, .null, .long 0, .null, .int 0, .int 0, .int 0, .int 0, .int 0, .int 0, .int 0, .null, .null])), (q_1, .inl (cA_2, 64, .inl (upd (upd (upd f_14 61 306) 62 307) 63 308))), (q_15, .inl (cA_16, 64, .inl (upd (upd (upd f_24 41 4205) 42 4314) 43 4315)))] := hD
  refine lv_dup hx hb d_mLines_init_735 rfl ?_
  refine lv_bipush (v := 44) hx hb d_mLines_init_736 (by decide) ?_
  refine lv_sipush (v := 4180) hx hb d_mLines_init_738 (by decide) ?_
  refine va_iast hx hb hK hP hD hS 2 1 rfl rfl (show ¬ ((44 : Int32) < 0 ∨ 64 ≤ (44 : Int32).toNatClampNeg) by decide) d_mLines_init_741 (fun H locs hP hD hS => ?_)
  rw [show (44 : Int32).toNatClampNeg = 44 by decide] at hP hD
  have hP : va_P (dC, dI) vcl [(h0, .inr (14, [.ref q_1, .null, .null, .null, .null, .null, .int 0, .null, .null, .null, .long 0, .null, .int 0, .int 0, .int 0, .int 0, .int 0, .int 0, .int 0, .null, .null])), (q_1, .inl (cA_2, 64, .inl (upd (upd (upd f_14 61 306) 62 307) 63 308))), (q_15, .inl (cA_16, 64, .inl (upd (upd (upd (upd f_24 41 4205) 42 4314) 43 4315) 44 4180)))] H := hP
  have hD : va_D A [(h0, .inr (14, [.ref q_1, .null, .null, .null, .null, .null, .int 0, .null, .null, .null, .long 0, .null, .int 0, .int 0, .int 0, .int 0, .int 0, .int 0, .int 0, .null, .null])), (q_1, .inl (cA_2, 64, .inl (upd (upd (upd f_14 61 306) 62 307) 63 308))), (q_15, .inl (cA_16, 64, .inl (upd (upd (upd (upd f_24 41 4205) 42 4314) 43 4315) 44 4180)))] := hD
  refine lv_dup hx hb d_mLines_init_742 rfl ?_
  refine lv_bipush (v := 45) hx hb d_mLines_init_743 (by decide) ?_
  refine lv_sipush (v := 4181) hx hb d_mLines_init_745 (by decide) ?_
  refine va_iast hx hb hK hP hD hS 2 1 rfl rfl (show ¬ ((45 : Int32) < 0 ∨ 64 ≤ (45 : Int32).toNatClampNeg) by decide) d_mLines_init_748 (fun H locs hP hD hS => ?_)
  rw [show (45 : Int32).toNatClampNeg = 45 by decide] at hP hD
  obtain ⟨f_25, ef_25⟩ : ∃ y : Nat → Int32, y = upd (upd (upd (upd (upd f_24 41 4205) 42 4314) 43 4315) 44 4180) 45 4181 := ⟨_, rfl⟩
  have hP : va_P (dC, dI) vcl [(h0, .inr (14, [.ref q_1, .null, .null, .null, .null, .null, .int 0, .null, .null, .null, .long 0, .null, .int 0, .int 0, .int 0, .int 0, .int 0, .int 0, .int 0, .null, .null])), (q_1, .inl (cA_2, 64, .inl (upd (upd (upd f_14 61 306) 62 307) 63 308))), (q_15, .inl (cA_16, 64, .inl (upd (upd (upd (upd (upd f_24 41 4205) 42 4314) 43 4315) 44 4180) 45 4181)))] H := hP
  have hD : va_D A [(h0, .inr (14, [.ref q_1, .null, .null, .null, .null, .null, .int 0, .null, .null, .null, .long 0, .null, .int 0, .int 0, .int 0, .int 0, .int 0, .int 0, .int 0, .null, .null])), (q_1, .inl (cA_2, 64, .inl (upd (upd (upd f_14 61 306) 62 307) 63 308))), (q_15, .inl (cA_16, 64, .inl (upd (upd (upd (upd (upd f_24 41 4205) 42 4314) 43 4315) 44 4180) 45 4181)))] := hD
  rw [← ef_25] at hP hD
  have hP : va_P (dC, dI) vcl [(h0, .inr (14, [.ref q_1, .null, .null, .null, .null, .null, .int 0, .null, .null, .null, .long 0, .null, .int 0, .int 0, .int 0, .int 0, .int 0, .int 0, .int 0, .null, .null])), (q_1, .inl (cA_2, 64, .inl (upd (upd (upd f_14 61 306) 62 307) 63 308))), (q_15, .inl (cA_16, 64, .inl f_25))] H := hP
  have hD : va_D A [(h0, .inr (14, [.ref q_1, .null, .null, .null, .null, .null, .int 0, .null, .null, .null, .long 0, .null, .int 0, .int 0, .int 0, .int 0, .int 0, .int 0, .int 0, .null, .null])), (q_1, .inl (cA_2, 64, .inl (upd (upd (upd f_14 61 306) 62 307) 63 308))), (q_15, .inl (cA_16, 64, .inl f_25))] := hD
  refine lv_dup hx hb d_mLines_init_749 rfl ?_
  refine lv_bipush (v := 46) hx hb d_mLines_init_750 (by decide) ?_
  refine lv_sipush (v := 4182) hx hb d_mLines_init_752 (by decide) ?_
  refine va_iast hx hb hK hP hD hS 2 1 rfl rfl (show ¬ ((46 : Int32) < 0 ∨ 64 ≤ (46 : Int32).toNatClampNeg) by decide) d_mLines_init_755 (fun H locs hP hD hS => ?_)
  rw [show (46 : Int32).toNatClampNeg = 46 by decide] at hP hD
  have hP : va_P (dC, dI) vcl [(h0, .inr (14, [.ref q_1, .null, .null, .null, .null, .null, .int 0, .null, .null, .null, .long 0, .null, .int 0, .int 0, .int 0, .int 0, .int 0, .int 0, .int 0, .null, .null])), (q_1, .inl (cA_2, 64, .inl (upd (upd (upd f_14 61 306) 62 307) 63 308))), (q_15, .inl (cA_16, 64, .inl (upd f_25 46 4182)))] H := hP
  have hD : va_D A [(h0, .inr (14, [.ref q_1, .null, .null, .null, .null, .null, .int 0, .null, .null, .null, .long 0, .null, .int 0, .int 0, .int 0, .int 0, .int 0, .int 0, .int 0, .null, .null])), (q_1, .inl (cA_2, 64, .inl (upd (upd (upd f_14 61 306) 62 307) 63 308))), (q_15, .inl (cA_16, 64, .inl (upd f_25 46 4182)))] := hD
  refine lv_dup hx hb d_mLines_init_756 rfl ?_
  refine lv_bipush (v := 47) hx hb d_mLines_init_757 (by decide) ?_
  refine lv_sipush (v := 4183) hx hb d_mLines_init_759 (by decide) ?_
  refine va_iast hx hb hK hP hD hS 2 1 rfl rfl (show ¬ ((47 : Int32) < 0 ∨ 64 ≤ (47 : Int32).toNatClampNeg) by decide) d_mLines_init_762 (fun H locs hP hD hS => ?_)
  rw [show (47 : Int32).toNatClampNeg = 47 by decide] at hP hD
  have hP : va_P (dC, dI) vcl [(h0, .inr (14, [.ref q_1, .null, .null, .null, .null, .null, .int 0, .null, .null, .null, .long 0, .null, .int 0, .int 0, .int 0, .int 0, .int 0, .int 0, .int 0, .null, .null])), (q_1, .inl (cA_2, 64, .inl (upd (upd (upd f_14 61 306) 62 307) 63 308))), (q_15, .inl (cA_16, 64, .inl (upd (upd f_25 46 4182) 47 4183)))] H := hP
  have hD : va_D A [(h0, .inr (14, [.ref q_1, .null, .null, .null, .null, .null, .int 0, .null, .null, .null, .long 0, .null, .int 0, .int 0, .int 0, .int 0, .int 0, .int 0, .int 0, .null, .null])), (q_1, .inl (cA_2, 64, .inl (upd (upd (upd f_14 61 306) 62 307) 63 308))), (q_15, .inl (cA_16, 64, .inl (upd (upd f_25 46 4182) 47 4183)))] := hD
  refine lv_dup hx hb d_mLines_init_763 rfl ?_
  refine lv_bipush (v := 48) hx hb d_mLines_init_764 (by decide) ?_
  refine lv_sipush (v := 4196) hx hb d_mLines_init_766 (by decide) ?_
  refine va_iast hx hb hK hP hD hS 2 1 rfl rfl (show ¬ ((48 : Int32) < 0 ∨ 64 ≤ (48 : Int32).toNatClampNeg) by decide) d_mLines_init_769 (fun H locs hP hD hS => ?_)
  rw [show (48 : Int32).toNatClampNeg = 48 by decide] at hP hD
  have hP : va_P (dC, dI) vcl [(h0, .inr (14, [.ref q_1, .null, .null, .null, .null, .null, .int 0, .null, .null, .null, .long 0, .null, .int 0, .int 0, .int 0, .int 0, .int 0, .int 0, .int 0, .null, .null])), (q_1, .inl (cA_2, 64, .inl (upd (upd (upd f_14 61 306) 62 307) 63 308))), (q_15, .inl (cA_16, 64, .inl (upd (upd (upd f_25 46 4182) 47 4183) 48 4196)))] H := hP
  have hD : va_D A [(h0, .inr (14, [.ref q_1, .null, .null, .null, .null, .null, .int 0, .null, .null, .null, .long 0, .null, .int 0, .int 0, .int 0, .int 0, .int 0, .int 0, .int 0, .null, .null])), (q_1, .inl (cA_2, 64, .inl (upd (upd (upd f_14 61 306) 62 307) 63 308))), (q_15, .inl (cA_16, 64, .inl (upd (upd (upd f_25 46 4182) 47 4183) 48 4196)))] := hD
  refine lv_dup hx hb d_mLines_init_770 rfl ?_
  refine lv_bipush (v := 49) hx hb d_mLines_init_771 (by decide) ?_
  refine lv_sipush (v := 4197) hx hb d_mLines_init_773 (by decide) ?_
  refine va_iast hx hb hK hP hD hS 2 1 rfl rfl (show ¬ ((49 : Int32) < 0 ∨ 64 ≤ (49 : Int32).toNatClampNeg) by decide) d_mLines_init_776 (fun H locs hP hD hS => ?_)
  rw [show (49 : Int32).toNatClampNeg = 49 by decide] at hP hD
  have hP : va_P (dC, dI) vcl [(h0, .inr (14, [.ref q_1, .null, .null, .null, .null, .null, .int 0, .null, .null, .null, .long 0, .null, .int 0, .int 0, .int 0, .int 0, .int 0, .int 0, .int 0, .null, .null])), (q_1, .inl (cA_2, 64, .inl (upd (upd (upd f_14 61 306) 62 307) 63 308))), (q_15, .inl (cA_16, 64, .inl (upd (upd (upd (upd f_25 46 4182) 47 4183) 48 4196) 49 4197)))] H := hP
  have hD : va_D A [(h0, .inr (14, [.ref q_1, .null, .null, .null, .null, .null, .int 0, .null, .null, .null, .long 0, .null, .int 0, .int 0, .int 0, .int 0, .int 0, .int 0, .int 0, .null, .null])), (q_1, .inl (cA_2, 64, .inl (upd (upd (upd f_14 61 306) 62 307) 63 308))), (q_15, .inl (cA_16, 64, .inl (upd (upd (upd (upd f_25 46 4182) 47 4183) 48 4196) 49 4197)))] := hD
  refine lv_dup hx hb d_mLines_init_777 rfl ?_
  refine lv_bipush (v := 50) hx hb d_mLines_init_778 (by decide) ?_
  refine lv_sipush (v := 4178) hx hb d_mLines_init_780 (by decide) ?_
  refine va_iast hx hb hK hP hD hS 2 1 rfl rfl (show ¬ ((50 : Int32) < 0 ∨ 64 ≤ (50 : Int32).toNatClampNeg) by decide) d_mLines_init_783 (fun H locs hP hD hS => ?_)
  rw [show (50 : Int32).toNatClampNeg = 50 by decide] at hP hD
  obtain ⟨f_26, ef_26⟩ : ∃ y : Nat → Int32, y = upd (upd (upd (upd (upd f_25 46 4182) 47 4183) 48 4196) 49 4197) 50 4178 := ⟨_, rfl⟩
  have hP : va_P (dC, dI) vcl [(h0, .inr (14, [.ref q_1, .null, .null, .null, .null, .null, .int 0, .null, .null, .null, .long 0, .null, .int 0, .int 0, .int 0, .int 0, .int 0, .int 0, .int 0, .null, .null])), (q_1, .inl (cA_2, 64, .inl (upd (upd (upd f_14 61 306) 62 307) 63 308))), (q_15, .inl (cA_16, 64, .inl (upd (upd (upd (upd (upd f_25 46 4182) 47 4183) 48 4196) 49 4197) 50 4178)))] H := hP
  have hD : va_D A [(h0, .inr (14, [.ref q_1, .null, .null, .null, .null, .null, .int 0, .null, .null, .null, .long 0, .null, .int 0, .int 0, .int 0, .int 0, .int 0, .int 0, .int 0, .null, .null])), (q_1, .inl (cA_2, 64, .inl (upd (upd (upd f_14 61 306) 62 307) 63 308))), (q_15, .inl (cA_16, 64, .inl (upd (upd (upd (upd (upd f_25 46 4182) 47 4183) 48 4196) 49 4197) 50 4178)))] := hD
  rw [← ef_26] at hP hD
  have hP : va_P (dC, dI) vcl [(h0, .inr (14, [.ref q_1, .null, .null, .null, .null, .null, .int 0, .null, .null, .null, .long 0, .null, .int 0, .int 0, .int 0, .int 0, .int 0, .int 0, .int 0, .null, .null])), (q_1, .inl (cA_2, 64, .inl (upd (upd (upd f_14 61 306) 62 307) 63 308))), (q_15, .inl (cA_16, 64, .inl f_26))] H := hP
  have hD : va_D A [(h0, .inr (14, [.ref q_1, .null, .null, .null, .null, .null, .int 0, .null, .null, .null, .long 0, .null, .int 0, .int 0, .int 0, .int 0, .int 0, .int 0, .int 0, .null, .null])), (q_1, .inl (cA_2, 64, .inl (upd (upd (upd f_14 61 306) 62 307) 63 308))), (q_15, .inl (cA_16, 64, .inl f_26))] := hD
  refine lv_dup hx hb d_mLines_init_784 rfl ?_
  refine lv_bipush (v := 51) hx hb d_mLines_init_785 (by decide) ?_
  refine lv_sipush (v := 4179) hx hb d_mLines_init_787 (by decide) ?_
  refine va_iast hx hb hK hP hD hS 2 1 rfl rfl (show ¬ ((51 : Int32) < 0 ∨ 64 ≤ (51 : Int32).toNatClampNeg) by decide) d_mLines_init_790 (fun H locs hP hD hS => ?_)
  rw [show (51 : Int32).toNatClampNeg = 51 by decide] at hP hD
  have hP : va_P (dC, dI) vcl [(h0, .inr (14, [.ref q_1, .null, .null, .null, .null, .null, .int 0, .null, .null, .null, .long 0, .null, .int 0, .int 0, .int 0, .int 0, .int 0, .int 0, .int 0, .null, .null])), (q_1, .inl (cA_2, 64, .inl (upd (upd (upd f_14 61 306) 62 307) 63 308))), (q_15, .inl (cA_16, 64, .inl (upd f_26 51 4179)))] H := hP
  have hD : va_D A [(h0, .inr (14, [.ref q_1, .null, .null, .null, .null, .null, .int 0, .null, .null, .null, .long 0, .null, .int 0, .int 0, .int 0, .int 0, .int 0, .int 0, .int 0, .null, .null])), (q_1, .inl (cA_2, 64, .inl (upd (upd (upd f_14 61 306) 62 307) 63 308))), (q_15, .inl (cA_16, 64, .inl (upd f_26 51 4179)))] := hD
  refine lv_dup hx hb d_mLines_init_791 rfl ?_
  refine lv_bipush (v := 52) hx hb d_mLines_init_792 (by decide) ?_
  refine lv_sipush (v := 4132) hx hb d_mLines_init_794 (by decide) ?_
  refine va_iast hx hb hK hP hD hS 2 1 rfl rfl (show ¬ ((52 : Int32) < 0 ∨ 64 ≤ (52 : Int32).toNatClampNeg) by decide) d_mLines_init_797 (fun H locs hP hD hS => ?_)
  rw [show (52 : Int32).toNatClampNeg = 52 by decide] at hP hD
  have hP : va_P (dC, dI) vcl [(h0, .inr (14, [.ref q_1, .null, .null, .null, .null, .null, .int 0, .null, .null, .null, .long 0, .null, .int 0, .int 0, .int 0, .int 0, .int 0, .int 0, .int 0, .null, .null])), (q_1, .inl (cA_2, 64, .inl (upd (upd (upd f_14 61 306) 62 307) 63 308))), (q_15, .inl (cA_16, 64, .inl (upd (upd f_26 51 4179) 52 4132)))] H := hP
  have hD : va_D A [(h0, .inr (14, [.ref q_1, .null, .null, .null, .null, .null, .int 0, .null, .null, .null, .long 0, .null, .int 0, .int 0, .int 0, .int 0, .int 0, .int 0, .int 0, .null, .null])), (q_1, .inl (cA_2, 64, .inl (upd (upd (upd f_14 61 306) 62 307) 63 308))), (q_15, .inl (cA_16, 64, .inl (upd (upd f_26 51 4179) 52 4132)))] := hD
  refine lv_dup hx hb d_mLines_init_798 rfl ?_
  refine lv_bipush (v := 53) hx hb d_mLines_init_799 (by decide) ?_
  refine lv_sipush (v := 4151) hx hb d_mLines_init_801 (by decide) ?_
  refine va_iast hx hb hK hP hD hS 2 1 rfl rfl (show ¬ ((53 : Int32) < 0 ∨ 64 ≤ (53 : Int32).toNatClampNeg) by decide) d_mLines_init_804 (fun H locs hP hD hS => ?_)
  rw [show (53 : Int32).toNatClampNeg = 53 by decide] at hP hD
  have hP : va_P (dC, dI) vcl [(h0, .inr (14, [.ref q_1, .null, .null, .null, .null, .null, .int 0, .null, .null, .null, .long 0, .null, .int 0, .int 0, .int 0, .int 0, .int 0, .int 0, .int 0, .null, .null])), (q_1, .inl (cA_2, 64, .inl (upd (upd (upd f_14 61 306) 62 307) 63 308))), (q_15, .inl (cA_16, 64, .inl (upd (upd (upd f_26 51 4179) 52 4132) 53 4151)))] H := hP
  have hD : va_D A [(h0, .inr (14, [.ref q_1, .null, .null, .null, .null, .null, .int 0, .null, .null, .null, .long 0, .null, .int 0, .int 0, .int 0, .int 0, .int 0, .int 0, .int 0, .null, .null])), (q_1, .inl (cA_2, 64, .inl (upd (upd (upd f_14 61 306) 62 307) 63 308))), (q_15, .inl (cA_16, 64, .inl (upd (upd (upd f_26 51 4179) 52 4132) 53 4151)))] := hD
  refine lv_dup hx hb d_mLines_init_805 rfl ?_
  refine lv_bipush (v := 54) hx hb d_mLines_init_806 (by decide) ?_
  refine lv_sipush (v := 4152) hx hb d_mLines_init_808 (by decide) ?_
  refine va_iast hx hb hK hP hD hS 2 1 rfl rfl (show ¬ ((54 : Int32) < 0 ∨ 64 ≤ (54 : Int32).toNatClampNeg) by decide) d_mLines_init_811 (fun H locs hP hD hS => ?_)
  rw [show (54 : Int32).toNatClampNeg = 54 by decide] at hP hD
  have hP : va_P (dC, dI) vcl [(h0, .inr (14, [.ref q_1, .null, .null, .null, .null, .null, .int 0, .null, .null, .null, .long 0, .null, .int 0, .int 0, .int 0, .int 0, .int 0, .int 0, .int 0, .null, .null])), (q_1, .inl (cA_2, 64, .inl (upd (upd (upd f_14 61 306) 62 307) 63 308))), (q_15, .inl (cA_16, 64, .inl (upd (upd (upd (upd f_26 51 4179) 52 4132) 53 4151) 54 4152)))] H := hP
  have hD : va_D A [(h0, .inr (14, [.ref q_1, .null, .null, .null, .null, .null, .int 0, .null, .null, .null, .long 0, .null, .int 0, .int 0, .int 0, .int 0, .int 0, .int 0, .int 0, .null, .null])), (q_1, .inl (cA_2, 64, .inl (upd (upd (upd f_14 61 306) 62 307) 63 308))), (q_15, .inl (cA_16, 64, .inl (upd (upd (upd (upd f_26 51 4179) 52 4132) 53 4151) 54 4152)))] := hD
  refine lv_dup hx hb d_mLines_init_812 rfl ?_
  refine lv_bipush (v := 55) hx hb d_mLines_init_813 (by decide) ?_
  refine lv_sipush (v := 4135) hx hb d_mLines_init_815 (by decide) ?_
  refine va_iast hx hb hK hP hD hS 2 1 rfl rfl (show ¬ ((55 : Int32) < 0 ∨ 64 ≤ (55 : Int32).toNatClampNeg) by decide) d_mLines_init_818 (fun H locs hP hD hS => ?_)
  rw [show (55 : Int32).toNatClampNeg = 55 by decide] at hP hD
  obtain ⟨f_27, ef_27⟩ : ∃ y : Nat → Int32, y = upd (upd (upd (upd (upd f_26 51 4179) 52 4132) 53 4151) 54 4152) 55 4135 := ⟨_, rfl⟩
  have hP : va_P (dC, dI) vcl [(h0, .inr (14, [.ref q_1, .null, .null, .null, .null, .null, .int 0, .null, .null, .null, .long 0, .null, .int 0, .int 0, .int 0, .int 0, .int 0, .int 0, .int 0, .null, .null])), (q_1, .inl (cA_2, 64, .inl (upd (upd (upd f_14 61 306) 62 307) 63 308))), (q_15, .inl (cA_16, 64, .inl (upd (upd (upd (upd (upd f_26 51 4179) 52 4132) 53 4151) 54 4152) 55 4135)))] H := hP
  have hD : va_D A [(h0, .inr (14, [.ref q_1, .null, .null, .null, .null, .null, .int 0, .null, .null, .null, .long 0, .null, .int 0, .int 0, .int 0, .int 0, .int 0, .int 0, .int 0, .null, .null])), (q_1, .inl (cA_2, 64, .inl (upd (upd (upd f_14 61 306) 62 307) 63 308))), (q_15, .inl (cA_16, 64, .inl (upd (upd (upd (upd (upd f_26 51 4179) 52 4132) 53 4151) 54 4152) 55 4135)))] := hD
  rw [← ef_27] at hP hD
  have hP : va_P (dC, dI) vcl [(h0, .inr (14, [.ref q_1, .null, .null, .null, .null, .null, .int 0, .null, .null, .null, .long 0, .null, .int 0, .int 0, .int 0, .int 0, .int 0, .int 0, .int 0, .null, .null])), (q_1, .inl (cA_2, 64, .inl (upd (upd (upd f_14 61 306) 62 307) 63 308))), (q_15, .inl (cA_16, 64, .inl f_27))] H := hP
  have hD : va_D A [(h0, .inr (14, [.ref q_1, .null, .null, .null, .null, .null, .int 0, .null, .null, .null, .long 0, .null, .int 0, .int 0, .int 0, .int 0, .int 0, .int 0, .int 0, .null, .null])), (q_1, .inl (cA_2, 64, .inl (upd (upd (upd f_14 61 306) 62 307) 63 308))), (q_15, .inl (cA_16, 64, .inl f_27))] := hD
  refine lv_dup hx hb d_mLines_init_819 rfl ?_
  refine lv_bipush (v := 56) hx hb d_mLines_init_820 (by decide) ?_
  refine lv_sipush (v := 4136) hx hb d_mLines_init_822 (by decide) ?_
  refine va_iast hx hb hK hP hD hS 2 1 rfl rfl (show ¬ ((56 : Int32) < 0 ∨ 64 ≤ (56 : Int32).toNatClampNeg) by decide) d_mLines_init_825 (fun H locs hP hD hS => ?_)
  rw [show (56 : Int32).toNatClampNeg = 56 by decide] at hP hD
  have hP : va_P (dC, dI) vcl [(h0, .inr (14, [.ref q_1, .null, .null, .null, .null, .null, .int 0, .null, .null, .null, .long 0, .null, .int 0, .int 0, .int 0, .int 0, .int 0, .int 0, .int 0, .null, .null])), (q_1, .inl (cA_2, 64, .inl (upd (upd (upd f_14 61 306) 62 307) 63 308))), (q_15, .inl (cA_16, 64, .inl (upd f_27 56 4136)))] H := hP
  have hD : va_D A [(h0, .inr (14, [.ref q_1, .null, .null, .null, .null, .null, .int 0, .null, .null, .null, .long 0, .null, .int 0, .int 0, .int 0, .int 0, .int 0, .int 0, .int 0, .null, .null])), (q_1, .inl (cA_2, 64, .inl (upd (upd (upd f_14 61 306) 62 307) 63 308))), (q_15, .inl (cA_16, 64, .inl (upd f_27 56 4136)))] := hD
  refine lv_dup hx hb d_mLines_init_826 rfl ?_
  refine lv_bipush (v := 57) hx hb d_mLines_init_827 (by decide) ?_
  refine lv_sipush (v := 4184) hx hb d_mLines_init_829 (by decide) ?_
  refine va_iast hx hb hK hP hD hS 2 1 rfl rfl (show ¬ ((57 : Int32) < 0 ∨ 64 ≤ (57 : Int32).toNatClampNeg) by decide) d_mLines_init_832 (fun H locs hP hD hS => ?_)
  rw [show (57 : Int32).toNatClampNeg = 57 by decide] at hP hD
  have hP : va_P (dC, dI) vcl [(h0, .inr (14, [.ref q_1, .null, .null, .null, .null, .null, .int 0, .null, .null, .null, .long 0, .null, .int 0, .int 0, .int 0, .int 0, .int 0, .int 0, .int 0, .null, .null])), (q_1, .inl (cA_2, 64, .inl (upd (upd (upd f_14 61 306) 62 307) 63 308))), (q_15, .inl (cA_16, 64, .inl (upd (upd f_27 56 4136) 57 4184)))] H := hP
  have hD : va_D A [(h0, .inr (14, [.ref q_1, .null, .null, .null, .null, .null, .int 0, .null, .null, .null, .long 0, .null, .int 0, .int 0, .int 0, .int 0, .int 0, .int 0, .int 0, .null, .null])), (q_1, .inl (cA_2, 64, .inl (upd (upd (upd f_14 61 306) 62 307) 63 308))), (q_15, .inl (cA_16, 64, .inl (upd (upd f_27 56 4136) 57 4184)))] := hD
  refine lv_dup hx hb d_mLines_init_833 rfl ?_
  refine lv_bipush (v := 58) hx hb d_mLines_init_834 (by decide) ?_
  refine lv_sipush (v := 4185) hx hb d_mLines_init_836 (by decide) ?_
  refine va_iast hx hb hK hP hD hS 2 1 rfl rfl (show ¬ ((58 : Int32) < 0 ∨ 64 ≤ (58 : Int32).toNatClampNeg) by decide) d_mLines_init_839 (fun H locs hP hD hS => ?_)
  rw [show (58 : Int32).toNatClampNeg = 58 by decide] at hP hD
  have hP : va_P (dC, dI) vcl [(h0, .inr (14, [.ref q_1, .null, .null, .null, .null, .null, .int 0, .null, .null, .null, .long 0, .null, .int 0, .int 0, .int 0, .int 0, .int 0, .int 0, .int 0, .null, .null])), (q_1, .inl (cA_2, 64, .inl (upd (upd (upd f_14 61 306) 62 307) 63 308))), (q_15, .inl (cA_16, 64, .inl (upd (upd (upd f_27 56 4136) 57 4184) 58 4185)))] H := hP
  have hD : va_D A [(h0, .inr (14, [.ref q_1, .null, .null, .null, .null, .null, .int 0, .null, .null, .null, .long 0, .null, .int 0, .int 0, .int 0, .int 0, .int 0, .int 0, .int 0, .null, .null])), (q_1, .inl (cA_2, 64, .inl (upd (upd (upd f_14 61 306) 62 307) 63 308))), (q_15, .inl (cA_16, 64, .inl (upd (upd (upd f_27 56 4136) 57 4184) 58 4185)))] := hD
  refine lv_dup hx hb d_mLines_init_840 rfl ?_
  refine lv_bipush (v := 59) hx hb d_mLines_init_841 (by decide) ?_
  refine lv_sipush (v := 4139) hx hb d_mLines_init_843 (by decide) ?_
  refine va_iast hx hb hK hP hD hS 2 1 rfl rfl (show ¬ ((59 : Int32) < 0 ∨ 64 ≤ (59 : Int32).toNatClampNeg) by decide) d_mLines_init_846 (fun H locs hP hD hS => ?_)
  rw [show (59 : Int32).toNatClampNeg = 59 by decide] at hP hD
  have hP : va_P (dC, dI) vcl [(h0, .inr (14, [.ref q_1, .null, .null, .null, .null, .null, .int 0, .null, .null, .null, .long 0, .null, .int 0, .int 0, .int 0, .int 0, .int 0, .int 0, .int 0, .null, .null])), (q_1, .inl (cA_2, 64, .inl (upd (upd (upd f_14 61 306) 62 307) 63 308))), (q_15, .inl (cA_16, 64, .inl (upd (upd (upd (upd f_27 56 4136) 57 4184) 58 4185) 59 4139)))] H := hP
  have hD : va_D A [(h0, .inr (14, [.ref q_1, .null, .null, .null, .null, .null, .int 0, .null, .null, .null, .long 0, .null, .int 0, .int 0, .int 0, .int 0, .int 0, .int 0, .int 0, .null, .null])), (q_1, .inl (cA_2, 64, .inl (upd (upd (upd f_14 61 306) 62 307) 63 308))), (q_15, .inl (cA_16, 64, .inl (upd (upd (upd (upd f_27 56 4136) 57 4184) 58 4185) 59 4139)))] := hD
  refine lv_dup hx hb d_mLines_init_847 rfl ?_
  refine lv_bipush (v := 60) hx hb d_mLines_init_848 (by decide) ?_
  refine lv_sipush (v := 4140) hx hb d_mLines_init_850 (by decide) ?_
  refine va_iast hx hb hK hP hD hS 2 1 rfl rfl (show ¬ ((60 : Int32) < 0 ∨ 64 ≤ (60 : Int32).toNatClampNeg) by decide) d_mLines_init_853 (fun H locs hP hD hS => ?_)
  rw [show (60 : Int32).toNatClampNeg = 60 by decide] at hP hD
  obtain ⟨f_28, ef_28⟩ : ∃ y : Nat → Int32, y = upd (upd (upd (upd (upd f_27 56 4136) 57 4184) 58 4185) 59 4139) 60 4140 := ⟨_, rfl⟩
  have hP : va_P (dC, dI) vcl [(h0, .inr (14, [.ref q_1, .null, .null, .null, .null, .null, .int 0, .null, .null, .null, .long 0, .null, .int 0, .int 0, .int 0, .int 0, .int 0, .int 0, .int 0, .null, .null])), (q_1, .inl (cA_2, 64, .inl (upd (upd (upd f_14 61 306) 62 307) 63 308))), (q_15, .inl (cA_16, 64, .inl (upd (upd (upd (upd (upd f_27 56 4136) 57 4184) 58 4185) 59 4139) 60 4140)))] H := hP
  have hD : va_D A [(h0, .inr (14, [.ref q_1, .null, .null, .null, .null, .null, .int 0, .null, .null, .null, .long 0, .null, .int 0, .int 0, .int 0, .int 0, .int 0, .int 0, .int 0, .null, .null])), (q_1, .inl (cA_2, 64, .inl (upd (upd (upd f_14 61 306) 62 307) 63 308))), (q_15, .inl (cA_16, 64, .inl (upd (upd (upd (upd (upd f_27 56 4136) 57 4184) 58 4185) 59 4139) 60 4140)))] := hD
  rw [← ef_28] at hP hD
  have hP : va_P (dC, dI) vcl [(h0, .inr (14, [.ref q_1, .null, .null, .null, .null, .null, .int 0, .null, .null, .null, .long 0, .null, .int 0, .int 0, .int 0, .int 0, .int 0, .int 0, .int 0, .null, .null])), (q_1, .inl (cA_2, 64, .inl (upd (upd (upd f_14 61 306) 62 307) 63 308))), (q_15, .inl (cA_16, 64, .inl f_28))] H := hP
  have hD : va_D A [(h0, .inr (14, [.ref q_1, .null, .null, .null, .null, .null, .int 0, .null, .null, .null, .long 0, .null, .int 0, .int 0, .int 0, .int 0, .int 0, .int 0, .int 0, .null, .null])), (q_1, .inl (cA_2, 64, .inl (upd (upd (upd f_14 61 306) 62 307) 63 308))), (q_15, .inl (cA_16, 64, .inl f_28))] := hD
  refine lv_dup hx hb d_mLines_init_854 rfl ?_
  refine lv_bipush (v := 61) hx hb d_mLines_init_855 (by decide) ?_
  refine lv_sipush (v := 4186) hx hb d_mLines_init_857 (by decide) ?_
  refine va_iast hx hb hK hP hD hS 2 1 rfl rfl (show ¬ ((61 : Int32) < 0 ∨ 64 ≤ (61 : Int32).toNatClampNeg) by decide) d_mLines_init_860 (fun H locs hP hD hS => ?_)
  rw [show (61 : Int32).toNatClampNeg = 61 by decide] at hP hD
  have hP : va_P (dC, dI) vcl [(h0, .inr (14, [.ref q_1, .null, .null, .null, .null, .null, .int 0, .null, .null, .null, .long 0, .null, .int 0, .int 0, .int 0, .int 0, .int 0, .int 0, .int 0, .null, .null])), (q_1, .inl (cA_2, 64, .inl (upd (upd (upd f_14 61 306) 62 307) 63 308))), (q_15, .inl (cA_16, 64, .inl (upd f_28 61 4186)))] H := hP
  have hD : va_D A [(h0, .inr (14, [.ref q_1, .null, .null, .null, .null, .null, .int 0, .null, .null, .null, .long 0, .null, .int 0, .int 0, .int 0, .int 0, .int 0, .int 0, .int 0, .null, .null])), (q_1, .inl (cA_2, 64, .inl (upd (upd (upd f_14 61 306) 62 307) 63 308))), (q_15, .inl (cA_16, 64, .inl (upd f_28 61 4186)))] := hD
  refine lv_dup hx hb d_mLines_init_861 rfl ?_
  refine lv_bipush (v := 62) hx hb d_mLines_init_862 (by decide) ?_
  refine lv_sipush (v := 4198) hx hb d_mLines_init_864 (by decide) ?_
  refine va_iast hx hb hK hP hD hS 2 1 rfl rfl (show ¬ ((62 : Int32) < 0 ∨ 64 ≤ (62 : Int32).toNatClampNeg) by decide) d_mLines_init_867 (fun H locs hP hD hS => ?_)
  rw [show (62 : Int32).toNatClampNeg = 62 by decide] at hP hD
  have hP : va_P (dC, dI) vcl [(h0, .inr (14, [.ref q_1, .null, .null, .null, .null, .null, .int 0, .null, .null, .null, .long 0, .null, .int 0, .int 0, .int 0, .int 0, .int 0, .int 0, .int 0, .null, .null])), (q_1, .inl (cA_2, 64, .inl (upd (upd (upd f_14 61 306) 62 307) 63 308))), (q_15, .inl (cA_16, 64, .inl (upd (upd f_28 61 4186) 62 4198)))] H := hP
  have hD : va_D A [(h0, .inr (14, [.ref q_1, .null, .null, .null, .null, .null, .int 0, .null, .null, .null, .long 0, .null, .int 0, .int 0, .int 0, .int 0, .int 0, .int 0, .int 0, .null, .null])), (q_1, .inl (cA_2, 64, .inl (upd (upd (upd f_14 61 306) 62 307) 63 308))), (q_15, .inl (cA_16, 64, .inl (upd (upd f_28 61 4186) 62 4198)))] := hD
  refine lv_dup hx hb d_mLines_init_868 rfl ?_
  refine lv_bipush (v := 63) hx hb d_mLines_init_869 (by decide) ?_
  refine lv_sipush (v := 4199) hx hb d_mLines_init_871 (by decide) ?_
  refine va_iast hx hb hK hP hD hS 2 1 rfl rfl (show ¬ ((63 : Int32) < 0 ∨ 64 ≤ (63 : Int32).toNatClampNeg) by decide) d_mLines_init_874 (fun H locs hP hD hS => ?_)
  rw [show (63 : Int32).toNatClampNeg = 63 by decide] at hP hD
  have hP : va_P (dC, dI) vcl [(h0, .inr (14, [.ref q_1, .null, .null, .null, .null, .null, .int 0, .null, .null, .null, .long 0, .null, .int 0, .int 0, .int 0, .int 0, .int 0, .int 0, .int 0, .null, .null])), (q_1, .inl (cA_2, 64, .inl (upd (upd (upd f_14 61 306) 62 307) 63 308))), (q_15, .inl (cA_16, 64, .inl (upd (upd (upd f_28 61 4186) 62 4198) 63 4199)))] H := hP
  have hD : va_D A [(h0, .inr (14, [.ref q_1, .null, .null, .null, .null, .null, .int 0, .null, .null, .null, .long 0, .null, .int 0, .int 0, .int 0, .int 0, .int 0, .int 0, .int 0, .null, .null])), (q_1, .inl (cA_2, 64, .inl (upd (upd (upd f_14 61 306) 62 307) 63 308))), (q_15, .inl (cA_16, 64, .inl (upd (upd (upd f_28 61 4186) 62 4198) 63 4199)))] := hD
  refine va_putF (D := (dC, dI)) (ci := 14) (v := .ref q_15) (ty := (.array .int)) (C := R_mLines) (T := F_mLines) (N := 21) hx hb hwd i_mLines t_mLines to_mLines no_mLines hown hK hP hD hS 0 rfl rfl 1 (by decide) (hwd _ wd_10_84) (fun _ h9 => h9) rfl hin rfl (by decide +kernel) rfl rfl (Nat.le_of_ble_eq_true rfl) d_mLines_init_875 (fun H locs hP hD hS => ?_)
  have hP : va_P (dC, dI) vcl [(h0, .inr (14, [.ref q_1, .ref q_15, .null, .null, .null, .null, .int 0, .null, .null, .null, .long 0, .null, .int 0, .int 0, .int 0, .int 0, .int 0, .int 0, .int 0, .null, .null])), (q_1, .inl (cA_2, 64, .inl (upd (upd (upd f_14 61 306) 62 307) 63 308))), (q_15, .inl (cA_16, 64, .inl (upd (upd (upd f_28 61 4186) 62 4198) 63 4199)))] H := hP
  have hD : va_D A [(h0, .inr (14, [.ref q_1, .ref q_15, .null, .null, .null, .null, .int 0, .null, .null, .null, .long 0, .null, .int 0, .int 0, .int 0, .int 0, .int 0, .int 0, .int 0, .null, .null])), (q_1, .inl (cA_2, 64, .inl (upd (upd (upd f_14 61 306) 62 307) 63 308))), (q_15, .inl (cA_16, 64, .inl (upd (upd (upd f_28 61 4186) 62 4198) 63 4199)))] := hD
  refine lv_aload_n hx hb d_mLines_init_878 rfl (lv_at hl 0 rfl) ?_
  refine lv_bipush (v := 27) hx hb d_mLines_init_879 (by decide) ?_
  refine va_newa (atype := .int) (N' := 27) (a0 := (27, .inl (fun _ => 0))) (ty := .int) (n := 27) hx hb (hwd _ wd_1_167) rfl hK hP hD hS hA (fun _ => rfl) (by decide) (by decide) (by decide) (Nat.le_of_ble_eq_true rfl) (Nat.le_of_ble_eq_true rfl) d_mLines_init_881 (fun q_29 cA_30 H hK hP hD hS => ?_)
  have hP : va_P (dC, dI) vcl [(h0, .inr (14, [.ref q_1, .ref q_15, .null, .null, .null, .null, .int 0, .null, .null, .null, .long 0, .null, .int 0, .int 0, .int 0, .int 0, .int 0, .int 0, .int 0, .null, .null])), (q_1, .inl (cA_2, 64, .inl (upd (upd (upd f_14 61 306) 62 307) 63 308))), (q_15, .inl (cA_16, 64, .inl (upd (upd (upd f_28 61 4186) 62 4198) 63 4199))), (q_29, .inl (cA_30, 27, .inl (fun _ => 0)))] H := hP
  have hD : va_D A [(h0, .inr (14, [.ref q_1, .ref q_15, .null, .null, .null, .null, .int 0, .null, .null, .null, .long 0, .null, .int 0, .int 0, .int 0, .int 0, .int 0, .int 0, .int 0, .null, .null])), (q_1, .inl (cA_2, 64, .inl (upd (upd (upd f_14 61 306) 62 307) 63 308))), (q_15, .inl (cA_16, 64, .inl (upd (upd (upd f_28 61 4186) 62 4198) 63 4199))), (q_29, .inl (cA_30, 27, .inl (fun _ => 0)))] := hD
  have hK : va_K (dC, dI) vcl [(cA_2, .int), (cA_16, .int), (cA_30, .int)] s := hK
  refine W.widen (k := 3) (n := 155) (by decide) (by decide) ?_
  refine lv_dup hx hb d_mLines_init_883 rfl ?_
  refine lv_iconst (v := 0) hx hb d_mLines_init_884 (by decide) ?_
  refine lv_bipush (v := 59) hx hb d_mLines_init_885 (by decide) ?_
  refine va_iast hx hb hK hP hD hS 3 2 rfl rfl (show ¬ ((0 : Int32) < 0 ∨ 27 ≤ (0 : Int32).toNatClampNeg) by decide) d_mLines_init_887 (fun H locs hP hD hS => ?_)
  rw [show (0 : Int32).toNatClampNeg = 0 by decide] at hP hD
  have hP : va_P (dC, dI) vcl [(h0, .inr (14, [.ref q_1, .ref q_15, .null, .null, .null, .null, .int 0, .null, .null, .null, .long 0, .null, .int 0, .int 0, .int 0, .int 0, .int 0, .int 0, .int 0, .null, .null])), (q_1, .inl (cA_2, 64, .inl (upd (upd (upd f_14 61 306) 62 307) 63 308))), (q_15, .inl (cA_16, 64, .inl (upd (upd (upd f_28 61 4186) 62 4198) 63 4199))), (q_29, .inl (cA_30, 27, .inl (upd (fun _ => 0) 0 59)))] H := hP
  have hD : va_D A [(h0, .inr (14, [.ref q_1, .ref q_15, .null, .null, .null, .null, .int 0, .null, .null, .null, .long 0, .null, .int 0, .int 0, .int 0, .int 0, .int 0, .int 0, .int 0, .null, .null])), (q_1, .inl (cA_2, 64, .inl (upd (upd (upd f_14 61 306) 62 307) 63 308))), (q_15, .inl (cA_16, 64, .inl (upd (upd (upd f_28 61 4186) 62 4198) 63 4199))), (q_29, .inl (cA_30, 27, .inl (upd (fun _ => 0) 0 59)))] := hD
  refine lv_dup hx hb d_mLines_init_888 rfl ?_
  refine lv_iconst (v := 1) hx hb d_mLines_init_889 (by decide) ?_
  refine lv_bipush (v := 50) hx hb d_mLines_init_890 (by decide) ?_
  refine va_iast hx hb hK hP hD hS 3 2 rfl rfl (show ¬ ((1 : Int32) < 0 ∨ 27 ≤ (1 : Int32).toNatClampNeg) by decide) d_mLines_init_892 (fun H locs hP hD hS => ?_)
  rw [show (1 : Int32).toNatClampNeg = 1 by decide] at hP hD
  have hP : va_P (dC, dI) vcl [(h0, .inr (14, [.ref q_1, .ref q_15, .null, .null, .null, .null, .int 0, .null, .null, .null, .long 0, .null, .int 0, .int 0, .int 0, .int 0, .int 0, .int 0, .int 0, .null, .null])), (q_1, .inl (cA_2, 64, .inl (upd (upd (upd f_14 61 306) 62 307) 63 308))), (q_15, .inl (cA_16, 64, .inl (upd (upd (upd f_28 61 4186) 62 4198) 63 4199))), (q_29, .inl (cA_30, 27, .inl (upd (upd (fun _ => 0) 0 59) 1 50)))] H := hP
  have hD : va_D A [(h0, .inr (14, [.ref q_1, .ref q_15, .null, .null, .null, .null, .int 0, .null, .null, .null, .long 0, .null, .int 0, .int 0, .int 0, .int 0, .int 0, .int 0, .int 0, .null, .null])), (q_1, .inl (cA_2, 64, .inl (upd (upd (upd f_14 61 306) 62 307) 63 308))), (q_15, .inl (cA_16, 64, .inl (upd (upd (upd f_28 61 4186) 62 4198) 63 4199))), (q_29, .inl (cA_30, 27, .inl (upd (upd (fun _ => 0) 0 59) 1 50)))] := hD
  refine lv_dup hx hb d_mLines_init_893 rfl ?_
  refine lv_iconst (v := 2) hx hb d_mLines_init_894 (by decide) ?_
  refine lv_bipush (v := 87) hx hb d_mLines_init_895 (by decide) ?_
  refine va_iast hx hb hK hP hD hS 3 2 rfl rfl (show ¬ ((2 : Int32) < 0 ∨ 27 ≤ (2 : Int32).toNatClampNeg) by decide) d_mLines_init_897 (fun H locs hP hD hS => ?_)
  rw [show (2 : Int32).toNatClampNeg = 2 by decide] at hP hD
  have hP : va_P (dC, dI) vcl [(h0, .inr (14, [.ref q_1, .ref q_15, .null, .null, .null, .null, .int 0, .null, .null, .null, .long 0, .null, .int 0, .int 0, .int 0, .int 0, .int 0, .int 0, .int 0, .null, .null])), (q_1, .inl (cA_2, 64, .inl (upd (upd (upd f_14 61 306) 62 307) 63 308))), (q_15, .inl (cA_16, 64, .inl (upd (upd (upd f_28 61 4186) 62 4198) 63 4199))), (q_29, .inl (cA_30, 27, .inl (upd (upd (upd (fun _ => 0) 0 59) 1 50) 2 87)))] H := hP
  have hD : va_D A [(h0, .inr (14, [.ref q_1, .ref q_15, .null, .null, .null, .null, .int 0, .null, .null, .null, .long 0, .null, .int 0, .int 0, .int 0, .int 0, .int 0, .int 0, .int 0, .null, .null])), (q_1, .inl (cA_2, 64, .inl (upd (upd (upd f_14 61 306) 62 307) 63 308))), (q_15, .inl (cA_16, 64, .inl (upd (upd (upd f_28 61 4186) 62 4198) 63 4199))), (q_29, .inl (cA_30, 27, .inl (upd (upd (upd (fun _ => 0) 0 59) 1 50) 2 87)))] := hD
  refine lv_dup hx hb d_mLines_init_898 rfl ?_
  refine lv_iconst (v := 3) hx hb d_mLines_init_899 (by decide) ?_
  refine lv_sipush (v := 183) hx hb d_mLines_init_900 (by decide) ?_
  refine va_iast hx hb hK hP hD hS 3 2 rfl rfl (show ¬ ((3 : Int32) < 0 ∨ 27 ≤ (3 : Int32).toNatClampNeg) by decide) d_mLines_init_903 (fun H locs hP hD hS => ?_)
  rw [show (3 : Int32).toNatClampNeg = 3 by decide] at hP hD
  have hP : va_P (dC, dI) vcl [(h0, .inr (14, [.ref q_1, .ref q_15, .null, .null, .null, .null, .int 0, .null, .null, .null, .long 0, .null, .int 0, .int 0, .int 0, .int 0, .int 0, .int 0, .int 0, .null, .null])), (q_1, .inl (cA_2, 64, .inl (upd (upd (upd f_14 61 306) 62 307) 63 308))), (q_15, .inl (cA_16, 64, .inl (upd (upd (upd f_28 61 4186) 62 4198) 63 4199))), (q_29, .inl (cA_30, 27, .inl (upd (upd (upd (upd (fun _ => 0) 0 59) 1 50) 2 87) 3 183)))] H := hP
  have hD : va_D A [(h0, .inr (14, [.ref q_1, .ref q_15, .null, .null, .null, .null, .int 0, .null, .null, .null, .long 0, .null, .int 0, .int 0, .int 0, .int 0, .int 0, .int 0, .int 0, .null, .null])), (q_1, .inl (cA_2, 64, .inl (upd (upd (upd f_14 61 306) 62 307) 63 308))), (q_15, .inl (cA_16, 64, .inl (upd (upd (upd f_28 61 4186) 62 4198) 63 4199))), (q_29, .inl (cA_30, 27, .inl (upd (upd (upd (upd (fun _ => 0) 0 59) 1 50) 2 87) 3 183)))] := hD
  refine lv_dup hx hb d_mLines_init_904 rfl ?_
  refine lv_iconst (v := 4) hx hb d_mLines_init_905 (by decide) ?_
  refine lv_sipush (v := 310) hx hb d_mLines_init_906 (by decide) ?_
  refine va_iast hx hb hK hP hD hS 3 2 rfl rfl (show ¬ ((4 : Int32) < 0 ∨ 27 ≤ (4 : Int32).toNatClampNeg) by decide) d_mLines_init_909 (fun H locs hP hD hS => ?_)
  rw [show (4 : Int32).toNatClampNeg = 4 by decide] at hP hD
  obtain ⟨f_31, ef_31⟩ : ∃ y : Nat → Int32, y = upd (upd (upd (upd (upd (fun _ => 0) 0 59) 1 50) 2 87) 3 183) 4 310 := ⟨_, rfl⟩
  have hP : va_P (dC, dI) vcl [(h0, .inr (14, [.ref q_1, .ref q_15, .null, .null, .null, .null, .int 0, .null, .null, .null, .long 0, .null, .int 0, .int 0, .int 0, .int 0, .int 0, .int 0, .int 0, .null, .null])), (q_1, .inl (cA_2, 64, .inl (upd (upd (upd f_14 61 306) 62 307) 63 308))), (q_15, .inl (cA_16, 64, .inl (upd (upd (upd f_28 61 4186) 62 4198) 63 4199))), (q_29, .inl (cA_30, 27, .inl (upd (upd (upd (upd (upd (fun _ => 0) 0 59) 1 50) 2 87) 3 183) 4 310)))] H := hP
  have hD : va_D A [(h0, .inr (14, [.ref q_1, .ref q_15, .null, .null, .null, .null, .int 0, .null, .null, .null, .long 0, .null, .int 0, .int 0, .int 0, .int 0, .int 0, .int 0, .int 0, .null, .null])), (q_1, .inl (cA_2, 64, .inl (upd (upd (upd f_14 61 306) 62 307) 63 308))), (q_15, .inl (cA_16, 64, .inl (upd (upd (upd f_28 61 4186) 62 4198) 63 4199))), (q_29, .inl (cA_30, 27, .inl (upd (upd (upd (upd (upd (fun _ => 0) 0 59) 1 50) 2 87) 3 183) 4 310)))] := hD
  rw [← ef_31] at hP hD
  have hP : va_P (dC, dI) vcl [(h0, .inr (14, [.ref q_1, .ref q_15, .null, .null, .null, .null, .int 0, .null, .null, .null, .long 0, .null, .int 0, .int 0, .int 0, .int 0, .int 0, .int 0, .int 0, .null, .null])), (q_1, .inl (cA_2, 64, .inl (upd (upd (upd f_14 61 306) 62 307) 63 308))), (q_15, .inl (cA_16, 64, .inl (upd (upd (upd f_28 61 4186) 62 4198) 63 4199))), (q_29, .inl (cA_30, 27, .inl f_31))] H := hP
  have hD : va_D A [(h0, .inr (14, [.ref q_1, .ref q_15, .null, .null, .null, .null, .int 0, .null, .null, .null, .long 0, .null, .int 0, .int 0, .int 0, .int 0, .int 0, .int 0, .int 0, .null, .null])), (q_1, .inl (cA_2, 64, .inl (upd (upd (upd f_14 61 306) 62 307) 63 308))), (q_15, .inl (cA_16, 64, .inl (upd (upd (upd f_28 61 4186) 62 4198) 63 4199))), (q_29, .inl (cA_30, 27, .inl f_31))] := hD
  refine lv_dup hx hb d_mLines_init_910 rfl ?_
  refine lv_iconst (v := 5) hx hb d_mLines_init_911 (by decide) ?_
  refine lv_sipush (v := 311) hx hb d_mLines_init_912 (by decide) ?_
  refine va_iast hx hb hK hP hD hS 3 2 rfl rfl (show ¬ ((5 : Int32) < 0 ∨ 27 ≤ (5 : Int32).toNatClampNeg) by decide) d_mLines_init_915 (fun H locs hP hD hS => ?_)
  rw [show (5 : Int32).toNatClampNeg = 5 by decide] at hP hD
  have hP : va_P (dC, dI) vcl [(h0, .inr (14, [.ref q_1, .ref q_15, .null, .null, .null, .null, .int 0, .null, .null, .null, .long 0, .null, .int 0, .int 0, .int 0, .int 0, .int 0, .int 0, .int 0, .null, .null])), (q_1, .inl (cA_2, 64, .inl (upd (upd (upd f_14 61 306) 62 307) 63 308))), (q_15, .inl (cA_16, 64, .inl (upd (upd (upd f_28 61 4186) 62 4198) 63 4199))), (q_29, .inl (cA_30, 27, .inl (upd f_31 5 311)))] H := hP
  have hD : va_D A [(h0, .inr (14, [.ref q_1, .ref q_15, .null, .null, .null, .null, .int 0, .null, .null, .null, .long 0, .null, .int 0, .int 0, .int 0, .int 0, .int 0, .int 0, .int 0, .null, .null])), (q_1, .inl (cA_2, 64, .inl (upd (upd (upd f_14 61 306) 62 307) 63 308))), (q_15, .inl (cA_16, 64, .inl (upd (upd (upd f_28 61 4186) 62 4198) 63 4199))), (q_29, .inl (cA_30, 27, .inl (upd f_31 5 311)))] := hD
  refine lv_dup hx hb d_mLines_init_916 rfl ?_
  refine lv_bipush (v := 6) hx hb d_mLines_init_917 (by decide) ?_
  refine lv_sipush (v := 356) hx hb d_mLines_init_919 (by decide) ?_
  refine va_iast hx hb hK hP hD hS 3 2 rfl rfl (show ¬ ((6 : Int32) < 0 ∨ 27 ≤ (6 : Int32).toNatClampNeg) by decide) d_mLines_init_922 (fun H locs hP hD hS => ?_)
  rw [show (6 : Int32).toNatClampNeg = 6 by decide] at hP hD
  have hP : va_P (dC, dI) vcl [(h0, .inr (14, [.ref q_1, .ref q_15, .null, .null, .null, .null, .int 0, .null, .null, .null, .long 0, .null, .int 0, .int 0, .int 0, .int 0, .int 0, .int 0, .int 0, .null, .null])), (q_1, .inl (cA_2, 64, .inl (upd (upd (upd f_14 61 306) 62 307) 63 308))), (q_15, .inl (cA_16, 64, .inl (upd (upd (upd f_28 61 4186) 62 4198) 63 4199))), (q_29, .inl (cA_30, 27, .inl (upd (upd f_31 5 311) 6 356)))] H := hP
  have hD : va_D A [(h0, .inr (14, [.ref q_1, .ref q_15, .null, .null, .null, .null, .int 0, .null, .null, .null, .long 0, .null, .int 0, .int 0, .int 0, .int 0, .int 0, .int 0, .int 0, .null, .null])), (q_1, .inl (cA_2, 64, .inl (upd (upd (upd f_14 61 306) 62 307) 63 308))), (q_15, .inl (cA_16, 64, .inl (upd (upd (upd f_28 61 4186) 62 4198) 63 4199))), (q_29, .inl (cA_30, 27, .inl (upd (upd f_31 5 311) 6 356)))] := hD
  refine lv_dup hx hb d_mLines_init_923 rfl ?_
  refine lv_bipush (v := 7) hx hb d_mLines_init_924 (by decide) ?_
  refine lv_sipush (v := 357) hx hb d_mLines_init_926 (by decide) ?_
  refine va_iast hx hb hK hP hD hS 3 2 rfl rfl (show ¬ ((7 : Int32) < 0 ∨ 27 ≤ (7 : Int32).toNatClampNeg) by decide) d_mLines_init_929 (fun H locs hP hD hS => ?_)
  rw [show (7 : Int32).toNatClampNeg = 7 by decide] at hP hD
  have hP : va_P (dC, dI) vcl [(h0, .inr (14, [.ref q_1, .ref q_15, .null, .null, .null, .null, .int 0, .null, .null, .null, .long 0, .null, .int 0, .int 0, .int 0, .int 0, .int 0, .int 0, .int 0, .null, .null])), (q_1, .inl (cA_2, 64, .inl (upd (upd (upd f_14 61 306) 62 307) 63 308))), (q_15, .inl (cA_16, 64, .inl (upd (upd (upd f_28 61 4186) 62 4198) 63 4199))), (q_29, .inl (cA_30, 27, .inl (upd (upd (upd f_31 5 311) 6 356) 7 357)))] H := hP
  have hD : va_D A [(h0, .inr (14, [.ref q_1, .ref q_15, .null, .null, .null, .null, .int 0, .null, .null, .null, .long 0, .null, .int 0, .int 0, .int 0, .int 0, .int 0, .int 0, .int 0, .null, .null])), (q_1, .inl (cA_2, 64, .inl (upd (upd (upd f_14 61 306) 62 307) 63 308))), (q_15, .inl (cA_16, 64, .inl (upd (upd (upd f_28 61 4186) 62 4198) 63 4199))), (q_29, .inl (cA_30, 27, .inl (upd (upd (upd f_31 5 311) 6 356) 7 357)))] := hD
  refine lv_dup hx hb d_mLines_init_930 rfl ?_
  refine lv_bipush (v := 8) hx hb d_mLines_init_931 (by decide) ?_
  refine lv_sipush (v := 360) hx hb d_mLines_init_933 (by decide) ?_
  refine va_iast hx hb hK hP hD hS 3 2 rfl rfl (show ¬ ((8 : Int32) < 0 ∨ 27 ≤ (8 : Int32).toNatClampNeg) by decide) d_mLines_init_936 (fun H locs hP hD hS => ?_)
  rw [show (8 : Int32).toNatClampNeg = 8 by decide] at hP hD
  have hP : va_P (dC, dI) vcl [(h0, .inr (14, [.ref q_1, .ref q_15, .null, .null, .null, .null, .int 0, .null, .null, .null, .long 0, .null, .int 0, .int 0, .int 0, .int 0, .int 0, .int 0, .int 0, .null, .null])), (q_1, .inl (cA_2, 64, .inl (upd (upd (upd f_14 61 306) 62 307) 63 308))), (q_15, .inl (cA_16, 64, .inl (upd (upd (upd f_28 61 4186) 62 4198) 63 4199))), (q_29, .inl (cA_30, 27, .inl (upd (upd (upd (upd f_31 5 311) 6 356) 7 357) 8 360)))] H := hP
  have hD : va_D A [(h0, .inr (14, [.ref q_1, .ref q_15, .null, .null, .null, .null, .int 0, .null, .null, .null, .long 0, .null, .int 0, .int 0, .int 0, .int 0, .int 0, .int 0, .int 0, .null, .null])), (q_1, .inl (cA_2, 64, .inl (upd (upd (upd f_14 61 306) 62 307) 63 308))), (q_15, .inl (cA_16, 64, .inl (upd (upd (upd f_28 61 4186) 62 4198) 63 4199))), (q_29, .inl (cA_30, 27, .inl (upd (upd (upd (upd f_31 5 311) 6 356) 7 357) 8 360)))] := hD
  refine lv_dup hx hb d_mLines_init_937 rfl ?_
  refine lv_bipush (v := 9) hx hb d_mLines_init_938 (by decide) ?_
  refine lv_sipush (v := 359) hx hb d_mLines_init_940 (by decide) ?_
  refine va_iast hx hb hK hP hD hS 3 2 rfl rfl (show ¬ ((9 : Int32) < 0 ∨ 27 ≤ (9 : Int32).toNatClampNeg) by decide) d_mLines_init_943 (fun H locs hP hD hS => ?_)
  rw [show (9 : Int32).toNatClampNeg = 9 by decide] at hP hD
  obtain ⟨f_32, ef_32⟩ : ∃ y : Nat → Int32, y = upd (upd (upd (upd (upd f_31 5 311) 6 356) 7 357) 8 360) 9 359 := ⟨_, rfl⟩
  have hP : va_P (dC, dI) vcl [(h0, .inr (14, [.ref q_1, .ref q_15, .null, .null, .null, .null, .int 0, .null, .null, .null, .long 0, .null, .int 0, .int 0, .int 0, .int 0, .int 0, .int 0, .int 0, .null, .null])), (q_1, .inl (cA_2, 64, .inl (upd (upd (upd f_14 61 306) 62 307) 63 308))), (q_15, .inl (cA_16, 64, .inl (upd (upd (upd f_28 61 4186) 62 4198) 63 4199))), (q_29, .inl (cA_30, 27, .inl (upd (upd (upd (upd (upd f_31 5 311) 6 356) 7 357) 8 360) 9 359)))] H := hP
  have hD : va_D A [(h0, .inr (14, [.ref q_1, .ref q_15, .null, .null, .null, .null, .int 0, .null, .null, .null, .long 0, .null, .int 0, .int 0, .int 0, .int 0, .int 0, .int 0, .int 0, .null, .null])), (q_1, .inl (cA_2, 64, .inl (upd (upd (upd f_14 61 306) 62 307) 63 308))), (q_15, .inl (cA_16, 64, .inl (upd (upd (upd f_28 61 4186) 62 4198) 63 4199))), (q_29, .inl (cA_30, 27, .inl (upd (upd (upd (upd (upd f_31 5 311) 6 356) 7 357) 8 360) 9 359)))] := hD
  rw [← ef_32] at hP hD
  have hP : va_P (dC, dI) vcl [(h0, .inr (14, [.ref q_1, .ref q_15, .null, .null, .null, .null, .int 0, .null, .null, .null, .long 0, .null, .int 0, .int 0, .int 0, .int 0, .int 0, .int 0, .int 0, .null, .null])), (q_1, .inl (cA_2, 64, .inl (upd (upd (upd f_14 61 306) 62 307) 63 308))), (q_15, .inl (cA_16, 64, .inl (upd (upd (upd f_28 61 4186) 62 4198) 63 4199))), (q_29, .inl (cA_30, 27, .inl f_32))] H := hP
  have hD : va_D A [(h0, .inr (14, [.ref q_1, .ref q_15, .null, .null, .null, .null, .int 0, .null, .null, .null, .long 0, .null, .int 0, .int 0, .int 0, .int 0, .int 0, .int 0, .int 0, .null, .null])), (q_1, .inl (cA_2, 64, .inl (upd (upd (upd f_14 61 306) 62 307) 63 308))), (q_15, .inl (cA_16, 64, .inl (upd (upd (upd f_28 61 4186) 62 4198) 63 4199))), (q_29, .inl (cA_30, 27, .inl f_32))] := hD
  refine lv_dup hx hb d_mLines_init_944 rfl ?_
  refine lv_bipush (v := 10) hx hb d_mLines_init_945 (by decide) ?_
  refine lv_sipush (v := 716) hx hb d_mLines_init_947 (by decide) ?_
  refine va_iast hx hb hK hP hD hS 3 2 rfl rfl (show ¬ ((10 : Int32) < 0 ∨ 27 ≤ (10 : Int32).toNatClampNeg) by decide) d_mLines_init_950 (fun H locs hP hD hS => ?_)
  rw [show (10 : Int32).toNatClampNeg = 10 by decide] at hP hD
  have hP : va_P (dC, dI) vcl [(h0, .inr (14, [.ref q_1, .ref q_15, .null, .null, .null, .null, .int 0, .null, .null, .null, .long 0, .null, .int 0, .int 0, .int 0, .int 0, .int 0, .int 0, .int 0, .null, .null])), (q_1, .inl (cA_2, 64, .inl (upd (upd (upd f_14 61 306) 62 307) 63 308))), (q_15, .inl (cA_16, 64, .inl (upd (upd (upd f_28 61 4186) 62 4198) 63 4199))), (q_29, .inl (cA_30, 27, .inl (upd f_32 10 716)))] H := hP
  have hD : va_D A [(h0, .inr (14, [.ref q_1, .ref q_15, .null, .null, .null, .null, .int 0, .null, .null, .null, .long 0, .null, .int 0, .int 0, .int 0, .int 0, .int 0, .int 0, .int 0, .null, .null])), (q_1, .inl (cA_2, 64, .inl (upd (upd (upd f_14 61 306) 62 307) 63 308))), (q_15, .inl (cA_16, 64, .inl (upd (upd (upd f_28 61 4186) 62 4198) 63 4199))), (q_29, .inl (cA_30, 27, .inl (upd f_32 10 716)))] := hD
  refine lv_dup hx hb d_mLines_init_951 rfl ?_
  refine lv_bipush (v := 11) hx hb d_mLines_init_952 (by decide) ?_
  refine lv_sipush (v := 717) hx hb d_mLines_init_954 (by decide) ?_
  refine va_iast hx hb hK hP hD hS 3 2 rfl rfl (show ¬ ((11 : Int32) < 0 ∨ 27 ≤ (11 : Int32).toNatClampNeg) by decide) d_mLines_init_957 (fun H locs hP hD hS => ?_)
  rw [show (11 : Int32).toNatClampNeg = 11 by decide] at hP hD
  have hP : va_P (dC, dI) vcl [(h0, .inr (14, [.ref q_1, .ref q_15, .null, .null, .null, .null, .int 0, .null, .null, .null, .long 0, .null, .int 0, .int 0, .int 0, .int 0, .int 0, .int 0, .int 0, .null, .null])), (q_1, .inl (cA_2, 64, .inl (upd (upd (upd f_14 61 306) 62 307) 63 308))), (q_15, .inl (cA_16, 64, .inl (upd (upd (upd f_28 61 4186) 62 4198) 63 4199))), (q_29, .inl (cA_30, 27, .inl (upd (upd f_32 10 716) 11 717)))] H := hP
  have hD : va_D A [(h0, .inr (14, [.ref q_1, .ref q_15, .null, .null, .null, .null, .int 0, .null, .null, .null, .long 0, .null, .int 0, .int 0, .int 0, .int 0, .int 0, .int 0, .int 0, .null, .null])), (q_1, .inl (cA_2, 64, .inl (upd (upd (upd f_14 61 306) 62 307) 63 308))), (q_15, .inl (cA_16, 64, .inl (upd (upd (upd f_28 61 4186) 62 4198) 63 4199))), (q_29, .inl (cA_30, 27, .inl (upd (upd f_32 10 716) 11 717)))] := hD
  refine lv_dup hx hb d_mLines_init_958 rfl ?_
  refine lv_bipush (v := 12) hx hb d_mLines_init_959 (by decide) ?_
  refine lv_sipush (v := 722) hx hb d_mLines_init_961 (by decide) ?_
  refine va_iast hx hb hK hP hD hS 3 2 rfl rfl (show ¬ ((12 : Int32) < 0 ∨ 27 ≤ (12 : Int32).toNatClampNeg) by decide) d_mLines_init_964 (fun H locs hP hD hS => ?_)
  rw [show (12 : Int32).toNatClampNeg = 12 by decide] at hP hD
  have hP : va_P (dC, dI) vcl [(h0, .inr (14, [.ref q_1, .ref q_15, .null, .null, .null, .null, .int 0, .null, .null, .null, .long 0, .null, .int 0, .int 0, .int 0, .int 0, .int 0, .int 0, .int 0, .null, .null])), (q_1, .inl (cA_2, 64, .inl (upd (upd (upd f_14 61 306) 62 307) 63 308))), (q_15, .inl (cA_16, 64, .inl (upd (upd (upd f_28 61 4186) 62 4198) 63 4199))), (q_29, .inl (cA_30, 27, .inl (upd (upd (upd f_32 10 716) 11 717) 12 722)))] H := hP
  have hD : va_D A [(h0, .inr (14, [.ref q_1, .ref q_15, .null, .null, .null, .null, .int 0, .null, .null, .null, .long 0, .null, .int 0, .int 0, .int 0, .int 0, .int 0, .int 0, .int 0, .null, .null])), (q_1, .inl (cA_2, 64, .inl (upd (upd (upd f_14 61 306) 62 307) 63 308))), (q_15, .inl (cA_16, 64, .inl (upd (upd (upd f_28 61 4186) 62 4198) 63 4199))), (q_29, .inl (cA_30, 27, .inl (upd (upd (upd f_32 10 716) 11 717) 12 722)))] := hD
  refine lv_dup hx hb d_mLines_init_965 rfl ?_
  refine lv_bipush (v := 13) hx hb d_mLines_init_966 (by decide) ?_
  refine lv_sipush (v := 723) hx hb d_mLines_init_968 (by decide) ?_
  refine va_iast hx hb hK hP hD hS 3 2 rfl rfl (show ¬ ((13 : Int32) < 0 ∨ 27 ≤ (13 : Int32).toNatClampNeg) by decide) d_mLines_init_971 (fun H locs hP hD hS => ?_)
  rw [show (13 : Int32).toNatClampNeg = 13 by decide] at hP hD
  have hP : va_P (dC, dI) vcl [(h0, .inr (14, [.ref q_1, .ref q_15, .null, .null, .null, .null, .int 0, .null, .null, .null, .long 0, .null, .int 0, .int 0, .int 0, .int 0, .int 0, .int 0, .int 0, .null, .null])), (q_1, .inl (cA_2, 64, .inl (upd (upd (upd f_14 61 306) 62 307) 63 308))), (q_15, .inl (cA_16, 64, .inl (upd (upd (upd f_28 61 4186) 62 4198) 63 4199))), (q_29, .inl (cA_30, 27, .inl (upd (upd (upd (upd f_32 10 716) 11 717) 12 722) 13 723)))] H := hP
  have hD : va_D A [(h0, .inr (14, [.ref q_1, .ref q_15, .null, .null, .null, .null, .int 0, .null, .null, .null, .long 0, .null, .int 0, .int 0, .int 0, .int 0, .int 0, .int 0, .int 0, .null, .null])), (q_1, .inl (cA_2, 64, .inl (upd (upd (upd f_14 61 306) 62 307) 63 308))), (q_15, .inl (cA_16, 64, .inl (upd (upd (upd f_28 61 4186) 62 4198) 63 4199))), (q_29, .inl (cA_30, 27, .inl (upd (upd (upd (upd f_32 10 716) 11 717) 12 722) 13 723)))] := hD
  refine lv_dup hx hb d_mLines_init_972 rfl ?_
  refine lv_bipush (v := 14) hx hb d_mLines_init_973 (by decide) ?_
  refine lv_sipush (v := 724) hx hb d_mLines_init_975 (by decide) ?_
  refine va_iast hx hb hK hP hD hS 3 2 rfl rfl (show ¬ ((14 : Int32) < 0 ∨ 27 ≤ (14 : Int32).toNatClampNeg) by decide) d_mLines_init_978 (fun H locs hP hD hS => ?_)
  rw [show (14 : Int32).toNatClampNeg = 14 by decide] at hP hD
  obtain ⟨f_33, ef_33⟩ : ∃ y : Nat → Int32, y = upd (upd (upd (upd (upd f_32 10 716) 11 717) 12 722) 13 723) 14 724 := ⟨_, rfl⟩
  have hP : va_P (dC, dI) vcl [(h0, .inr (14, [.ref q_1, .ref q_15, .null, .null, .null, .null, .int 0, .null, .null, .null, .long 0, .null, .int 0, .int 0, .int 0, .int 0, .int 0, .int 0, .int 0, .null, .null])), (q_1, .inl (cA_2, 64, .inl (upd (upd (upd f_14 61 306) 62 307) 63 308))), (q_15, .inl (cA_16, 64, .inl (upd (upd (upd f_28 61 4186) 62 4198) 63 4199))), (q_29, .inl (cA_30, 27, .inl (upd (upd (upd (upd (upd f_32 10 716) 11 717) 12 722) 13 723) 14 724)))] H := hP
  have hD : va_D A [(h0, .inr (14, [.ref q_1, .ref q_15, .null, .null, .null, .null, .int 0, .null, .null, .null, .long 0, .null, .int 0, .int 0, .int 0, .int 0, .int 0, .int 0, .int 0, .null, .null])), (q_1, .inl (cA_2, 64, .inl (upd (upd (upd f_14 61 306) 62 307) 63 308))), (q_15, .inl (cA_16, 64, .inl (upd (upd (upd f_28 61 4186) 62 4198) 63 4199))), (q_29, .inl (cA_30, 27, .inl (upd (upd (upd (upd (upd f_32 10 716) 11 717) 12 722) 13 723) 14 724)))] := hD
  rw [← ef_33] at hP hD
  have hP : va_P (dC, dI) vcl [(h0, .inr (14, [.ref q_1, .ref q_15, .null, .null, .null, .null, .int 0, .null, .null, .null, .long 0, .null, .int 0, .int 0, .int 0, .int 0, .int 0, .int 0, .int 0, .null, .null])), (q_1, .inl (cA_2, 64, .inl (upd (upd (upd f_14 61 306) 62 307) 63 308))), (q_15, .inl (cA_16, 64, .inl (upd (upd (upd f_28 61 4186) 62 4198) 63 4199))), (q_29, .inl (cA_30, 27, .inl f_33))] H := hP
  have hD : va_D A [(h0, .inr (14, [.ref q_1, .ref q_15, .null, .null, .null, .null, .int 0, .null, .null, .null, .long 0, .null, .int 0, .int 0, .int 0, .int 0, .int 0, .int 0, .int 0, .null, .null])), (q_1, .inl (cA_2, 64, .inl (upd (upd (upd f_14 61 306) 62 307) 63 308))), (q_15, .inl (cA_16, 64, .inl (upd (upd (upd f_28 61 4186) 62 4198) 63 4199))), (q_29, .inl (cA_30, 27, .inl f_33))] := hD
  refine lv_dup hx hb d_mLines_init_979 rfl ?_
  refine lv_bipush (v := 15) hx hb d_mLines_init_980 (by decide) ?_
  refine lv_sipush (v := 725) hx hb d_mLines_init_982 (by decide) ?_
  refine va_iast hx hb hK hP hD hS 3 2 rfl rfl (show ¬ ((15 : Int32) < 0 ∨ 27 ≤ (15 : Int32).toNatClampNeg) by decide) d_mLines_init_985 (fun H locs hP hD hS => ?_)
  rw [show (15 : Int32).toNatClampNeg = 15 by decide] at hP hD
  have hP : va_P (dC, dI) vcl [(h0, .inr (14, [.ref q_1, .ref q_15, .null, .null, .null, .null, .int 0, .null, .null, .null, .long 0, .null, .int 0, .int 0, .int 0, .int 0, .int 0, .int 0, .int 0, .null, .null])), (q_1, .inl (cA_2, 64, .inl (upd (upd (upd f_14 61 306) 62 307) 63 308))), (q_15, .inl (cA_16, 64, .inl (upd (upd (upd f_28 61 4186) 62 4198) 63 4199))), (q_29, .inl (cA_30, 27, .inl (upd f_33 15 725)))] H := hP
  have hD : va_D A [(h0, .inr (14, [.ref q_1, .ref q_15, .null, .null, .null, .null, .int 0, .null, .null, .null, .long 0, .null, .int 0, .int 0, .int 0, .int 0, .int 0, .int 0, .int 0, .null, .null])), (q_1, .inl (cA_2, 64, .inl (upd (upd (upd f_14 61 306) 62 307) 63 308))), (q_15, .inl (cA_16, 64, .inl (upd (upd (upd f_28 61 4186) 62 4198) 63 4199))), (q_29, .inl (cA_30, 27, .inl (upd f_33 15 725)))] := hD
  refine lv_dup hx hb d_mLines_init_986 rfl ?_
  refine lv_bipush (v := 16) hx hb d_mLines_init_987 (by decide) ?_
  refine lv_sipush (v := 726) hx hb d_mLines_init_989 (by decide) ?_
  refine va_iast hx hb hK hP hD hS 3 2 rfl rfl (show ¬ ((16 : Int32) < 0 ∨ 27 ≤ (16 : Int32).toNatClampNeg) by decide) d_mLines_init_992 (fun H locs hP hD hS => ?_)
  rw [show (16 : Int32).toNatClampNeg = 16 by decide] at hP hD
  have hP : va_P (dC, dI) vcl [(h0, .inr (14, [.ref q_1, .ref q_15, .null, .null, .null, .null, .int 0, .null, .null, .null, .long 0, .null, .int 0, .int 0, .int 0, .int 0, .int 0, .int 0, .int 0, .null, .null])), (q_1, .inl (cA_2, 64, .inl (upd (upd (upd f_14 61 306) 62 307) 63 308))), (q_15, .inl (cA_16, 64, .inl (upd (upd (upd f_28 61 4186) 62 4198) 63 4199))), (q_29, .inl (cA_30, 27, .inl (upd (upd f_33 15 725) 16 726)))] H := hP
  have hD : va_D A [(h0, .inr (14, [.ref q_1, .ref q_15, .null, .null, .null, .null, .int 0, .null, .null, .null, .long 0, .null, .int 0, .int 0, .int 0, .int 0, .int 0, .int 0, .int 0, .null, .null])), (q_1, .inl (cA_2, 64, .inl (upd (upd (upd f_14 61 306) 62 307) 63 308))), (q_15, .inl (cA_16, 64, .inl (upd (upd (upd f_28 61 4186) 62 4198) 63 4199))), (q_29, .inl (cA_30, 27, .inl (upd (upd f_33 15 725) 16 726)))] := hD
  refine lv_dup hx hb d_mLines_init_993 rfl ?_
  refine lv_bipush (v := 17) hx hb d_mLines_init_994 (by decide) ?_
  refine lv_sipush (v := 727) hx hb d_mLines_init_996 (by decide) ?_
  refine va_iast hx hb hK hP hD hS 3 2 rfl rfl (show ¬ ((17 : Int32) < 0 ∨ 27 ≤ (17 : Int32).toNatClampNeg) by decide) d_mLines_init_999 (fun H locs hP hD hS => ?_)
  rw [show (17 : Int32).toNatClampNeg = 17 by decide] at hP hD
  have hP : va_P (dC, dI) vcl [(h0, .inr (14, [.ref q_1, .ref q_15, .null, .null, .null, .null, .int 0, .null, .null, .null, .long 0, .null, .int 0, .int 0, .int 0, .int 0, .int 0, .int 0, .int 0, .null, .null])), (q_1, .inl (cA_2, 64, .inl (upd (upd (upd f_14 61 306) 62 307) 63 308))), (q_15, .inl (cA_16, 64, .inl (upd (upd (upd f_28 61 4186) 62 4198) 63 4199))), (q_29, .inl (cA_30, 27, .inl (upd (upd (upd f_33 15 725) 16 726) 17 727)))] H := hP
  have hD : va_D A [(h0, .inr (14, [.ref q_1, .ref q_15, .null, .null, .null, .null, .int 0, .null, .null, .null, .long 0, .null, .int 0, .int 0, .int 0, .int 0, .int 0, .int 0, .int 0, .null, .null])), (q_1, .inl (cA_2, 64, .inl (upd (upd (upd f_14 61 306) 62 307) 63 308))), (q_15, .inl (cA_16, 64, .inl (upd (upd (upd f_28 61 4186) 62 4198) 63 4199))), (q_29, .inl (cA_30, 27, .inl (upd (upd (upd f_33 15 725) 16 726) 17 727)))] := hD
  refine lv_dup hx hb d_mLines_init_1000 rfl ?_
  refine lv_bipush (v := 18) hx hb d_mLines_init_1001 (by decide) ?_
  refine lv_sipush (v := 728) hx hb d_mLines_init_1003 (by decide) ?_
  refine va_iast hx hb hK hP hD hS 3 2 rfl rfl (show ¬ ((18 : Int32) < 0 ∨ 27 ≤ (18 : Int32).toNatClampNeg) by decide) d_mLines_init_1006 (fun H locs hP hD hS => ?_)
  rw [show (18 : Int32).toNatClampNeg = 18 by decide] at hP hD
  have hP : va_P (dC, dI) vcl [(h0, .inr (14, [.ref q_1, .ref q_15, .null, .null, .null, .null, .int 0, .null, .null, .null, .long 0, .null, .int 0, .int 0, .int 0, .int 0, .int 0, .int 0, .int 0, .null, .null])), (q_1, .inl (cA_2, 64, .inl (upd (upd (upd f_14 61 306) 62 307) 63 308))), (q_15, .inl (cA_16, 64, .inl (upd (upd (upd f_28 61 4186) 62 4198) 63 4199))), (q_29, .inl (cA_30, 27, .inl (upd (upd (upd (upd f_33 15 725) 16 726) 17 727) 18 728)))] H := hP
  have hD : va_D A [(h0, .inr (14, [.ref q_1, .ref q_15, .null, .null, .null, .null, .int 0, .null, .null, .null, .long 0, .null, .int 0, .int 0, .int 0, .int 0, .int 0, .int 0, .int 0, .null, .null])), (q_1, .inl (cA_2, 64, .inl (upd (upd (upd f_14 61 306) 62 307) 63 308))), (q_15, .inl (cA_16, 64, .inl (upd (upd (upd f_28 61 4186) 62 4198) 63 4199))), (q_29, .inl (cA_30, 27, .inl (upd (upd (upd (upd f_33 15 725) 16 726) 17 727) 18 728)))] := hD
  refine lv_dup hx hb d_mLines_init_1007 rfl ?_
  refine lv_bipush (v := 19) hx hb d_mLines_init_1008 (by decide) ?_
  refine lv_sipush (v := 729) hx hb d_mLines_init_1010 (by decide) ?_
  refine va_iast hx hb hK hP hD hS 3 2 rfl rfl (show ¬ ((19 : Int32) < 0 ∨ 27 ≤ (19 : Int32).toNatClampNeg) by decide) d_mLines_init_1013 (fun H locs hP hD hS => ?_)
  rw [show (19 : Int32).toNatClampNeg = 19 by decide] at hP hD
  obtain ⟨f_34, ef_34⟩ : ∃ y : Nat → Int32, y = upd (upd (upd (upd (upd f_33 15 725) 16 726) 17 727) 18 728) 19 729 := ⟨_, rfl⟩
  have hP : va_P (dC, dI) vcl [(h0, .inr (14, [.ref q_1, .ref q_15, .null, .null, .null, .null, .int 0, .null, .null, .null, .long 0, .null, .int 0, .int 0, .int 0, .int 0, .int 0, .int 0, .int 0, .null, .null])), (q_1, .inl (cA_2, 64, .inl (upd (upd (upd f_14 61 306) 62 307) 63 308))), (q_15, .inl (cA_16, 64, .inl (upd (upd (upd f_28 61 4186) 62 4198) 63 4199))), (q_29, .inl (cA_30, 27, .inl (upd (upd (upd (upd (upd f_33 15 725) 16 726) 17 727) 18 728) 19 729)))] H := hP
  have hD : va_D A [(h0, .inr (14, [.ref q_1, .ref q_15, .null, .null, .null, .null, .int 0, .null, .null, .null, .long 0, .null, .int 0, .int 0, .int 0, .int 0, .int 0, .int 0, .int 0, .null, .null])), (q_1, .inl (cA_2, 64, .inl (upd (upd (upd f_14 61 306) 62 307) 63 308))), (q_15, .inl (cA_16, 64, .inl (upd (upd (upd f_28 61 4186) 62 4198) 63 4199))), (q_29, .inl (cA_30, 27, .inl (upd (upd (upd (upd (upd f_33 15 725) 16 726) 17 727) 18 728) 19 729)))] := hD
  rw [← ef_34] at hP hD
  have hP : va_P (dC, dI) vcl [(h0, .inr (14, [.ref q_1, .ref q_15, .null, .null, .null, .null, .int 0, .null, .null, .null, .long 0, .null, .int 0, .int 0, .int 0, .int 0, .int 0, .int 0, .int 0, .null, .null])), (q_1, .inl (cA_2, 64, .inl (upd (upd (upd f_14 61 306) 62 307) 63 308))), (q_15, .inl (cA_16, 64, .inl (upd (upd (upd f_28 61 4186) 62 4198) 63 4199))), (q_29, .inl (cA_30, 27, .inl f_34))] H := hP
  have hD : va_D A [(h0, .inr (14, [.ref q_1, .ref q_15, .null, .null, .null, .null, .int 0, .null, .null, .null, .long 0, .null, .int 0, .int 0, .int 0, .int 0, .int 0, .int 0, .int 0, .null, .null])), (q_1, .inl (cA_2, 64, .inl (upd (upd (upd f_14 61 306) 62 307) 63 308))), (q_15, .inl (cA_16, 64, .inl (upd (upd (upd f_28 61 4186) 62 4198) 63 4199))), (q_29, .inl (cA_30, 27, .inl f_34))] := hD
  refine lv_dup hx hb d_mLines_init_1014 rfl ?_
  refine lv_bipush (v := 20) hx hb d_mLines_init_1015 (by decide) ?_
  refine lv_sipush (v := 730) hx hb d_mLines_init_1017 (by decide) ?_
  refine va_iast hx hb hK hP hD hS 3 2 rfl rfl (show ¬ ((20 : Int32) < 0 ∨ 27 ≤ (20 : Int32).toNatClampNeg) by decide) d_mLines_init_1020 (fun H locs hP hD hS => ?_)
  rw [show (20 : Int32).toNatClampNeg = 20 by decide] at hP hD
  have hP : va_P (dC, dI) vcl [(h0, .inr (14, [.ref q_1, .ref q_15, .null, .null, .null, .null, .int 0, .null, .null, .null, .long 0, .null, .int 0, .int 0, .int 0, .int 0, .int 0, .int 0, .int 0, .null, .null])), (q_1, .inl (cA_2, 64, .inl (upd (upd (upd f_14 61 306) 62 307) 63 308))), (q_15, .inl (cA_16, 64, .inl (upd (upd (upd f_28 61 4186) 62 4198) 63 4199))), (q_29, .inl (cA_30, 27, .inl (upd f_34 20 730)))] H := hP
  have hD : va_D A [(h0, .inr (14, [.ref q_1, .ref q_15, .null, .null, .null, .null, .int 0, .null, .null, .null, .long 0, .null, .int 0, .int 0, .int 0, .int 0, .int 0, .int 0, .int 0, .null, .null])), (q_1, .inl (cA_2, 64, .inl (upd (upd (upd f_14 61 306) 62 307) 63 308))), (q_15, .inl (cA_16, 64, .inl (upd (upd (upd f_28 61 4186) 62 4198) 63 4199))), (q_29, .inl (cA_30, 27, .inl (upd f_34 20 730)))] := hD
  refine lv_dup hx hb d_mLines_init_1021 rfl ?_
  refine lv_bipush (v := 21) hx hb d_mLines_init_1022 (by decide) ?_
  refine lv_sipush (v := 731) hx hb d_mLines_init_1024 (by decide) ?_
  refine va_iast hx hb hK hP hD hS 3 2 rfl rfl (show ¬ ((21 : Int32) < 0 ∨ 27 ≤ (21 : Int32).toNatClampNeg) by decide) d_mLines_init_1027 (fun H locs hP hD hS => ?_)
  rw [show (21 : Int32).toNatClampNeg = 21 by decide] at hP hD
  have hP : va_P (dC, dI) vcl [(h0, .inr (14, [.ref q_1, .ref q_15, .null, .null, .null, .null, .int 0, .null, .null, .null, .long 0, .null, .int 0, .int 0, .int 0, .int 0, .int 0, .int 0, .int 0, .null, .null])), (q_1, .inl (cA_2, 64, .inl (upd (upd (upd f_14 61 306) 62 307) 63 308))), (q_15, .inl (cA_16, 64, .inl (upd (upd (upd f_28 61 4186) 62 4198) 63 4199))), (q_29, .inl (cA_30, 27, .inl (upd (upd f_34 20 730) 21 731)))] H := hP
  have hD : va_D A [(h0, .inr (14, [.ref q_1, .ref q_15, .null, .null, .null, .null, .int 0, .null, .null, .null, .long 0, .null, .int 0, .int 0, .int 0, .int 0, .int 0, .int 0, .int 0, .null, .null])), (q_1, .inl (cA_2, 64, .inl (upd (upd (upd f_14 61 306) 62 307) 63 308))), (q_15, .inl (cA_16, 64, .inl (upd (upd (upd f_28 61 4186) 62 4198) 63 4199))), (q_29, .inl (cA_30, 27, .inl (upd (upd f_34 20 730) 21 731)))] := hD
  refine lv_dup hx hb d_mLines_init_1028 rfl ?_
  refine lv_bipush (v := 22) hx hb d_mLines_init_1029 (by decide) ?_
  refine lv_sipush (v := 664) hx hb d_mLines_init_1031 (by decide) ?_
  refine va_iast hx hb hK hP hD hS 3 2 rfl rfl (show ¬ ((22 : Int32) < 0 ∨ 27 ≤ (22 : Int32).toNatClampNeg) by decide) d_mLines_init_1034 (fun H locs hP hD hS => ?_)
  rw [show (22 : Int32).toNatClampNeg = 22 by decide] at hP hD
  have hP : va_P (dC, dI) vcl [(h0, .inr (14, [.ref q_1, .ref q_15, .null, .null, .null, .null, .int 0, .null, .null, .null, .long 0, .null, .int 0, .int 0, .int 0, .int 0, .int 0, .int 0, .int 0, .null, .null])), (q_1, .inl (cA_2, 64, .inl (upd (upd (upd f_14 61 306) 62 307) 63 308))), (q_15, .inl (cA_16, 64, .inl (upd (upd (upd f_28 61 4186) 62 4198) 63 4199))), (q_29, .inl (cA_30, 27, .inl (upd (upd (upd f_34 20 730) 21 731) 22 664)))] H := hP
  have hD : va_D A [(h0, .inr (14, [.ref q_1, .ref q_15, .null, .null, .null, .null, .int 0, .null, .null, .null, .long 0, .null, .int 0, .int 0, .int 0, .int 0, .int 0, .int 0, .int 0, .null, .null])), (q_1, .inl (cA_2, 64, .inl (upd (upd (upd f_14 61 306) 62 307) 63 308))), (q_15, .inl (cA_16, 64, .inl (upd (upd (upd f_28 61 4186) 62 4198) 63 4199))), (q_29, .inl (cA_30, 27, .inl (upd (upd (upd f_34 20 730) 21 731) 22 664)))] := hD
  refine lv_dup hx hb d_mLines_init_1035 rfl ?_
  refine lv_bipush (v := 23) hx hb d_mLines_init_1036 (by decide) ?_
  refine lv_sipush (v := 665) hx hb d_mLines_init_1038 (by decide) ?_
  refine va_iast hx hb hK hP hD hS 3 2 rfl rfl (show ¬ ((23 : Int32) < 0 ∨ 27 ≤ (23 : Int32).toNatClampNeg) by decide) d_mLines_init_1041 (fun H locs hP hD hS => ?_)
  rw [show (23 : Int32).toNatClampNeg = 23 by decide] at hP hD
  have hP : va_P (dC, dI) vcl [(h0, .inr (14, [.ref q_1, .ref q_15, .null, .null, .null, .null, .int 0, .null, .null, .null, .long 0, .null, .int 0, .int 0, .int 0, .int 0, .int 0, .int 0, .int 0, .null, .null])), (q_1, .inl (cA_2, 64, .inl (upd (upd (upd f_14 61 306) 62 307) 63 308))), (q_15, .inl (cA_16, 64, .inl (upd (upd (upd f_28 61 4186) 62 4198) 63 4199))), (q_29, .inl (cA_30, 27, .inl (upd (upd (upd (upd f_34 20 730) 21 731) 22 664) 23 665)))] H := hP
  have hD : va_D A [(h0, .inr (14, [.ref q_1, .ref q_15, .null, .null, .null, .null, .int 0, .null, .null, .null, .long 0, .null, .int 0, .int 0, .int 0, .int 0, .int 0, .int 0, .int 0, .null, .null])), (q_1, .inl (cA_2, 64, .inl (upd (upd (upd f_14 61 306) 62 307) 63 308))), (q_15, .inl (cA_16, 64, .inl (upd (upd (upd f_28 61 4186) 62 4198) 63 4199))), (q_29, .inl (cA_30, 27, .inl (upd (upd (upd (upd f_34 20 730) 21 731) 22 664) 23 665)))] := hD
  refine lv_dup hx hb d_mLines_init_1042 rfl ?_
  refine lv_bipush (v := 24) hx hb d_mLines_init_1043 (by decide) ?_
  refine lv_sipush (v := 666) hx hb d_mLines_init_1045 (by decide) ?_
  refine va_iast hx hb hK hP hD hS 3 2 rfl rfl (show ¬ ((24 : Int32) < 0 ∨ 27 ≤ (24 : Int32).toNatClampNeg) by decide) d_mLines_init_1048 (fun H locs hP hD hS => ?_)
  rw [show (24 : Int32).toNatClampNeg = 24 by decide] at hP hD
  obtain ⟨f_35, ef_35⟩ : ∃ y : Nat → Int32, y = upd (upd (upd (upd (upd f_34 20 730) 21 731) 22 664) 23 665) 24 666 := ⟨_, rfl⟩
  have hP : va_P (dC, dI) vcl [(h0, .inr (14, [.ref q_1, .ref q_15, .null, .null, .null, .null, .int 0, .null, .null, .null, .long 0, .null, .int 0, .int 0, .int 0, .int 0, .int 0, .int 0, .int 0, .null, .null])), (q_1, .inl (cA_2, 64, .inl (upd (upd (upd f_14 61 306) 62 307) 63 308))), (q_15, .inl (cA_16, 64, .inl (upd (upd (upd f_28 61 4186) 62 4198) 63 4199))), (q_29, .inl (cA_30, 27, .inl (upd (upd (upd (upd (upd f_34 20 730) 21 731) 22 664) 23 665) 24 666)))] H := hP
  have hD : va_D A [(h0, .inr (14, [.ref q_1, .ref q_15, .null, .null, .null, .null, .int 0, .null, .null, .null, .long 0, .null, .int 0, .int 0, .int 0, .int 0, .int 0, .int 0, .int 0, .null, .null])), (q_1, .inl (cA_2, 64, .inl (upd (upd (upd f_14 61 306) 62 307) 63 308))), (q_15, .inl (cA_16, 64, .inl (upd (upd (upd f_28 61 4186) 62 4198) 63 4199))), (q_29, .inl (cA_30, 27, .inl (upd (upd (upd (upd (upd f_34 20 730) 21 731) 22 664) 23 665) 24 666)))] := hD
  rw [← ef_35] at hP hD
  have hP : va_P (dC, dI) vcl [(h0, .inr (14, [.ref q_1, .ref q_15, .null, .null, .null, .null, .int 0, .null, .null, .null, .long 0, .null, .int 0, .int 0, .int 0, .int 0, .int 0, .int 0, .int 0, .null, .null])), (q_1, .inl (cA_2, 64, .inl (upd (upd (upd f_14 61 306) 62 307) 63 308))), (q_15, .inl (cA_16, 64, .inl (upd (upd (upd f_28 61 4186) 62 4198) 63 4199))), (q_29, .inl (cA_30, 27, .inl f_35))] H := hP
  have hD : va_D A [(h0, .inr (14, [.ref q_1, .ref q_15, .null, .null, .null, .null, .int 0, .null, .null, .null, .long 0, .null, .int 0, .int 0, .int 0, .int 0, .int 0, .int 0, .int 0, .null, .null])), (q_1, .inl (cA_2, 64, .inl (upd (upd (upd f_14 61 306) 62 307) 63 308))), (q_15, .inl (cA_16, 64, .inl (upd (upd (upd f_28 61 4186) 62 4198) 63 4199))), (q_29, .inl (cA_30, 27, .inl f_35))] := hD
  refine lv_dup hx hb d_mLines_init_1049 rfl ?_
  refine lv_bipush (v := 25) hx hb d_mLines_init_1050 (by decide) ?_
  refine lv_bipush (v := 88) hx hb d_mLines_init_1052 (by decide) ?_
  refine va_iast hx hb hK hP hD hS 3 2 rfl rfl (show ¬ ((25 : Int32) < 0 ∨ 27 ≤ (25 : Int32).toNatClampNeg) by decide) d_mLines_init_1054 (fun H locs hP hD hS => ?_)
  rw [show (25 : Int32).toNatClampNeg = 25 by decide] at hP hD
  have hP : va_P (dC, dI) vcl [(h0, .inr (14, [.ref q_1, .ref q_15, .null, .null, .null, .null, .int 0, .null, .null, .null, .long 0, .null, .int 0, .int 0, .int 0, .int 0, .int 0, .int 0, .int 0, .null, .null])), (q_1, .inl (cA_2, 64, .inl (upd (upd (upd f_14 61 306) 62 307) 63 308))), (q_15, .inl (cA_16, 64, .inl (upd (upd (upd f_28 61 4186) 62 4198) 63 4199))), (q_29, .inl (cA_30, 27, .inl (upd f_35 25 88)))] H := hP
  have hD : va_D A [(h0, .inr (14, [.ref q_1, .ref q_15, .null, .null, .null, .null, .int 0, .null, .null, .null, .long 0, .null, .int 0, .int 0, .int 0, .int 0, .int 0, .int 0, .int 0, .null, .null])), (q_1, .inl (cA_2, 64, .inl (upd (upd (upd f_14 61 306) 62 307) 63 308))), (q_15, .inl (cA_16, 64, .inl (upd (upd (upd f_28 61 4186) 62 4198) 63 4199))), (q_29, .inl (cA_30, 27, .inl (upd f_35 25 88)))] := hD
  refine lv_dup hx hb d_mLines_init_1055 rfl ?_
  refine lv_bipush (v := 26) hx hb d_mLines_init_1056 (by decide) ?_
  refine lv_sipush (v := 667) hx hb d_mLines_init_1058 (by decide) ?_
  refine va_iast hx hb hK hP hD hS 3 2 rfl rfl (show ¬ ((26 : Int32) < 0 ∨ 27 ≤ (26 : Int32).toNatClampNeg) by decide) d_mLines_init_1061 (fun H locs hP hD hS => ?_)
  rw [show (26 : Int32).toNatClampNeg = 26 by decide] at hP hD
  have hP : va_P (dC, dI) vcl [(h0, .inr (14, [.ref q_1, .ref q_15, .null, .null, .null, .null, .int 0, .null, .null, .null, .long 0, .null, .int 0, .int 0, .int 0, .int 0, .int 0, .int 0, .int 0, .null, .null])), (q_1, .inl (cA_2, 64, .inl (upd (upd (upd f_14 61 306) 62 307) 63 308))), (q_15, .inl (cA_16, 64, .inl (upd (upd (upd f_28 61 4186) 62 4198) 63 4199))), (q_29, .inl (cA_30, 27, .inl (upd (upd f_35 25 88) 26 667)))] H := hP
  have hD : va_D A [(h0, .inr (14, [.ref q_1, .ref q_15, .null, .null, .null, .null, .int 0, .null, .null, .null, .long 0, .null, .int 0, .int 0, .int 0, .int 0, .int 0, .int 0, .int 0, .null, .null])), (q_1, .inl (cA_2, 64, .inl (upd (upd (upd f_14 61 306) 62 307) 63 308))), (q_15, .inl (cA_16, 64, .inl (upd (upd (upd f_28 61 4186) 62 4198) 63 4199))), (q_29, .inl (cA_30, 27, .inl (upd (upd f_35 25 88) 26 667)))] := hD
  refine va_putF (D := (dC, dI)) (ci := 14) (v := .ref q_29) (ty := (.array .int)) (C := R_mLines) (T := F_mLines) (N := 21) hx hb hwd i_mLines t_mLines to_mLines no_mLines hown hK hP hD hS 0 rfl rfl 2 (by decide) (hwd _ wd_10_85) (fun _ h9 => h9) rfl hin rfl (by decide +kernel) rfl rfl (Nat.le_of_ble_eq_true rfl) d_mLines_init_1062 (fun H locs hP hD hS => ?_)
  have hP : va_P (dC, dI) vcl [(h0, .inr (14, [.ref q_1, .ref q_15, .ref q_29, .null, .null, .null, .int 0, .null, .null, .null, .long 0, .null, .int 0, .int 0, .int 0, .int 0, .int 0, .int 0, .int 0, .null, .null])), (q_1, .inl (cA_2, 64, .inl (upd (upd (upd f_14 61 306) 62 307) 63 308))), (q_15, .inl (cA_16, 64, .inl (upd (upd (upd f_28 61 4186) 62 4198) 63 4199))), (q_29, .inl (cA_30, 27, .inl (upd (upd f_35 25 88) 26 667)))] H := hP
  have hD : va_D A [(h0, .inr (14, [.ref q_1, .ref q_15, .ref q_29, .null, .null, .null, .int 0, .null, .null, .null, .long 0, .null, .int 0, .int 0, .int 0, .int 0, .int 0, .int 0, .int 0, .null, .null])), (q_1, .inl (cA_2, 64, .inl (upd (upd (upd f_14 61 306) 62 307) 63 308))), (q_15, .inl (cA_16, 64, .inl (upd (upd (upd f_28 61 4186) 62 4198) 63 4199))), (q_29, .inl (cA_30, 27, .inl (upd (upd f_35 25 88) 26 667)))] := hD
  refine lv_aload_n hx hb d_mLines_init_1065 rfl (lv_at hl 0 rfl) ?_
  refine lv_bipush (v := 27) hx hb d_mLines_init_1066 (by decide) ?_
  refine va_newa (atype := .int) (N' := 27) (a0 := (27, .inl (fun _ => 0))) (ty := .int) (n := 27) hx hb (hwd _ wd_1_167) rfl hK hP hD hS hA (fun _ => rfl) (by decide) (by decide) (by decide) (Nat.le_of_ble_eq_true rfl) (Nat.le_of_ble_eq_true rfl) d_mLines_init_1068 (fun q_36 cA_37 H hK hP hD hS => ?_)
  have hP : va_P (dC, dI) vcl [(h0, .inr (14, [.ref q_1, .ref q_15, .ref q_29, .null, .null, .null, .int 0, .null, .null, .null, .long 0, .null, .int 0, .int 0, .int 0, .int 0, .int 0, .int 0, .int 0, .null, .null])), (q_1, .inl (cA_2, 64, .inl (upd (upd (upd f_14 61 306) 62 307) 63 308))), (q_15, .inl (cA_16, 64, .inl (upd (upd (upd f_28 61 4186) 62 4198) 63 4199))), (q_29, .inl (cA_30, 27, .inl (upd (upd f_35 25 88) 26 667))), (q_36, .inl (cA_37, 27, .inl (fun _ => 0)))] H := hP
  have hD : va_D A [(h0, .inr (14, [.ref q_1, .ref q_15, .ref q_29, .null, .null, .null, .int 0, .null, .null, .null, .long 0, .null, .int 0, .int 0, .int 0, .int 0, .int 0, .int 0, .int 0, .null, .null])), (q_1, .inl (cA_2, 64, .inl (upd (upd (upd f_14 61 306) 62 307) 63 308))), (q_15, .inl (cA_16, 64, .inl (upd (upd (upd f_28 61 4186) 62 4198) 63 4199))), (q_29, .inl (cA_30, 27, .inl (upd (upd f_35 25 88) 26 667))), (q_36, .inl (cA_37, 27, .inl (fun _ => 0)))] := hD
  have hK : va_K (dC, dI) vcl [(cA_2, .int), (cA_16, .int), (cA_30, .int), (cA_37, .int)] s := hK
  refine W.widen (k := 4) (n := 182) (by decide) (by decide) ?_
  refine lv_dup hx hb d_mLines_init_1070 rfl ?_
  refine lv_iconst (v := 0) hx hb d_mLines_init_1071 (by decide) ?_
  refine lv_sipush (v := 1039) hx hb d_mLines_init_1072 (by decide) ?_
  refine va_iast hx hb hK hP hD hS 4 3 rfl rfl (show ¬ ((0 : Int32) < 0 ∨ 27 ≤ (0 : Int32).toNatClampNeg) by decide) d_mLines_init_1075 (fun H locs hP hD hS => ?_)
  rw [show (0 : Int32).toNatClampNeg = 0 by decide] at hP hD
  have hP : va_P (dC, dI) vcl [(h0, .inr (14, [.ref q_1, .ref q_15, .ref q_29, .null, .null, .null, .int 0, .null, .null, .null, .long 0, .null, .int 0, .int 0, .int 0, .int 0, .int 0, .int 0, .int 0, .null, .null])), (q_1, .inl (cA_2, 64, .inl (upd (upd (upd f_14 61 306) 62 307) 63 308))), (q_15, .inl (cA_16, 64, .inl (upd (upd (upd f_28 61 4186) 62 4198) 63 4199))), (q_29, .inl (cA_30, 27, .inl (upd (upd f_35 25 88) 26 667))), (q_36, .inl (cA_37, 27, .inl (upd (fun _ => 0) 0 1039)))] H := hP
  have hD : va_D A [(h0, .inr (14, [.ref q_1, .ref q_15, .ref q_29, .null, .null, .null, .int 0, .null, .null, .null, .long 0, .null, .int 0, .int 0, .int 0, .int 0, .int 0, .int 0, .int 0, .null, .null])), (q_1, .inl (cA_2, 64, .inl (upd (upd (upd f_14 61 306) 62 307) 63 308))), (q_15, .inl (cA_16, 64, .inl (upd (upd (upd f_28 61 4186) 62 4198) 63 4199))), (q_29, .inl (cA_30, 27, .inl (upd (upd f_35 25 88) 26 667))), (q_36, .inl (cA_37, 27, .inl (upd (fun _ => 0) 0 1039)))] := hD
  refine lv_dup hx hb d_mLines_init_1076 rfl ?_
  refine lv_iconst (v := 1) hx hb d_mLines_init_1077 (by decide) ?_
  refine lv_sipush (v := 4296) hx hb d_mLines_init_1078 (by decide) ?_
  refine va_iast hx hb hK hP hD hS 4 3 rfl rfl (show ¬ ((1 : Int32) < 0 ∨ 27 ≤ (1 : Int32).toNatClampNeg) by decide) d_mLines_init_1081 (fun H locs hP hD hS => ?_)
  rw [show (1 : Int32).toNatClampNeg = 1 by decide] at hP hD
  have hP : va_P (dC, dI) vcl [(h0, .inr (14, [.ref q_1, .ref q_15, .ref q_29, .null, .null, .null, .int 0, .null, .null, .null, .long 0, .null, .int 0, .int 0, .int 0, .int 0, .int 0, .int 0, .int 0, .null, .null])), (q_1, .inl (cA_2, 64, .inl (upd (upd (upd f_14 61 306) 62 307) 63 308))), (q_15, .inl (cA_16, 64, .inl (upd (upd (upd f_28 61 4186) 62 4198) 63 4199))), (q_29, .inl (cA_30, 27, .inl (upd (upd f_35 25 88) 26 667))), (q_36, .inl (cA_37, 27, .inl (upd (upd (fun _ => 0) 0 1039) 1 4296)))] H := hP
  have hD : va_D A [(h0, .inr (14, [.ref q_1, .ref q_15, .ref q_29, .null, .null, .null, .int 0, .null, .null, .null, .long 0, .null, .int 0, .int 0, .int 0, .int 0, .int 0, .int 0, .int 0, .null, .null])), (q_1, .inl (cA_2, 64, .inl (upd (upd (upd f_14 61 306) 62 307) 63 308))), (q_15, .inl (cA_16, 64, .inl (upd (upd (upd f_28 61 4186) 62 4198) 63 4199))), (q_29, .inl (cA_30, 27, .inl (upd (upd f_35 25 88) 26 667))), (q_36, .inl (cA_37, 27, .inl (upd (upd (fun _ => 0) 0 1039) 1 4296)))] := hD
  refine lv_dup hx hb d_mLines_init_1082 rfl ?_
  refine lv_iconst (v := 2) hx hb d_mLines_init_1083 (by decide) ?_
  refine lv_sipush (v := 4297) hx hb d_mLines_init_1084 (by decide) ?_
  refine va_iast hx hb hK hP hD hS 4 3 rfl rfl (show ¬ ((2 : Int32) < 0 ∨ 27 ≤ (2 : Int32).toNatClampNeg) by decide) d_mLines_init_1087 (fun H locs hP hD hS => ?_)
  rw [show (2 : Int32).toNatClampNeg = 2 by decide] at hP hD
  have hP : va_P (dC, dI) vcl [(h0, .inr (14, [.ref q_1, .ref q_15, .ref q_29, .null, .null, .null, .int 0, .null, .null, .null, .long 0, .null, .int 0, .int 0, .int 0, .int 0, .int 0, .int 0, .int 0, .null, .null])), (q_1, .inl (cA_2, 64, .inl (upd (upd (upd f_14 61 306) 62 307) 63 308))), (q_15, .inl (cA_16, 64, .inl (upd (upd (upd f_28 61 4186) 62 4198) 63 4199))), (q_29, .inl (cA_30, 27, .inl (upd (upd f_35 25 88) 26 667))), (q_36, .inl (cA_37, 27, .inl (upd (upd (upd (fun _ => 0) 0 1039) 1 4296) 2 4297)))] H := hP
  have hD : va_D A [(h0, .inr (14, [.ref q_1, .ref q_15, .ref q_29, .null, .null, .null, .int 0, .null, .null, .null, .long 0, .null, .int 0, .int 0, .int 0, .int 0, .int 0, .int 0, .int 0, .null, .null])), (q_1, .inl (cA_2, 64, .inl (upd (upd (upd f_14 61 306) 62 307) 63 308))), (q_15, .inl (cA_16, 64, .inl (upd (upd (upd f_28 61 4186) 62 4198) 63 4199))), (q_29, .inl (cA_30, 27, .inl (upd (upd f_35 25 88) 26 667))), (q_36, .inl (cA_37, 27, .inl (upd (upd (upd (fun _ => 0) 0 1039) 1 4296) 2 4297)))] := hD
  refine lv_dup hx hb d_mLines_init_1088 rfl ?_
  refine lv_iconst (v := 3) hx hb d_mLines_init_1089 (by decide) ?_
  refine lv_sipush (v := 4187) hx hb d_mLines_init_1090 (by decide) ?_
  refine va_iast hx hb hK hP hD hS 4 3 rfl rfl (show ¬ ((3 : Int32) < 0 ∨ 27 ≤ (3 : Int32).toNatClampNeg) by decide) d_mLines_init_1093 (fun H locs hP hD hS => ?_)
  rw [show (3 : Int32).toNatClampNeg = 3 by decide] at hP hD
  obtain ⟨f_38, ef_38⟩ : ∃ y : Nat → Int32, y = upd (upd (upd (upd (fun _ => 0) 0 1039) 1 4296) 2 4297) 3 4187 := ⟨_, rfl⟩
  have hP : va_P (dC, dI) vcl [(h0, .inr (14, [.ref q_1, .ref q_15, .ref q_29, .null, .null, .null, .int 0, .null, .null, .null, .long 0, .null, .int 0, .int 0, .int 0, .int 0, .int 0, .int 0, .int 0, .null, .null])), (q_1, .inl (cA_2, 64, .inl (upd (upd (upd f_14 61 306) 62 307) 63 308))), (q_15, .inl (cA_16, 64, .inl (upd (upd (upd f_28 61 4186) 62 4198) 63 4199))), (q_29, .inl (cA_30, 27, .inl (upd (upd f_35 25 88) 26 667))), (q_36, .inl (cA_37, 27, .inl (upd (upd (upd (upd (fun _ => 0) 0 1039) 1 4296) 2 4297) 3 4187)))] H := hP
  have hD : va_D A [(h0, .inr (14, [.ref q_1, .ref q_15, .ref q_29, .null, .null, .null, .int 0, .null, .null, .null, .long 0, .null, .int 0, .int 0, .int 0, .int 0, .int 0, .int 0, .int 0, .null, .null])), (q_1, .inl (cA_2, 64, .inl (upd (upd (upd f_14 61 306) 62 307) 63 308))), (q_15, .inl (cA_16, 64, .inl (upd (upd (upd f_28 61 4186) 62 4198) 63 4199))), (q_29, .inl (cA_30, 27, .inl (upd (upd f_35 25 88) 26 667))), (q_36, .inl (cA_37, 27, .inl (upd (upd (upd (upd (fun _ => 0) 0 1039) 1 4296) 2 4297) 3 4187)))] := hD
  rw [← ef_38] at hP hD
  have hP : va_P (dC, dI) vcl [(h0, .inr (14, [.ref q_1, .ref q_15, .ref q_29, .null, .null, .null, .int 0, .null, .null, .null, .long 0, .null, .int 0, .int 0, .int 0, .int 0, .int 0, .int 0, .int 0, .null, .null])), (q_1, .inl (cA_2, 64, .inl (upd (upd (upd f_14 61 306) 62 307) 63 308))), (q_15, .inl (cA_16, 64, .inl (upd (upd (upd f_28 61 4186) 62 4198) 63 4199))), (q_29, .inl (cA_30, 27, .inl (upd (upd f_35 25 88) 26 667))), (q_36, .inl (cA_37, 27, .inl f_38))] H := hP
  have hD : va_D A [(h0, .inr (14, [.ref q_1, .ref q_15, .ref q_29, .null, .null, .null, .int 0, .null, .null, .null, .long 0, .null, .int 0, .int 0, .int 0, .int 0, .int 0, .int 0, .int 0, .null, .null])), (q_1, .inl (cA_2, 64, .inl (upd (upd (upd f_14 61 306) 62 307) 63 308))), (q_15, .inl (cA_16, 64, .inl (upd (upd (upd f_28 61 4186) 62 4198) 63 4199))), (q_29, .inl (cA_30, 27, .inl (upd (upd f_35 25 88) 26 667))), (q_36, .inl (cA_37, 27, .inl f_38))] := hD
  refine lv_dup hx hb d_mLines_init_1094 rfl ?_
  refine lv_iconst (v := 4) hx hb d_mLines_init_1095 (by decide) ?_
  refine lv_sipush (v := 4147) hx hb d_mLines_init_1096 (by decide) ?_
  refine va_iast hx hb hK hP hD hS 4 3 rfl rfl (show ¬ ((4 : Int32) < 0 ∨ 27 ≤ (4 : Int32).toNatClampNeg) by decide) d_mLines_init_1099 (fun H locs hP hD hS => ?_)
  rw [show (4 : Int32).toNatClampNeg = 4 by decide] at hP hD
  have hP : va_P (dC, dI) vcl [(h0, .inr (14, [.ref q_1, .ref q_15, .ref q_29, .null, .null, .null, .int 0, .null, .null, .null, .long 0, .null, .int 0, .int 0, .int 0, .int 0, .int 0, .int 0, .int 0, .null, .null])), (q_1, .inl (cA_2, 64, .inl (upd (upd (upd f_14 61 306) 62 307) 63 308))), (q_15, .inl (cA_16, 64, .inl (upd (upd (upd f_28 61 4186) 62 4198) 63 4199))), (q_29, .inl (cA_30, 27, .inl (upd (upd f_35 25 88) 26 667))), (q_36, .inl (cA_37, 27, .inl (upd f_38 4 4147)))] H := hP
  have hD : va_D A [(h0, .inr (14, [.ref q_1, .ref q_15, .ref q_29, .null, .null, .null, .int 0, .null, .null, .null, .long 0, .null, .int 0, .int 0, .int 0, .int 0, .int 0, .int 0, .int 0, .null, .null])), (q_1, .inl (cA_2, 64, .inl (upd (upd (upd f_14 61 306) 62 307) 63 308))), (q_15, .inl (cA_16, 64, .inl (upd (upd (upd f_28 61 4186) 62 4198) 63 4199))), (q_29, .inl (cA_30, 27, .inl (upd (upd f_35 25 88) 26 667))), (q_36, .inl (cA_37, 27, .inl (upd f_38 4 4147)))] := hD
  refine lv_dup hx hb d_mLines_init_1100 rfl ?_
  refine lv_iconst (v := 5) hx hb d_mLines_init_1101 (by decide) ?_
  refine lv_sipush (v := 4148) hx hb d_mLines_init_1102 (by decide) ?_
  refine va_iast hx hb hK hP hD hS 4 3 rfl rfl (show ¬ ((5 : Int32) < 0 ∨ 27 ≤ (5 : Int32).toNatClampNeg) by decide) d_mLines_init_1105 (fun H locs hP hD hS => ?_)
  rw [show (5 : Int32).toNatClampNeg = 5 by decide] at hP hD
  have hP : va_P (dC, dI) vcl [(h0, .inr (14, [.ref q_1, .ref q_15, .ref q_29, .null, .null, .null, .int 0, .null, .null, .null, .long 0, .null, .int 0, .int 0, .int 0, .int 0, .int 0, .int 0, .int 0, .null, .null])), (q_1, .inl (cA_2, 64, .inl (upd (upd (upd f_14 61 306) 62 307) 63 308))), (q_15, .inl (cA_16, 64, .inl (upd (upd (upd f_28 61 4186) 62 4198) 63 4199))), (q_29, .inl (cA_30, 27, .inl (upd (upd f_35 25 88) 26 667))), (q_36, .inl (cA_37, 27, .inl (upd (upd f_38 4 4147) 5 4148)))] H := hP
  have hD : va_D A [(h0, .inr (14, [.ref q_1, .ref q_15, .ref q_29, .null, .null, .null, .int 0, .null, .null, .null, .long 0, .null, .int 0, .int 0, .int 0, .int 0, .int 0, .int 0, .int 0, .null, .null])), (q_1, .inl (cA_2, 64, .inl (upd (upd (upd f_14 61 306) 62 307) 63 308))), (q_15, .inl (cA_16, 64, .inl (upd (upd (upd f_28 61 4186) 62 4198) 63 4199))), (q_29, .inl (cA_30, 27, .inl (upd (upd f_35 25 88) 26 667))), (q_36, .inl (cA_37, 27, .inl (upd (upd f_38 4 4147) 5 4148)))] := hD
  refine lv_dup hx hb d_mLines_init_1106 rfl ?_
  refine lv_bipush (v := 6) hx hb d_mLines_init_1107 (by decide) ?_
  refine lv_sipush (v := 4149) hx hb d_mLines_init_1109 (by decide) ?_
  refine va_iast hx hb hK hP hD hS 4 3 rfl rfl (show ¬ ((6 : Int32) < 0 ∨ 27 ≤ (6 : Int32).toNatClampNeg) by decide) d_mLines_init_1112 (fun H locs hP hD hS => ?_)
  rw [show (6 : Int32).toNatClampNeg = 6 by decide] at hP hD
  have hP : va_P (dC, dI) vcl [(h0, .inr (14, [.ref q_1, .ref q_15, .ref q_29, .null, .null, .null, .int 0, .null, .null, .null, .long 0, .null, .int 0, .int 0, .int 0, .int 0, .int 0, .int 0, .int 0, .null, .null])), (q_1, .inl (cA_2, 64, .inl (upd (upd (upd f_14 61 306) 62 307) 63 308))), (q_15, .inl (cA_16, 64, .inl (upd (upd (upd f_28 61 4186) 62 4198) 63 4199))), (q_29, .inl (cA_30, 27, .inl (upd (upd f_35 25 88) 26 667))), (q_36, .inl (cA_37, 27, .inl (upd (upd (upd f_38 4 4147) 5 4148) 6 4149)))] H := hP
  have hD : va_D A [(h0, .inr (14, [.ref q_1, .ref q_15, .ref q_29, .null, .null, .null, .int 0, .null, .null, .null, .long 0, .null, .int 0, .int 0, .int 0, .int 0, .int 0, .int 0, .int 0, .null, .null])), (q_1, .inl (cA_2, 64, .inl (upd (upd (upd f_14 61 306) 62 307) 63 308))), (q_15, .inl (cA_16, 64, .inl (upd (upd (upd f_28 61 4186) 62 4198) 63 4199))), (q_29, .inl (cA_30, 27, .inl (upd (upd f_35 25 88) 26 667))), (q_36, .inl (cA_37, 27, .inl (upd (upd (upd f_38 4 4147) 5 4148) 6 4149)))] := hD
  refine lv_dup hx hb d_mLines_init_1113 rfl ?_
  refine lv_bipush (v := 7) hx hb d_mLines_init_1114 (by decide) ?_
  refine lv_sipush (v := 8300) hx hb d_mLines_init_1116 (by decide) ?_
  refine va_iast hx hb hK hP hD hS 4 3 rfl rfl (show ¬ ((7 : Int32) < 0 ∨ 27 ≤ (7 : Int32).toNatClampNeg) by decide) d_mLines_init_1119 (fun H locs hP hD hS => ?_)
  rw [show (7 : Int32).toNatClampNeg = 7 by decide] at hP hD
  have hP : va_P (dC, dI) vcl [(h0, .inr (14, [.ref q_1, .ref q_15, .ref q_29, .null, .null, .null, .int 0, .null, .null, .null, .long 0, .null, .int 0, .int 0, .int 0, .int 0, .int 0, .int 0, .int 0, .null, .null])), (q_1, .inl (cA_2, 64, .inl (upd (upd (upd f_14 61 306) 62 307) 63 308))), (q_15, .inl (cA_16, 64, .inl (upd (upd (upd f_28 61 4186) 62 4198) 63 4199))), (q_29, .inl (cA_30, 27, .inl (upd (upd f_35 25 88) 26 667))), (q_36, .inl (cA_37, 27, .inl (upd (upd (upd (upd f_38 4 4147) 5 4148) 6 4149) 7 8300)))] H := hP
  have hD : va_D A [(h0, .inr (14, [.ref q_1, .ref q_15, .ref q_29, .null, .null, .null, .int 0, .null, .null, .null, .long 0, .null, .int 0, .int 0, .int 0, .int 0, .int 0, .int 0, .int 0, .null, .null])), (q_1, .inl (cA_2, 64, .inl (upd (upd (upd f_14 61 306) 62 307) 63 308))), (q_15, .inl (cA_16, 64, .inl (upd (upd (upd f_28 61 4186) 62 4198) 63 4199))), (q_29, .inl (cA_30, 27, .inl (upd (upd f_35 25 88) 26 667))), (q_36, .inl (cA_37, 27, .inl (upd (upd (upd (upd f_38 4 4147) 5 4148) 6 4149) 7 8300)))] := hD
  refine lv_dup hx hb d_mLines_init_1120 rfl ?_
  refine lv_bipush (v := 8) hx hb d_mLines_init_1121 (by decide) ?_
  refine lv_sipush (v := 8301) hx hb d_mLines_init_1123 (by decide) ?_
  refine va_iast hx hb hK hP hD hS 4 3 rfl rfl (show ¬ ((8 : Int32) < 0 ∨ 27 ≤ (8 : Int32).toNatClampNeg) by decide) d_mLines_init_1126 (fun H locs hP hD hS => ?_)
  rw [show (8 : Int32).toNatClampNeg = 8 by decide] at hP hD
  obtain ⟨f_39, ef_39⟩ : ∃ y : Nat → Int32, y = upd (upd (upd (upd (upd f_38 4 4147) 5 4148) 6 4149) 7 8300) 8 8301 := ⟨_, rfl⟩
  have hP : va_P (dC, dI) vcl [(h0, .inr (14, [.ref q_1, .ref q_15, .ref q_29, .null, .null, .null, .int 0, .null, .null, .null, .long 0, .null, .int 0, .int 0, .int 0, .int 0, .int 0, .int 0, .int 0, .null, .null])), (q_1, .inl (cA_2, 64, .inl (upd (upd (upd f_14 61 306) 62 307) 63 308))), (q_15, .inl (cA_16, 64, .inl (upd (upd (upd f_28 61 4186) 62 4198) 63 4199))), (q_29, .inl (cA_30, 27, .inl (upd (upd f_35 25 88) 26 667))), (q_36, .inl (cA_37, 27, .inl (upd (upd (upd (upd (upd f_38 4 4147) 5 4148) 6 4149) 7 8300) 8 8301)))] H := hP
  have hD : va_D A [(h0, .inr (14, [.ref q_1, .ref q_15, .ref q_29, .null, .null, .null, .int 0, .null, .null, .null, .long 0, .null, .int 0, .int 0, .int 0, .int 0, .int 0, .int 0, .int 0, .null, .null])), (q_1, .inl (cA_2, 64, .inl (upd (upd (upd f_14 61 306) 62 307) 63 308))), (q_15, .inl (cA_16, 64, .inl (upd (upd (upd f_28 61 4186) 62 4198) 63 4199))), (q_29, .inl (cA_30, 27, .inl (upd (upd f_35 25 88) 26 667))), (q_36, .inl (cA_37, 27, .inl (upd (upd (upd (upd (upd f_38 4 4147) 5 4148) 6 4149) 7 8300) 8 8301)))] := hD
  rw [← ef_39] at hP hD
  have hP : va_P (dC, dI) vcl [(h0, .inr (14, [.ref q_1, .ref q_15, .ref q_29, .null, .null, .null, .int 0, .null, .null, .null, .long 0, .null, .int 0, .int 0, .int 0, .int 0, .int 0, .int 0, .int 0, .null, .null])), (q_1, .inl (cA_2, 64, .inl (upd (upd (upd f_14 61 306) 62 307) 63 308))), (q_15, .inl (cA_16, 64, .inl (upd (upd (upd f_28 61 4186) 62 4198) 63 4199))), (q_29, .inl (cA_30, 27, .inl (upd (upd f_35 25 88) 26 667))), (q_36, .inl (cA_37, 27, .inl f_39))] H := hP
  have hD : va_D A [(h0, .inr (14, [.ref q_1, .ref q_15, .ref q_29, .null, .null, .null, .int 0, .null, .null, .null, .long 0, .null, .int 0, .int 0, .int 0, .int 0, .int 0, .int 0, .int 0, .null, .null])), (q_1, .inl (cA_2, 64, .inl (upd (upd (upd f_14 61 306) 62 307) 63 308))), (q_15, .inl (cA_16, 64, .inl (upd (upd (upd f_28 61 4186) 62 4198) 63 4199))), (q_29, .inl (cA_30, 27, .inl (upd (upd f_35 25 88) 26 667))), (q_36, .inl (cA_37, 27, .inl f_39))] := hD
  refine lv_dup hx hb d_mLines_init_1127 rfl ?_
  refine lv_bipush (v := 9) hx hb d_mLines_init_1128 (by decide) ?_
  refine lv_sipush (v := 8266) hx hb d_mLines_init_1130 (by decide) ?_
  refine va_iast hx hb hK hP hD hS 4 3 rfl rfl (show ¬ ((9 : Int32) < 0 ∨ 27 ≤ (9 : Int32).toNatClampNeg) by decide) d_mLines_init_1133 (fun H locs hP hD hS => ?_)
  rw [show (9 : Int32).toNatClampNeg = 9 by decide] at hP hD
  have hP : va_P (dC, dI) vcl [(h0, .inr (14, [.ref q_1, .ref q_15, .ref q_29, .null, .null, .null, .int 0, .null, .null, .null, .long 0, .null, .int 0, .int 0, .int 0, .int 0, .int 0, .int 0, .int 0, .null, .null])), (q_1, .inl (cA_2, 64, .inl (upd (upd (upd f_14 61 306) 62 307) 63 308))), (q_15, .inl (cA_16, 64, .inl (upd (upd (upd f_28 61 4186) 62 4198) 63 4199))), (q_29, .inl (cA_30, 27, .inl (upd (upd f_35 25 88) 26 667))), (q_36, .inl (cA_37, 27, .inl (upd f_39 9 8266)))] H := hP
  have hD : va_D A [(h0, .inr (14, [.ref q_1, .ref q_15, .ref q_29, .null, .null, .null, .int 0, .null, .null, .null, .long 0, .null, .int 0, .int 0, .int 0, .int 0, .int 0, .int 0, .int 0, .null, .null])), (q_1, .inl (cA_2, 64, .inl (upd (upd (upd f_14 61 306) 62 307) 63 308))), (q_15, .inl (cA_16, 64, .inl (upd (upd (upd f_28 61 4186) 62 4198) 63 4199))), (q_29, .inl (cA_30, 27, .inl (upd (upd f_35 25 88) 26 667))), (q_36, .inl (cA_37, 27, .inl (upd f_39 9 8266)))] := hD
  refine lv_dup hx hb d_mLines_init_1134 rfl ?_
  refine lv_bipush (v := 10) hx hb d_mLines_init_1135 (by decide) ?_
  refine lv_sipush (v := 8267) hx hb d_mLines_init_1137 (by decide) ?_
  refine va_iast hx hb hK hP hD hS 4 3 rfl rfl (show ¬ ((10 : Int32) < 0 ∨ 27 ≤ (10 : Int32).toNatClampNeg) by decide) d_mLines_init_1140 (fun H locs hP hD hS => ?_)
  rw [show (10 : Int32).toNatClampNeg = 10 by decide] at hP hD
  have hP : va_P (dC, dI) vcl [(h0, .inr (14, [.ref q_1, .ref q_15, .ref q_29, .null, .null, .null, .int 0, .null, .null, .null, .long 0, .null, .int 0, .int 0, .int 0, .int 0, .int 0, .int 0, .int 0, .null, .null])), (q_1, .inl (cA_2, 64, .inl (upd (upd (upd f_14 61 306) 62 307) 63 308))), (q_15, .inl (cA_16, 64, .inl (upd (upd (upd f_28 61 4186) 62 4198) 63 4199))), (q_29, .inl (cA_30, 27, .inl (upd (upd f_35 25 88) 26 667))), (q_36, .inl (cA_37, 27, .inl (upd (upd f_39 9 8266) 10 8267)))] H := hP
  have hD : va_D A [(h0, .inr (14, [.ref q_1, .ref q_15, .ref q_29, .null, .null, .null, .int 0, .null, .null, .null, .long 0, .null, .int 0, .int 0, .int 0, .int 0, .int 0, .int 0, .int 0, .null, .null])), (q_1, .inl (cA_2, 64, .inl (upd (upd (upd f_14 61 306) 62 307) 63 308))), (q_15, .inl (cA_16, 64, .inl (upd (upd (upd f_28 61 4186) 62 4198) 63 4199))), (q_29, .inl (cA_30, 27, .inl (upd (upd f_35 25 88) 26 667))), (q_36, .inl (cA_37, 27, .inl (upd (upd f_39 9 8266) 10 8267)))] := hD
  refine lv_dup hx hb d_mLines_init_1141 rfl ?_
  refine lv_bipush (v := 11) hx hb d_mLines_init_1142 (by decide) ?_
  refine lv_sipush (v := 8268) hx hb d_mLines_init_1144 (by decide) ?_
  refine va_iast hx hb hK hP hD hS 4 3 rfl rfl (show ¬ ((11 : Int32) < 0 ∨ 27 ≤ (11 : Int32).toNatClampNeg) by decide) d_mLines_init_1147 (fun H locs hP hD hS => ?_)
  rw [show (11 : Int32).toNatClampNeg = 11 by decide] at hP hD
  have hP : va_P (dC, dI) vcl [(h0, .inr (14, [.ref q_1, .ref q_15, .ref q_29, .null, .null, .null, .int 0, .null, .null, .null, .long 0, .null, .int 0, .int 0, .int 0, .int 0, .int 0, .int 0, .int 0, .null, .null])), (q_1, .inl (cA_2, 64, .inl (upd (upd (upd f_14 61 306) 62 307) 63 308))), (q_15, .inl (cA_16, 64, .inl (upd (upd (upd f_28 61 4186) 62 4198) 63 4199))), (q_29, .inl (cA_30, 27, .inl (upd (upd f_35 25 88) 26 667))), (q_36, .inl (cA_37, 27, .inl (upd (upd (upd f_39 9 8266) 10 8267) 11 8268)))] H := hP
  have hD : va_D A [(h0, .inr (14, [.ref q_1, .ref q_15, .ref q_29, .null, .null, .null, .int 0, .null, .null, .null, .long 0, .null, .int 0, .int 0, .int 0, .int 0, .int 0, .int 0, .int 0, .null, .null])), (q_1, .inl (cA_2, 64, .inl (upd (upd (upd f_14 61 306) 62 307) 63 308))), (q_15, .inl (cA_16, 64, .inl (upd (upd (upd f_28 61 4186) 62 4198) 63 4199))), (q_29, .inl (cA_30, 27, .inl (upd (upd f_35 25 88) 26 667))), (q_36, .inl (cA_37, 27, .inl (upd (upd (upd f_39 9 8266) 10 8267) 11 8268)))] := hD
  refine lv_dup hx hb d_mLines_init_1148 rfl ?_
  refine lv_bipush (v := 12) hx hb d_mLines_init_1149 (by decide) ?_
  refine lv_sipush (v := 8269) hx hb d_mLines_init_1151 (by decide) ?_
  refine va_iast hx hb hK hP hD hS 4 3 rfl rfl (show ¬ ((12 : Int32) < 0 ∨ 27 ≤ (12 : Int32).toNatClampNeg) by decide) d_mLines_init_1154 (fun H locs hP hD hS => ?_)
  rw [show (12 : Int32).toNatClampNeg = 12 by decide] at hP hD
  have hP : va_P (dC, dI) vcl [(h0, .inr (14, [.ref q_1, .ref q_15, .ref q_29, .null, .null, .null, .int 0, .null, .null, .null, .long 0, .null, .int 0, .int 0, .int 0, .int 0, .int 0, .int 0, .int 0, .null, .null])), (q_1, .inl (cA_2, 64, .inl (upd (upd (upd f_14 61 306) 62 307) 63 308))), (q_15, .inl (cA_16, 64, .inl (upd (upd (upd f_28 61 4186) 62 4198) 63 4199))), (q_29, .inl (cA_30, 27, .inl (upd (upd f_35 25 88) 26 667))), (q_36, .inl (cA_37, 27, .inl (upd (upd (upd (upd f_39 9 8266) 10 8267) 11 8268) 12 8269)))] H := hP
  have hD : va_D A [(h0, .inr (14, [.ref q_1, .ref q_15, .ref q_29, .null, .null, .null, .int 0, .null, .null, .null, .long 0, .null, .int 0, .int 0, .int 0, .int 0, .int 0, .int 0, .int 0, .null, .null])), (q_1, .inl (cA_2, 64, .inl (upd (upd (upd f_14 61 306) 62 307) 63 308))), (q_15, .inl (cA_16, 64, .inl (upd (upd (upd f_28 61 4186) 62 4198) 63 4199))), (q_29, .inl (cA_30, 27, .inl (upd (upd f_35 25 88) 26 667))), (q_36, .inl (cA_37, 27, .inl (upd (upd (upd (upd f_39 9 8266) 10 8267) 11 8268) 12 8269)))] := hD
  refine lv_dup hx hb d_mLines_init_1155 rfl ?_
  refine lv_bipush (v := 13) hx hb d_mLines_init_1156 (by decide) ?_
  refine lv_sipush (v := 8306) hx hb d_mLines_init_1158 (by decide) ?_
  refine va_iast hx hb hK hP hD hS 4 3 rfl rfl (show ¬ ((13 : Int32) < 0 ∨ 27 ≤ (13 : Int32).toNatClampNeg) by decide) d_mLines_init_1161 (fun H locs hP hD hS => ?_)
  rw [show (13 : Int32).toNatClampNeg = 13 by decide] at hP hD
  obtain ⟨f_40, ef_40⟩ : ∃ y : Nat → Int32, y = upd (upd (upd (upd (upd f_39 9 8266) 10 8267) 11 8268) 12 8269) 13 8306 := ⟨_, rfl⟩
  have hP : va_P (dC, dI) vcl [(h0, .inr (14, [.ref q_1, .ref q_15, .ref q_29, .null, .null, .null, .int 0, .null, .null, .null, .long 0, .null, .int 0, .int 0, .int 0, .int 0, .int 0, .int 0, .int 0, .null, .null])), (q_1, .inl (cA_2, 64, .inl (upd (upd (upd f_14 61 306) 62 307) 63 308))), (q_15, .inl (cA_16, 64, .inl (upd (upd (upd f_28 61 4186) 62 4198) 63 4199))), (q_29, .inl (cA_30, 27, .inl (upd (upd f_35 25 88) 26 667))), (q_36, .inl (cA_37, 27, .inl (upd (upd (upd (upd (upd f_39 9 8266) 10 8267) 11 8268) 12 8269) 13 8306)))] H := hP
  have hD : va_D A [(h0, .inr (14, [.ref q_1, .ref q_15, .ref q_29, .null, .null, .null, .int 0, .null, .null, .null, .long 0, .null, .int 0, .int 0, .int 0, .int 0, .int 0, .int 0, .int 0, .null, .null])), (q_1, .inl (cA_2, 64, .inl (upd (upd (upd f_14 61 306) 62 307) 63 308))), (q_15, .inl (cA_16, 64, .inl (upd (upd (upd f_28 61 4186) 62 4198) 63 4199))), (q_29, .inl (cA_30, 27, .inl (upd (upd f_35 25 88) 26 667))), (q_36, .inl (cA_37, 27, .inl (upd (upd (upd (upd (upd f_39 9 8266) 10 8267) 11 8268) 12 8269) 13 8306)))] := hD
  rw [← ef_40] at hP hD
  have hP : va_P (dC, dI) vcl [(h0, .inr (14, [.ref q_1, .ref q_15, .ref q_29, .null, .null, .null, .int 0, .null, .null, .null, .long 0, .null, .int 0, .int 0, .int 0, .int 0, .int 0, .int 0, .int 0, .null, .null])), (q_1, .inl (cA_2, 64, .inl (upd (upd (upd f_14 61 306) 62 307) 63 308))), (q_15, .inl (cA_16, 64, .inl (upd (upd (upd f_28 61 4186) 62 4198) 63 4199))), (q_29, .inl (cA_30, 27, .inl (upd (upd f_35 25 88) 26 667))), (q_36, .inl (cA_37, 27, .inl f_40))] H := hP
  have hD : va_D A [(h0, .inr (14, [.ref q_1, .ref q_15, .ref q_29, .null, .null, .null, .int 0, .null, .null, .null, .long 0, .null, .int 0, .int 0, .int 0, .int 0, .int 0, .int 0, .int 0, .null, .null])), (q_1, .inl (cA_2, 64, .inl (upd (upd (upd f_14 61 306) 62 307) 63 308))), (q_15, .inl (cA_16, 64, .inl (upd (upd (upd f_28 61 4186) 62 4198) 63 4199))), (q_29, .inl (cA_30, 27, .inl (upd (upd f_35 25 88) 26 667))), (q_36, .inl (cA_37, 27, .inl f_40))] := hD
  refine lv_dup hx hb d_mLines_init_1162 rfl ?_
  refine lv_bipush (v := 14) hx hb d_mLines_init_1163 (by decide) ?_
  refine lv_sipush (v := 8307) hx hb d_mLines_init_1165 (by decide) ?_
  refine va_iast hx hb hK hP hD hS 4 3 rfl rfl (show ¬ ((14 : Int32) < 0 ∨ 27 ≤ (14 : Int32).toNatClampNeg) by decide) d_mLines_init_1168 (fun H locs hP hD hS => ?_)
  rw [show (14 : Int32).toNatClampNeg = 14 by decide] at hP hD
  have hP : va_P (dC, dI) vcl [(h0, .inr (14, [.ref q_1, .ref q_15, .ref q_29, .null, .null, .null, .int 0, .null, .null, .null, .long 0, .null, .int 0, .int 0, .int 0, .int 0, .int 0, .int 0, .int 0, .null, .null])), (q_1, .inl (cA_2, 64, .inl (upd (upd (upd f_14 61 306) 62 307) 63 308))), (q_15, .inl (cA_16, 64, .inl (upd (upd (upd f_28 61 4186) 62 4198) 63 4199))), (q_29, .inl (cA_30, 27, .inl (upd (upd f_35 25 88) 26 667))), (q_36, .inl (cA_37, 27, .inl (upd f_40 14 8307)))] H := hP
  have hD : va_D A [(h0, .inr (14, [.ref q_1, .ref q_15, .ref q_29, .null, .null, .null, .int 0, .null, .null, .null, .long 0, .null, .int 0, .int 0, .int 0, .int 0, .int 0, .int 0, .int 0, .null, .null])), (q_1, .inl (cA_2, 64, .inl (upd (upd (upd f_14 61 306) 62 307) 63 308))), (q_15, .inl (cA_16, 64, .inl (upd (upd (upd f_28 61 4186) 62 4198) 63 4199))), (q_29, .inl (cA_30, 27, .inl (upd (upd f_35 25 88) 26 667))), (q_36, .inl (cA_37, 27, .inl (upd f_40 14 8307)))] := hD
  refine lv_dup hx hb d_mLines_init_1169 rfl ?_
  refine lv_bipush (v := 15) hx hb d_mLines_init_1170 (by decide) ?_
  refine lv_sipush (v := 8308) hx hb d_mLines_init_1172 (by decide) ?_
  refine va_iast hx hb hK hP hD hS 4 3 rfl rfl (show ¬ ((15 : Int32) < 0 ∨ 27 ≤ (15 : Int32).toNatClampNeg) by decide) d_mLines_init_1175 (fun H locs hP hD hS => ?_)
  rw [show (15 : Int32).toNatClampNeg = 15 by decide] at hP hD
  have hP : va_P (dC, dI) vcl [(h0, .inr (14, [.ref q_1, .ref q_15, .ref q_29, .null, .null, .null, .int 0, .null, .null, .null, .long 0, .null, .int 0, .int 0, .int 0, .int 0, .int 0, .int 0, .int 0, .null, .null])), (q_1, .inl (cA_2, 64, .inl (upd (upd (upd f_14 61 306) 62 307) 63 308))), (q_15, .inl (cA_16, 64, .inl (upd (upd (upd f_28 61 4186) 62 4198) 63 4199))), (q_29, .inl (cA_30, 27, .inl (upd (upd f_35 25 88) 26 667))), (q_36, .inl (cA_37, 27, .inl (upd (upd f_40 14 8307) 15 8308)))] H := hP
  have hD : va_D A [(h0, .inr (14, [.ref q_1, .ref q_15, .ref q_29, .null, .null, .null, .int 0, .null, .null, .null, .long 0, .null, .int 0, .int 0, .int 0, .int 0, .int 0, .int 0, .int 0, .null, .null])), (q_1, .inl (cA_2, 64, .inl (upd (upd (upd f_14 61 306) 62 307) 63 308))), (q_15, .inl (cA_16, 64, .inl (upd (upd (upd f_28 61 4186) 62 4198) 63 4199))), (q_29, .inl (cA_30, 27, .inl (upd (upd f_35 25 88) 26 667))), (q_36, .inl (cA_37, 27, .inl (upd (upd f_40 14 8307) 15 8308)))] := hD
  refine lv_dup hx hb d_mLines_init_1176 rfl ?_
  refine lv_bipush (v := 16) hx hb d_mLines_init_1177 (by decide) ?_
  refine lv_sipush (v := 8309) hx hb d_mLines_init_1179 (by decide) ?_
  refine va_iast hx hb hK hP hD hS 4 3 rfl rfl (show ¬ ((16 : Int32) < 0 ∨ 27 ≤ (16 : Int32).toNatClampNeg) by decide) d_mLines_init_1182 (fun H locs hP hD hS => ?_)
  rw [show (16 : Int32).toNatClampNeg = 16 by decide] at hP hD
  have hP : va_P (dC, dI) vcl [(h0, .inr (14, [.ref q_1, .ref q_15, .ref q_29, .null, .null, .null, .int 0, .null, .null, .null, .long 0, .null, .int 0, .int 0, .int 0, .int 0, .int 0, .int 0, .int 0, .null, .null])), (q_1, .inl (cA_2, 64, .inl (upd (upd (upd f_14 61 306) 62 307) 63 308))), (q_15, .inl (cA_16, 64, .inl (upd (upd (upd f_28 61 4186) 62 4198) 63 4199))), (q_29, .inl (cA_30, 27, .inl (upd (upd f_35 25 88) 26 667))), (q_36, .inl (cA_37, 27, .inl (upd (upd (upd f_40 14 8307) 15 8308) 16 8309)))] H := hP
  have hD : va_D A [(h0, .inr (14, [.ref q_1, .ref q_15, .ref q_29, .null, .null, .null, .int 0, .null, .null, .null, .long 0, .null, .int 0, .int 0, .int 0, .int 0, .int 0, .int 0, .int 0, .null, .null])), (q_1, .inl (cA_2, 64, .inl (upd (upd (upd f_14 61 306) 62 307) 63 308))), (q_15, .inl (cA_16, 64, .inl (upd (upd (upd f_28 61 4186) 62 4198) 63 4199))), (q_29, .inl (cA_30, 27, .inl (upd (upd f_35 25 88) 26 667))), (q_36, .inl (cA_37, 27, .inl (upd (upd (upd f_40 14 8307) 15 8308) 16 8309)))] := hD
  refine lv_dup hx hb d_mLines_init_1183 rfl ?_
  refine lv_bipush (v := 17) hx hb d_mLines_init_1184 (by decide) ?_
  refine lv_sipush (v := 8310) hx hb d_mLines_init_1186 (by decide) ?_
  refine va_iast hx hb hK hP hD hS 4 3 rfl rfl (show ¬ ((17 : Int32) < 0 ∨ 27 ≤ (17 : Int32).toNatClampNeg) by decide) d_mLines_init_1189 (fun H locs hP hD hS => ?_)
  rw [show (17 : Int32).toNatClampNeg = 17 by decide] at hP hD
  have hP : va_P (dC, dI) vcl [(h0, .inr (14, [.ref q_1, .ref q_15, .ref q_29, .null, .null, .null, .int 0, .null, .null, .null, .long 0, .null, .int 0, .int 0, .int 0, .int 0, .int 0, .int 0, .int 0, .null, .null])), (q_1, .inl (cA_2, 64, .inl (upd (upd (upd f_14 61 306) 62 307) 63 308))), (q_15, .inl (cA_16, 64, .inl (upd (upd (upd f_28 61 4186) 62 4198) 63 4199))), (q_29, .inl (cA_30, 27, .inl (upd (upd f_35 25 88) 26 667))), (q_36, .inl (cA_37, 27, .inl (upd (upd (upd (upd f_40 14 8307) 15 8308) 16 8309) 17 8310)))] H := hP
  have hD : va_D A [(h0, .inr (14, [.ref q_1, .ref q_15, .ref q_29, .null, .null, .null, .int 0, .null, .null, .null, .long 0, .null, .int 0, .int 0, .int 0, .int 0, .int 0, .int 0, .int 0, .null, .null])), (q_1, .inl (cA_2, 64, .inl (upd (upd (upd f_14 61 306) 62 307) 63 308))), (q_15, .inl (cA_16, 64, .inl (upd (upd (upd f_28 61 4186) 62 4198) 63 4199))), (q_29, .inl (cA_30, 27, .inl (upd (upd f_35 25 88) 26 667))), (q_36, .inl (cA_37, 27, .inl (upd (upd (upd (upd f_40 14 8307) 15 8308) 16 8309) 17 8310)))] := hD
  refine lv_dup hx hb d_mLines_init_1190 rfl ?_
  refine lv_bipush (v := 18) hx hb d_mLines_init_1191 (by decide) ?_
  refine lv_sipush (v := 8311) hx hb d_mLines_init_1193 (by decide) ?_
  refine va_iast hx hb hK hP hD hS 4 3 rfl rfl (show ¬ ((18 : Int32) < 0 ∨ 27 ≤ (18 : Int32).toNatClampNeg) by decide) d_mLines_init_1196 (fun H locs hP hD hS => ?_)
  rw [show (18 : Int32).toNatClampNeg = 18 by decide] at hP hD
  obtain ⟨f_41, ef_41⟩ : ∃ y : Nat → Int32, y = upd (upd (upd (upd (upd f_40 14 8307) 15 8308) 16 8309) 17 8310) 18 8311 := ⟨_, rfl⟩
  have hP : va_P (dC, dI) vcl [(h0, .inr (14, [.ref q_1, .ref q_15, .ref q_29, .null, .null, .null, .int 0, .null, .null, .null, .long 0, .null, .int 0, .int 0, .int 0, .int 0, .int 0, .int 0, .int 0, .null, .null])), (q_1, .inl (cA_2, 64, .inl (upd (upd (upd f_14 61 306) 62 307) 63 308))), (q_15, .inl (cA_16, 64, .inl (upd (upd (upd f_28 61 4186) 62 4198) 63 4199))), (q_29, .inl (cA_30, 27, .inl (upd (upd f_35 25 88) 26 667))), (q_36, .inl (cA_37, 27, .inl (upd (upd (upd (upd (upd f_40 14 8307) 15 8308) 16 8309) 17 8310) 18 8311)))] H := hP
  have hD : va_D A [(h0, .inr (14, [.ref q_1, .ref q_15, .ref q_29, .null, .null, .null, .int 0, .null, .null, .null, .long 0, .null, .int 0, .int 0, .int 0, .int 0, .int 0, .int 0, .int 0, .null, .null])), (q_1, .inl (cA_2, 64, .inl (upd (upd (upd f_14 61 306) 62 307) 63 308))), (q_15, .inl (cA_16, 64, .inl (upd (upd (upd f_28 61 4186) 62 4198) 63 4199))), (q_29, .inl (cA_30, 27, .inl (upd (upd f_35 25 88) 26 667))), (q_36, .inl (cA_37, 27, .inl (upd (upd (upd (upd (upd f_40 14 8307) 15 8308) 16 8309) 17 8310) 18 8311)))] := hD
  rw [← ef_41] at hP hD
  have hP : va_P (dC, dI) vcl [(h0, .inr (14, [.ref q_1, .ref q_15, .ref q_29, .null, .null, .null, .int 0, .null, .null, .null, .long 0, .null, .int 0, .int 0, .int 0, .int 0, .int 0, .int 0, .int 0, .null, .null])), (q_1, .inl (cA_2, 64, .inl (upd (upd (upd f_14 61 306) 62 307) 63 308))), (q_15, .inl (cA_16, 64, .inl (upd (upd (upd f_28 61 4186) 62 4198) 63 4199))), (q_29, .inl (cA_30, 27, .inl (upd (upd f_35 25 88) 26 667))), (q_36, .inl (cA_37, 27, .inl f_41))] H := hP
  have hD : va_D A [(h0, .inr (14, [.ref q_1, .ref q_15, .ref q_29, .null, .null, .null, .int 0, .null, .null, .null, .long 0, .null, .int 0, .int 0, .int 0, .int 0, .int 0, .int 0, .int 0, .null, .null])), (q_1, .inl (cA_2, 64, .inl (upd (upd (upd f_14 61 306) 62 307) 63 308))), (q_15, .inl (cA_16, 64, .inl (upd (upd (upd f_28 61 4186) 62 4198) 63 4199))), (q_29, .inl (cA_30, 27, .inl (upd (upd f_35 25 88) 26 667))), (q_36, .inl (cA_37, 27, .inl f_41))] := hD
  refine lv_dup hx hb d_mLines_init_1197 rfl ?_
  refine lv_bipush (v := 19) hx hb d_mLines_init_1198 (by decide) ?_
  refine lv_sipush (v := 8274) hx hb d_mLines_init_1200 (by decide) ?_
  refine va_iast hx hb hK hP hD hS 4 3 rfl rfl (show ¬ ((19 : Int32) < 0 ∨ 27 ≤ (19 : Int32).toNatClampNeg) by decide) d_mLines_init_1203 (fun H locs hP hD hS => ?_)
  rw [show (19 : Int32).toNatClampNeg = 19 by decide] at hP hD
  have hP : va_P (dC, dI) vcl [(h0, .inr (14, [.ref q_1, .ref q_15, .ref q_29, .null, .null, .null, .int 0, .null, .null, .null, .long 0, .null, .int 0, .int 0, .int 0, .int 0, .int 0, .int 0, .int 0, .null, .null])), (q_1, .inl (cA_2, 64, .inl (upd (upd (upd f_14 61 306) 62 307) 63 308))), (q_15, .inl (cA_16, 64, .inl (upd (upd (upd f_28 61 4186) 62 4198) 63 4199))), (q_29, .inl (cA_30, 27, .inl (upd (upd f_35 25 88) 26 667))), (q_36, .inl (cA_37, 27, .inl (upd f_41 19 8274)))] H := hP
  have hD : va_D A [(h0, .inr (14, [.ref q_1, .ref q_15, .ref q_29, .null, .null, .null, .int 0, .null, .null, .null, .long 0, .null, .int 0, .int 0, .int 0, .int 0, .int 0, .int 0, .int 0, .null, .null])), (q_1, .inl (cA_2, 64, .inl (upd (upd (upd f_14 61 306) 62 307) 63 308))), (q_15, .inl (cA_16, 64, .inl (upd (upd (upd f_28 61 4186) 62 4198) 63 4199))), (q_29, .inl (cA_30, 27, .inl (upd (upd f_35 25 88) 26 667))), (q_36, .inl (cA_37, 27, .inl (upd f_41 19 8274)))] := hD
  refine lv_dup hx hb d_mLines_init_1204 rfl ?_
  refine lv_bipush (v := 20) hx hb d_mLines_init_1205 (by decide) ?_
  refine lv_sipush (v := 8275) hx hb d_mLines_init_1207 (by decide) ?_
  refine va_iast hx hb hK hP hD hS 4 3 rfl rfl (show ¬ ((20 : Int32) < 0 ∨ 27 ≤ (20 : Int32).toNatClampNeg) by decide) d_mLines_init_1210 (fun H locs hP hD hS => ?_)
  rw [show (20 : Int32).toNatClampNeg = 20 by decide] at hP hD
  have hP : va_P (dC, dI) vcl [(h0, .inr (14, [.ref q_1, .ref q_15, .ref q_29, .null, .null, .null, .int 0, .null, .null, .null, .long 0, .null, .int 0, .int 0, .int 0, .int 0, .int 0, .int 0, .int 0, .null, .null])), (q_1, .inl (cA_2, 64, .inl (upd (upd (upd f_14 61 306) 62 307) 63 308))), (q_15, .inl (cA_16, 64, .inl (upd (upd (upd f_28 61 4186) 62 4198) 63 4199))), (q_29, .inl (cA_30, 27, .inl (upd (upd f_35 25 88) 26 667))), (q_36, .inl (cA_37, 27, .inl (upd (upd f_41 19 8274) 20 8275)))] H := hP
  have hD : va_D A [(h0, .inr (14, [.ref q_1, .ref q_15, .ref q_29, .null, .null, .null, .int 0, .null, .null, .null, .long 0, .null, .int 0, .int 0, .int 0, .int 0, .int 0, .int 0, .int 0, .null, .null])), (q_1, .inl (cA_2, 64, .inl (upd (upd (upd f_14 61 306) 62 307) 63 308))), (q_15, .inl (cA_16, 64, .inl (upd (upd (upd f_28 61 4186) 62 4198) 63 4199))), (q_29, .inl (cA_30, 27, .inl (upd (upd f_35 25 88) 26 667))), (q_36, .inl (cA_37, 27, .inl (upd (upd f_41 19 8274) 20 8275)))] := hD
  refine lv_dup hx hb d_mLines_init_1211 rfl ?_
  refine lv_bipush (v := 21) hx hb d_mLines_init_1212 (by decide) ?_
  refine lv_sipush (v := 8276) hx hb d_mLines_init_1214 (by decide) ?_
  refine va_iast hx hb hK hP hD hS 4 3 rfl rfl (show ¬ ((21 : Int32) < 0 ∨ 27 ≤ (21 : Int32).toNatClampNeg) by decide) d_mLines_init_1217 (fun H locs hP hD hS => ?_)
  rw [show (21 : Int32).toNatClampNeg = 21 by decide] at hP hD
  have hP : va_P (dC, dI) vcl [(h0, .inr (14, [.ref q_1, .ref q_15, .ref q_29, .null, .null, .null, .int 0, .null, .null, .null, .long 0, .null, .int 0, .int 0, .int 0, .int 0, .int 0, .int 0, .int 0, .null, .null])), (q_1, .inl (cA_2, 64, .inl (upd (upd (upd f_14 61 306) 62 307) 63 308))), (q_15, .inl (cA_16, 64, .inl (upd (upd (upd f_28 61 4186) 62 4198) 63 4199))), (q_29, .inl (cA_30, 27, .inl (upd (upd f_35 25 88) 26 667))), (q_36, .inl (cA_37, 27, .inl (upd (upd (upd f_41 19 8274) 20 8275) 21 8276)))] H := hP
  have hD : va_D A [(h0, .inr (14, [.ref q_1, .ref q_15, .ref q_29, .null, .null, .null, .int 0, .null, .null, .null, .long 0, .null, .int 0, .int 0, .int 0, .int 0, .int 0, .int 0, .int 0, .null, .null])), (q_1, .inl (cA_2, 64, .inl (upd (upd (upd f_14 61 306) 62 307) 63 308))), (q_15, .inl (cA_16, 64, .inl (upd (upd (upd f_28 61 4186) 62 4198) 63 4199))), (q_29, .inl (cA_30, 27, .inl (upd (upd f_35 25 88) 26 667))), (q_36, .inl (cA_37, 27, .inl (upd (upd (upd f_41 19 8274) 20 8275) 21 8276)))] := hD
  refine lv_dup hx hb d_mLines_init_1218 rfl ?_
  refine lv_bipush (v := 22) hx hb d_mLines_init_1219 (by decide) ?_
  refine lv_sipush (v := 8277) hx hb d_mLines_init_1221 (by decide) ?_
  refine va_iast hx hb hK hP hD hS 4 3 rfl rfl (show ¬ ((22 : Int32) < 0 ∨ 27 ≤ (22 : Int32).toNatClampNeg) by decide) d_mLines_init_1224 (fun H locs hP hD hS => ?_)
  rw [show (22 : Int32).toNatClampNeg = 22 by decide] at hP hD
  have hP : va_P (dC, dI) vcl [(h0, .inr (14, [.ref q_1, .ref q_15, .ref q_29, .null, .null, .null, .int 0, .null, .null, .null, .long 0, .null, .int 0, .int 0, .int 0, .int 0, .int 0, .int 0, .int 0, .null, .null])), (q_1, .inl (cA_2, 64, .inl (upd (upd (upd f_14 61 306) 62 307) 63 308))), (q_15, .inl (cA_16, 64, .inl (upd (upd (upd f_28 61 4186) 62 4198) 63 4199))), (q_29, .inl (cA_30, 27, .inl (upd (upd f_35 25 88) 26 667))), (q_36, .inl (cA_37, 27, .inl (upd (upd (upd (upd f_41 19 8274) 20 8275) 21 8276) 22 8277)))] H := hP
  have hD : va_D A [(h0, .inr (14, [.ref q_1, .ref q_15, .ref q_29, .null, .null, .null, .int 0, .null, .null, .null, .long 0, .null, .int 0, .int 0, .int 0, .int 0, .int 0, .int 0, .int 0, .null, .null])), (q_1, .inl (cA_2, 64, .inl (upd (upd (upd f_14 61 306) 62 307) 63 308))), (q_15, .inl (cA_16, 64, .inl (upd (upd (upd f_28 61 4186) 62 4198) 63 4199))), (q_29, .inl (cA_30, 27, .inl (upd (upd f_35 25 88) 26 667))), (q_36, .inl (cA_37, 27, .inl (upd (upd (upd (upd f_41 19 8274) 20 8275) 21 8276) 22 8277)))] := hD
  refine lv_dup hx hb d_mLines_init_1225 rfl ?_
  refine lv_bipush (v := 23) hx hb d_mLines_init_1226 (by decide) ?_
  refine lv_sipush (v := 8282) hx hb d_mLines_init_1228 (by decide) ?_
  refine va_iast hx hb hK hP hD hS 4 3 rfl rfl (show ¬ ((23 : Int32) < 0 ∨ 27 ≤ (23 : Int32).toNatClampNeg) by decide) d_mLines_init_1231 (fun H locs hP hD hS => ?_)
  rw [show (23 : Int32).toNatClampNeg = 23 by decide] at hP hD
  obtain ⟨f_42, ef_42⟩ : ∃ y : Nat → Int32, y = upd (upd (upd (upd (upd f_41 19 8274) 20 8275) 21 8276) 22 8277) 23 8282 := ⟨_, rfl⟩
  have hP : va_P (dC, dI) vcl [(h0, .inr (14, [.ref q_1, .ref q_15, .ref q_29, .null, .null, .null, .int 0, .null, .null, .null, .long 0, .null, .int 0, .int 0, .int 0, .int 0, .int 0, .int 0, .int 0, .null, .null])), (q_1, .inl (cA_2, 64, .inl (upd (upd (upd f_14 61 306) 62 307) 63 308))), (q_15, .inl (cA_16, 64, .inl (upd (upd (upd f_28 61 4186) 62 4198) 63 4199))), (q_29, .inl (cA_30, 27, .inl (upd (upd f_35 25 88) 26 667))), (q_36, .inl (cA_37, 27, .inl (upd (upd (upd (upd (upd f_41 19 8274) 20 8275) 21 8276) 22 8277) 23 8282)))] H := hP
  have hD : va_D A [(h0, .inr (14, [.ref q_1, .ref q_15, .ref q_29, .null, .null, .null, .int 0, .null, .null, .null, .long 0, .null, .int 0, .int 0, .int 0, .int 0, .int 0, .int 0, .int 0, .null, .null])), (q_1, .inl (cA_2, 64, .inl (upd (upd (upd f_14 61 306) 62 307) 63 308))), (q_15, .inl (cA_16, 64, .inl (upd (upd (upd f_28 61 4186) 62 4198) 63 4199))), (q_29, .inl (cA_30, 27, .inl (upd (upd f_35 25 88) 26 667))), (q_36, .inl (cA_37, 27, .inl (upd (upd (upd (upd (upd f_41 19 8274) 20 8275) 21 8276) 22 8277) 23 8282)))] := hD
  rw [← ef_42] at hP hD
  have hP : va_P (dC, dI) vcl [(h0, .inr (14, [.ref q_1, .ref q_15, .ref q_29, .null, .null, .null, .int 0, .null, .null, .null, .long 0, .null, .int 0, .int 0, .int 0, .int 0, .int 0, .int 0, .int 0, .null, .null])), (q_1, .inl (cA_2, 64, .inl (upd (upd (upd f_14 61 306) 62 307) 63 308))), (q_15, .inl (cA_16, 64, .inl (upd (upd (upd f_28 61 4186) 62 4198) 63 4199))), (q_29, .inl (cA_30, 27, .inl (upd (upd f_35 25 88) 26 667))), (q_36, .inl (cA_37, 27, .inl f_42))] H := hP
  have hD : va_D A [(h0, .inr (14, [.ref q_1, .ref q_15, .ref q_29, .null, .null, .null, .int 0, .null, .null, .null, .long 0, .null, .int 0, .int 0, .int 0, .int 0, .int 0, .int 0, .int 0, .null, .null])), (q_1, .inl (cA_2, 64, .inl (upd (upd (upd f_14 61 306) 62 307) 63 308))), (q_15, .inl (cA_16, 64, .inl (upd (upd (upd f_28 61 4186) 62 4198) 63 4199))), (q_29, .inl (cA_30, 27, .inl (upd (upd f_35 25 88) 26 667))), (q_36, .inl (cA_37, 27, .inl f_42))] := hD
  refine lv_dup hx hb d_mLines_init_1232 rfl ?_
  refine lv_bipush (v := 24) hx hb d_mLines_init_1233 (by decide) ?_
  refine lv_sipush (v := 8283) hx hb d_mLines_init_1235 (by decide) ?_
  refine va_iast hx hb hK hP hD hS 4 3 rfl rfl (show ¬ ((24 : Int32) < 0 ∨ 27 ≤ (24 : Int32).toNatClampNeg) by decide) d_mLines_init_1238 (fun H locs hP hD hS => ?_)
  rw [show (24 : Int32).toNatClampNeg = 24 by decide] at hP hD
  have hP : va_P (dC, dI) vcl [(h0, .inr (14, [.ref q_1, .ref q_15, .ref q_29, .null, .null, .null, .int 0, .null, .null, .null, .long 0, .null, .int 0, .int 0, .int 0, .int 0, .int 0, .int 0, .int 0, .null, .null])), (q_1, .inl (cA_2, 64, .inl (upd (upd (upd f_14 61 306) 62 307) 63 308))), (q_15, .inl (cA_16, 64, .inl (upd (upd (upd f_28 61 4186) 62 4198) 63 4199))), (q_29, .inl (cA_30, 27, .inl (upd (upd f_35 25 88) 26 667))), (q_36, .inl (cA_37, 27, .inl (upd f_42 24 8283)))] H := hP
  have hD : va_D A [(h0, .inr (14, [.ref q_1, .ref q_15, .ref q_29, .null, .null, .null, .int 0, .null, .null, .null, .long 0, .null, .int 0, .int 0, .int 0, .int 0, .int 0, .int 0, .int 0, .null, .null])), (q_1, .inl (cA_2, 64, .inl (upd (upd (upd f_14 61 306) 62 307) 63 308))), (q_15, .inl (cA_16, 64, .inl (upd (upd (upd f_28 61 4186) 62 4198) 63 4199))), (q_29, .inl (cA_30, 27, .inl (upd (upd f_35 25 88) 26 667))), (q_36, .inl (cA_37, 27, .inl (upd f_42 24 8283)))] := hD
  refine lv_dup hx hb d_mLines_init_1239 rfl ?_
  refine lv_bipush (v := 25) hx hb d_mLines_init_1240 (by decide) ?_
  refine lv_sipush (v := 8292) hx hb d_mLines_init_1242 (by decide) ?_
  refine va_iast hx hb hK hP hD hS 4 3 rfl rfl (show ¬ ((25 : Int32) < 0 ∨ 27 ≤ (25 : Int32).toNatClampNeg) by decide) d_mLines_init_1245 (fun H locs hP hD hS => ?_)
  rw [show (25 : Int32).toNatClampNeg = 25 by decide] at hP hD
  have hP : va_P (dC, dI) vcl [(h0, .inr (14, [.ref q_1, .ref q_15, .ref q_29, .null, .null, .null, .int 0, .null, .null, .null, .long 0, .null, .int 0, .int 0, .int 0, .int 0, .int 0, .int 0, .int 0, .null, .null])), (q_1, .inl (cA_2, 64, .inl (upd (upd (upd f_14 61 306) 62 307) 63 308))), (q_15, .inl (cA_16, 64, .inl (upd (upd (upd f_28 61 4186) 62 4198) 63 4199))), (q_29, .inl (cA_30, 27, .inl (upd (upd f_35 25 88) 26 667))), (q_36, .inl (cA_37, 27, .inl (upd (upd f_42 24 8283) 25 8292)))] H := hP
  have hD : va_D A [(h0, .inr (14, [.ref q_1, .ref q_15, .ref q_29, .null, .null, .null, .int 0, .null, .null, .null, .long 0, .null, .int 0, .int 0, .int 0, .int 0, .int 0, .int 0, .int 0, .null, .null])), (q_1, .inl (cA_2, 64, .inl (upd (upd (upd f_14 61 306) 62 307) 63 308))), (q_15, .inl (cA_16, 64, .inl (upd (upd (upd f_28 61 4186) 62 4198) 63 4199))), (q_29, .inl (cA_30, 27, .inl (upd (upd f_35 25 88) 26 667))), (q_36, .inl (cA_37, 27, .inl (upd (upd f_42 24 8283) 25 8292)))] := hD
  refine lv_dup hx hb d_mLines_init_1246 rfl ?_
  refine lv_bipush (v := 26) hx hb d_mLines_init_1247 (by decide) ?_
  refine lv_sipush (v := 8293) hx hb d_mLines_init_1249 (by decide) ?_
  refine va_iast hx hb hK hP hD hS 4 3 rfl rfl (show ¬ ((26 : Int32) < 0 ∨ 27 ≤ (26 : Int32).toNatClampNeg) by decide) d_mLines_init_1252 (fun H locs hP hD hS => ?_)
  rw [show (26 : Int32).toNatClampNeg = 26 by decide] at hP hD
  have hP : va_P (dC, dI) vcl [(h0, .inr (14, [.ref q_1, .ref q_15, .ref q_29, .null, .null, .null, .int 0, .null, .null, .null, .long 0, .null, .int 0, .int 0, .int 0, .int 0, .int 0, .int 0, .int 0, .null, .null])), (q_1, .inl (cA_2, 64, .inl (upd (upd (upd f_14 61 306) 62 307) 63 308))), (q_15, .inl (cA_16, 64, .inl (upd (upd (upd f_28 61 4186) 62 4198) 63 4199))), (q_29, .inl (cA_30, 27, .inl (upd (upd f_35 25 88) 26 667))), (q_36, .inl (cA_37, 27, .inl (upd (upd (upd f_42 24 8283) 25 8292) 26 8293)))] H := hP
  have hD : va_D A [(h0, .inr (14, [.ref q_1, .ref q_15, .ref q_29, .null, .null, .null, .int 0, .null, .null, .null, .long 0, .null, .int 0, .int 0, .int 0, .int 0, .int 0, .int 0, .int 0, .null, .null])), (q_1, .inl (cA_2, 64, .inl (upd (upd (upd f_14 61 306) 62 307) 63 308))), (q_15, .inl (cA_16, 64, .inl (upd (upd (upd f_28 61 4186) 62 4198) 63 4199))), (q_29, .inl (cA_30, 27, .inl (upd (upd f_35 25 88) 26 667))), (q_36, .inl (cA_37, 27, .inl (upd (upd (upd f_42 24 8283) 25 8292) 26 8293)))] := hD
  refine va_putF (D := (dC, dI)) (ci := 14) (v := .ref q_36) (ty := (.array .int)) (C := R_mLines) (T := F_mLines) (N := 21) hx hb hwd i_mLines t_mLines to_mLines no_mLines hown hK hP hD hS 0 rfl rfl 3 (by decide) (hwd _ wd_10_86) (fun _ h9 => h9) rfl hin rfl (by decide +kernel) rfl rfl (Nat.le_of_ble_eq_true rfl) d_mLines_init_1253 (fun H locs hP hD hS => ?_)
  have hP : va_P (dC, dI) vcl [(h0, .inr (14, [.ref q_1, .ref q_15, .ref q_29, .ref q_36, .null, .null, .int 0, .null, .null, .null, .long 0, .null, .int 0, .int 0, .int 0, .int 0, .int 0, .int 0, .int 0, .null, .null])), (q_1, .inl (cA_2, 64, .inl (upd (upd (upd f_14 61 306) 62 307) 63 308))), (q_15, .inl (cA_16, 64, .inl (upd (upd (upd f_28 61 4186) 62 4198) 63 4199))), (q_29, .inl (cA_30, 27, .inl (upd (upd f_35 25 88) 26 667))), (q_36, .inl (cA_37, 27, .inl (upd (upd (upd f_42 24 8283) 25 8292) 26 8293)))] H := hP
  have hD : va_D A [(h0, .inr (14, [.ref q_1, .ref q_15, .ref q_29, .ref q_36, .null, .null, .int 0, .null, .null, .null, .long 0, .null, .int 0, .int 0, .int 0, .int 0, .int 0, .int 0, .int 0, .null, .null])), (q_1, .inl (cA_2, 64, .inl (upd (upd (upd f_14 61 306) 62 307) 63 308))), (q_15, .inl (cA_16, 64, .inl (upd (upd (upd f_28 61 4186) 62 4198) 63 4199))), (q_29, .inl (cA_30, 27, .inl (upd (upd f_35 25 88) 26 667))), (q_36, .inl (cA_37, 27, .inl (upd (upd (upd f_42 24 8283) 25 8292) 26 8293)))] := hD
  refine lv_aload_n hx hb d_mLines_init_1256 rfl (lv_at hl 0 rfl) ?_
  refine lv_bipush (v := 13) hx hb d_mLines_init_1257 (by decide) ?_
  refine va_newa (atype := .int) (N' := 13) (a0 := (13, .inl (fun _ => 0))) (ty := .int) (n := 13) hx hb (hwd _ wd_1_167) rfl hK hP hD hS hA (fun _ => rfl) (by decide) (by decide) (by decide) (Nat.le_of_ble_eq_true rfl) (Nat.le_of_ble_eq_true rfl) d_mLines_init_1259 (fun q_43 cA_44 H hK hP hD hS => ?_)
  have hP : va_P (dC, dI) vcl [(h0, .inr (14, [.ref q_1, .ref q_15, .ref q_29, .ref q_36, .null, .null, .int 0, .null, .null, .null, .long 0, .null, .int 0, .int 0, .int 0, .int 0, .int 0, .int 0, .int 0, .null, .null])), (q_1, .inl (cA_2, 64, .inl (upd (upd (upd f_14 61 306) 62 307) 63 308))), (q_15, .inl (cA_16, 64, .inl (upd (upd (upd f_28 61 4186) 62 4198) 63 4199))), (q_29, .inl (cA_30, 27, .inl (upd (upd f_35 25 88) 26 667))), (q_36, .inl (cA_37, 27, .inl (upd (upd (upd f_42 24 8283) 25 8292) 26 8293))), (q_43, .inl (cA_44, 13, .inl (fun _ => 0)))] H := hP
  have hD : va_D A [(h0, .inr (14, [.ref q_1, .ref q_15, .ref q_29, .ref q_36, .null, .null, .int 0, .null, .null, .null, .long 0, .null, .int 0, .int 0, .int 0, .int 0, .int 0, .int 0, .int 0, .null, .null])), (q_1, .inl (cA_2, 64, .inl (upd (upd (upd f_14 61 306) 62 307) 63 308))), (q_15, .inl (cA_16, 64, .inl (upd (upd (upd f_28 61 4186) 62 4198) 63 4199))), (q_29, .inl (cA_30, 27, .inl (upd (upd f_35 25 88) 26 667))), (q_36, .inl (cA_37, 27, .inl (upd (upd (upd f_42 24 8283) 25 8292) 26 8293))), (q_43, .inl (cA_44, 13, .inl (fun _ => 0)))] := hD
  have hK : va_K (dC, dI) vcl [(cA_2, .int), (cA_16, .int), (cA_30, .int), (cA_37, .int), (cA_44, .int)] s := hK
  refine W.widen (k := 5) (n := 195) (by decide) (by decide) ?_
  refine lv_dup hx hb d_mLines_init_1261 rfl ?_
  refine lv_iconst (v := 0) hx hb d_mLines_init_1262 (by decide) ?_
  refine lv_sipush (v := 2056) hx hb d_mLines_init_1263 (by decide) ?_
  refine va_iast hx hb hK hP hD hS 5 4 rfl rfl (show ¬ ((0 : Int32) < 0 ∨ 13 ≤ (0 : Int32).toNatClampNeg) by decide) d_mLines_init_1266 (fun H locs hP hD hS => ?_)
  rw [show (0 : Int32).toNatClampNeg = 0 by decide] at hP hD
  have hP : va_P (dC, dI) vcl [(h0, .inr (14, [.ref q_1, .ref q_15, .ref q_29, .ref q_36, .null, .null, .int 0, .null, .null, .null, .long 0, .null, .int 0, .int 0, .int 0, .int 0, .int 0, .int 0, .int 0, .null, .null])), (q_1, .inl (cA_2, 64, .inl (upd (upd (upd f_14 61 306) 62 307) 63 308))), (q_15, .inl (cA_16, 64, .inl (upd (upd (upd f_28 61 4186) 62 4198) 63 4199))), (q_29, .inl (cA_30, 27, .inl (upd (upd f_35 25 88) 26 667))), (q_36, .inl (cA_37, 27, .inl (upd (upd (upd f_42 24 8283) 25 8292) 26 8293))), (q_43, .inl (cA_44, 13, .inl (upd (fun _ => 0) 0 2056)))] H := hP
  have hD : va_D A [(h0, .inr (14, [.ref q_1, .ref q_15, .ref q_29, .ref q_36, .null, .null, .int 0, .null, .null, .null, .long 0, .null, .int 0, .int 0, .int 0, .int 0, .int 0, .int 0, .int 0, .null, .null])), (q_1, .inl (cA_2, 64, .inl (upd (upd (upd f_14 61 306) 62 307) 63 308))), (q_15, .inl (cA_16, 64, .inl (upd (upd (upd f_28 61 4186) 62 4198) 63 4199))), (q_29, .inl (cA_30, 27, .inl (upd (upd f_35 25 88) 26 667))), (q_36, .inl (cA_37, 27, .inl (upd (upd (upd f_42 24 8283) 25 8292) 26 8293))), (q_43, .inl (cA_44, 13, .inl (upd (fun _ => 0) 0 2056)))] := hD
  refine lv_dup hx hb d_mLines_init_1267 rfl ?_
  refine lv_iconst (v := 1) hx hb d_mLines_init_1268 (by decide) ?_
  refine lv_sipush (v := 2060) hx hb d_mLines_init_1269 (by decide) ?_
  refine va_iast hx hb hK hP hD hS 5 4 rfl rfl (show ¬ ((1 : Int32) < 0 ∨ 13 ≤ (1 : Int32).toNatClampNeg) by decide) d_mLines_init_1272 (fun H locs hP hD hS => ?_)
  rw [show (1 : Int32).toNatClampNeg = 1 by decide] at hP hD
  have hP : va_P (dC, dI) vcl [(h0, .inr (14, [.ref q_1, .ref q_15, .ref q_29, .ref q_36, .null, .null, .int 0, .null, .null, .null, .long 0, .null, .int 0, .int 0, .int 0, .int 0, .int 0, .int 0, .int 0, .null, .null])), (q_1, .inl (cA_2, 64, .inl (upd (upd (upd f_14 61 306) 62 307) 63 308))), (q_15, .inl (cA_16, 64, .inl (upd (upd (upd f_28 61 4186) 62 4198) 63 4199))), (q_29, .inl (cA_30, 27, .inl (upd (upd f_35 25 88) 26 667))), (q_36, .inl (cA_37, 27, .inl (upd (upd (upd f_42 24 8283) 25 8292) 26 8293))), (q_43, .inl (cA_44, 13, .inl (upd (upd (fun _ => 0) 0 2056) 1 2060)))] H := hP
  have hD : va_D A [(h0, .inr (14, [.ref q_1, .ref q_15, .ref q_29, .ref q_36, .null, .null, .int 0, .null, .null, .null, .long 0, .null, .int 0, .int 0, .int 0, .int 0, .int 0, .int 0, .int 0, .null, .null])), (q_1, .inl (cA_2, 64, .inl (upd (upd (upd f_14 61 306) 62 307) 63 308))), (q_15, .inl (cA_16, 64, .inl (upd (upd (upd f_28 61 4186) 62 4198) 63 4199))), (q_29, .inl (cA_30, 27, .inl (upd (upd f_35 25 88) 26 667))), (q_36, .inl (cA_37, 27, .inl (upd (upd (upd f_42 24 8283) 25 8292) 26 8293))), (q_43, .inl (cA_44, 13, .inl (upd (upd (fun _ => 0) 0 2056) 1 2060)))] := hD
  refine lv_dup hx hb d_mLines_init_1273 rfl ?_
  refine lv_iconst (v := 2) hx hb d_mLines_init_1274 (by decide) ?_
  refine lv_sipush (v := 2061) hx hb d_mLines_init_1275 (by decide) ?_
  refine va_iast hx hb hK hP hD hS 5 4 rfl rfl (show ¬ ((2 : Int32) < 0 ∨ 13 ≤ (2 : Int32).toNatClampNeg) by decide) d_mLines_init_1278 (fun H locs hP hD hS => ?_)
  rw [show (2 : Int32).toNatClampNeg = 2 by decide] at hP hD
  have hP : va_P (dC, dI) vcl [(h0, .inr (14, [.ref q_1, .ref q_15, .ref q_29, .ref q_36, .null, .null, .int 0, .null, .null, .null, .long 0, .null, .int 0, .int 0, .int 0, .int 0, .int 0, .int 0, .int 0, .null, .null])), (q_1, .inl (cA_2, 64, .inl (upd (upd (upd f_14 61 306) 62 307) 63 308))), (q_15, .inl (cA_16, 64, .inl (upd (upd (upd f_28 61 4186) 62 4198) 63 4199))), (q_29, .inl (cA_30, 27, .inl (upd (upd f_35 25 88) 26 667))), (q_36, .inl (cA_37, 27, .inl (upd (upd (upd f_42 24 8283) 25 8292) 26 8293))), (q_43, .inl (cA_44, 13, .inl (upd (upd (upd (fun _ => 0) 0 2056) 1 2060) 2 2061)))] H := hP
  have hD : va_D A [(h0, .inr (14, [.ref q_1, .ref q_15, .ref q_29, .ref q_36, .null, .null, .int 0, .null, .null, .null, .long 0, .null, .int 0, .int 0, .int 0, .int 0, .int 0, .int 0, .int 0, .null, .null])), (q_1, .inl (cA_2, 64, .inl (upd (upd (upd f_14 61 306) 62 307) 63 308))), (q_15, .inl (cA_16, 64, .inl (upd (upd (upd f_28 61 4186) 62 4198) 63 4199))), (q_29, .inl (cA_30, 27, .inl (upd (upd f_35 25 88) 26 667))), (q_36, .inl (cA_37, 27, .inl (upd (upd (upd f_42 24 8283) 25 8292) 26 8293))), (q_43, .inl (cA_44, 13, .inl (upd (upd (upd (fun _ => 0) 0 2056) 1 2060) 2 2061)))] := hD
  refine lv_dup hx hb d_mLines_init_1279 rfl ?_
  refine lv_iconst (v := 3) hx hb d_mLines_init_1280 (by decide) ?_
  refine lv_sipush (v := 4114) hx hb d_mLines_init_1281 (by decide) ?_
  refine va_iast hx hb hK hP hD hS 5 4 rfl rfl (show ¬ ((3 : Int32) < 0 ∨ 13 ≤ (3 : Int32).toNatClampNeg) by decide) d_mLines_init_1284 (fun H locs hP hD hS => ?_)
  rw [show (3 : Int32).toNatClampNeg = 3 by decide] at hP hD
  obtain ⟨f_45, ef_45⟩ : ∃ y : Nat → Int32, y = upd (upd (upd (upd (fun _ => 0) 0 2056) 1 2060) 2 2061) 3 4114 := ⟨_, rfl⟩
  have hP : va_P (dC, dI) vcl [(h0, .inr (14, [.ref q_1, .ref q_15, .ref q_29, .ref q_36, .null, .null, .int 0, .null, .null, .null, .long 0, .null, .int 0, .int 0, .int 0, .int 0, .int 0, .int 0, .int 0, .null, .null])), (q_1, .inl (cA_2, 64, .inl (upd (upd (upd f_14 61 306) 62 307) 63 308))), (q_15, .inl (cA_16, 64, .inl (upd (upd (upd f_28 61 4186) 62 4198) 63 4199))), (q_29, .inl (cA_30, 27, .inl (upd (upd f_35 25 88) 26 667))), (q_36, .inl (cA_37, 27, .inl (upd (upd (upd f_42 24 8283) 25 8292) 26 8293))), (q_43, .inl (cA_44, 13, .inl (upd (upd (upd (upd (fun _ => 0) 0 2056) 1 2060) 2 2061) 3 4114)))] H := hP
  have hD : va_D A [(h0, .inr (14, [.ref q_1, .ref q_15, .ref q_29, .ref q_36, .null, .null, .int 0, .null, .null, .null, .long 0, .null, .int 0, .int 0, .int 0, .int 0, .int 0, .int 0, .int 0, .null, .null])), (q_1, .inl (cA_2, 64, .inl (upd (upd (upd f_14 61 306) 62 307) 63 308))), (q_15, .inl (cA_16, 64, .inl (upd (upd (upd f_28 61 4186) 62 4198) 63 4199))), (q_29, .inl (cA_30, 27, .inl (upd (upd f_35 25 88) 26 667))), (q_36, .inl (cA_37, 27, .inl (upd (upd (upd f_42 24 8283) 25 8292) 26 8293))), (q_43, .inl (cA_44, 13, .inl (upd (upd (upd (upd (fun _ => 0) 0 2056) 1 2060) 2 2061) 3 4114)))] := hD
  rw [← ef_45] at hP hD
  have hP : va_P (dC, dI) vcl [(h0, .inr (14, [.ref q_1, .ref q_15, .ref q_29, .ref q_36, .null, .null, .int 0, .null, .null, .null, .long 0, .null, .int 0, .int 0, .int 0, .int 0, .int 0, .int 0, .int 0, .null, .null])), (q_1, .inl (cA_2, 64, .inl (upd (upd (upd f_14 61 306) 62 307) 63 308))), (q_15, .inl (cA_16, 64, .inl (upd (upd (upd f_28 61 4186) 62 4198) 63 4199))), (q_29, .inl (cA_30, 27, .inl (upd (upd f_35 25 88) 26 667))), (q_36, .inl (cA_37, 27, .inl (upd (upd (upd f_42 24 8283) 25 8292) 26 8293))), (q_43, .inl (cA_44, 13, .inl f_45))] H := hP
  have hD : va_D A [(h0, .inr (14, [.ref q_1, .ref q_15, .ref q_29, .ref q_36, .null, .null, .int 0, .null, .null, .null, .long 0, .null, .int 0, .int 0, .int 0, .int 0, .int 0, .int 0, .int 0, .null, .null])), (q_1, .inl (cA_2, 64, .inl (upd (upd (upd f_14 61 306) 62 307) 63 308))), (q_15, .inl (cA_16, 64, .inl (upd (upd (upd f_28 61 4186) 62 4198) 63 4199))), (q_29, .inl (cA_30, 27, .inl (upd (upd f_35 25 88) 26 667))), (q_36, .inl (cA_37, 27, .inl (upd (upd (upd f_42 24 8283) 25 8292) 26 8293))), (q_43, .inl (cA_44, 13, .inl f_45))] := hD
  refine lv_dup hx hb d_mLines_init_1285 rfl ?_
  refine lv_iconst (v := 4) hx hb d_mLines_init_1286 (by decide) ?_
  refine lv_sipush (v := 4115) hx hb d_mLines_init_1287 (by decide) ?_
  refine va_iast hx hb hK hP hD hS 5 4 rfl rfl (show ¬ ((4 : Int32) < 0 ∨ 13 ≤ (4 : Int32).toNatClampNeg) by decide) d_mLines_init_1290 (fun H locs hP hD hS => ?_)
  rw [show (4 : Int32).toNatClampNeg = 4 by decide] at hP hD
  have hP : va_P (dC, dI) vcl [(h0, .inr (14, [.ref q_1, .ref q_15, .ref q_29, .ref q_36, .null, .null, .int 0, .null, .null, .null, .long 0, .null, .int 0, .int 0, .int 0, .int 0, .int 0, .int 0, .int 0, .null, .null])), (q_1, .inl (cA_2, 64, .inl (upd (upd (upd f_14 61 306) 62 307) 63 308))), (q_15, .inl (cA_16, 64, .inl (upd (upd (upd f_28 61 4186) 62 4198) 63 4199))), (q_29, .inl (cA_30, 27, .inl (upd (upd f_35 25 88) 26 667))), (q_36, .inl (cA_37, 27, .inl (upd (upd (upd f_42 24 8283) 25 8292) 26 8293))), (q_43, .inl (cA_44, 13, .inl (upd f_45 4 4115)))] H := hP
  have hD : va_D A [(h0, .inr (14, [.ref q_1, .ref q_15, .ref q_29, .ref q_36, .null, .null, .int 0, .null, .null, .null, .long 0, .null, .int 0, .int 0, .int 0, .int 0, .int 0, .int 0, .int 0, .null, .null])), (q_1, .inl (cA_2, 64, .inl (upd (upd (upd f_14 61 306) 62 307) 63 308))), (q_15, .inl (cA_16, 64, .inl (upd (upd (upd f_28 61 4186) 62 4198) 63 4199))), (q_29, .inl (cA_30, 27, .inl (upd (upd f_35 25 88) 26 667))), (q_36, .inl (cA_37, 27, .inl (upd (upd (upd f_42 24 8283) 25 8292) 26 8293))), (q_43, .inl (cA_44, 13, .inl (upd f_45 4 4115)))] := hD
  refine lv_dup hx hb d_mLines_init_1291 rfl ?_
  refine lv_iconst (v := 5) hx hb d_mLines_init_1292 (by decide) ?_
  refine lv_sipush (v := 4116) hx hb d_mLines_init_1293 (by decide) ?_
  refine va_iast hx hb hK hP hD hS 5 4 rfl rfl (show ¬ ((5 : Int32) < 0 ∨ 13 ≤ (5 : Int32).toNatClampNeg) by decide) d_mLines_init_1296 (fun H locs hP hD hS => ?_)
  rw [show (5 : Int32).toNatClampNeg = 5 by decide] at hP hD
  have hP : va_P (dC, dI) vcl [(h0, .inr (14, [.ref q_1, .ref q_15, .ref q_29, .ref q_36, .null, .null, .int 0, .null, .null, .null, .long 0, .null, .int 0, .int 0, .int 0, .int 0, .int 0, .int 0, .int 0, .null, .null])), (q_1, .inl (cA_2, 64, .inl (upd (upd (upd f_14 61 306) 62 307) 63 308))), (q_15, .inl (cA_16, 64, .inl (upd (upd (upd f_28 61 4186) 62 4198) 63 4199))), (q_29, .inl (cA_30, 27, .inl (upd (upd f_35 25 88) 26 667))), (q_36, .inl (cA_37, 27, .inl (upd (upd (upd f_42 24 8283) 25 8292) 26 8293))), (q_43, .inl (cA_44, 13, .inl (upd (upd f_45 4 4115) 5 4116)))] H := hP
  have hD : va_D A [(h0, .inr (14, [.ref q_1, .ref q_15, .ref q_29, .ref q_36, .null, .null, .int 0, .null, .null, .null, .long 0, .null, .int 0, .int 0, .int 0, .int 0, .int 0, .int 0, .int 0, .null, .null])), (q_1, .inl (cA_2, 64, .inl (upd (upd (upd f_14 61 306) 62 307) 63 308))), (q_15, .inl (cA_16, 64, .inl (upd (upd (upd f_28 61 4186) 62 4198) 63 4199))), (q_29, .inl (cA_30, 27, .inl (upd (upd f_35 25 88) 26 667))), (q_36, .inl (cA_37, 27, .inl (upd (upd (upd f_42 24 8283) 25 8292) 26 8293))), (q_43, .inl (cA_44, 13, .inl (upd (upd f_45 4 4115) 5 4116)))] := hD
  refine lv_dup hx hb d_mLines_init_1297 rfl ?_
  refine lv_bipush (v := 6) hx hb d_mLines_init_1298 (by decide) ?_
  refine lv_sipush (v := 4117) hx hb d_mLines_init_1300 (by decide) ?_
  refine va_iast hx hb hK hP hD hS 5 4 rfl rfl (show ¬ ((6 : Int32) < 0 ∨ 13 ≤ (6 : Int32).toNatClampNeg) by decide) d_mLines_init_1303 (fun H locs hP hD hS => ?_)
  rw [show (6 : Int32).toNatClampNeg = 6 by decide] at hP hD
  have hP : va_P (dC, dI) vcl [(h0, .inr (14, [.ref q_1, .ref q_15, .ref q_29, .ref q_36, .null, .null, .int 0, .null, .null, .null, .long 0, .null, .int 0, .int 0, .int 0, .int 0, .int 0, .int 0, .int 0, .null, .null])), (q_1, .inl (cA_2, 64, .inl (upd (upd (upd f_14 61 306) 62 307) 63 308))), (q_15, .inl (cA_16, 64, .inl (upd (upd (upd f_28 61 4186) 62 4198) 63 4199))), (q_29, .inl (cA_30, 27, .inl (upd (upd f_35 25 88) 26 667))), (q_36, .inl (cA_37, 27, .inl (upd (upd (upd f_42 24 8283) 25 8292) 26 8293))), (q_43, .inl (cA_44, 13, .inl (upd (upd (upd f_45 4 4115) 5 4116) 6 4117)))] H := hP
  have hD : va_D A [(h0, .inr (14, [.ref q_1, .ref q_15, .ref q_29, .ref q_36, .null, .null, .int 0, .null, .null, .null, .long 0, .null, .int 0, .int 0, .int 0, .int 0, .int 0, .int 0, .int 0, .null, .null])), (q_1, .inl (cA_2, 64, .inl (upd (upd (upd f_14 61 306) 62 307) 63 308))), (q_15, .inl (cA_16, 64, .inl (upd (upd (upd f_28 61 4186) 62 4198) 63 4199))), (q_29, .inl (cA_30, 27, .inl (upd (upd f_35 25 88) 26 667))), (q_36, .inl (cA_37, 27, .inl (upd (upd (upd f_42 24 8283) 25 8292) 26 8293))), (q_43, .inl (cA_44, 13, .inl (upd (upd (upd f_45 4 4115) 5 4116) 6 4117)))] := hD
  refine lv_dup hx hb d_mLines_init_1304 rfl ?_
  refine lv_bipush (v := 7) hx hb d_mLines_init_1305 (by decide) ?_
  refine lv_sipush (v := 4118) hx hb d_mLines_init_1307 (by decide) ?_
  refine va_iast hx hb hK hP hD hS 5 4 rfl rfl (show ¬ ((7 : Int32) < 0 ∨ 13 ≤ (7 : Int32).toNatClampNeg) by decide) d_mLines_init_1310 (fun H locs hP hD hS => ?_)
  rw [show (7 : Int32).toNatClampNeg = 7 by decide] at hP hD
  have hP : va_P (dC, dI) vcl [(h0, .inr (14, [.ref q_1, .ref q_15, .ref q_29, .ref q_36, .null, .null, .int 0, .null, .null, .null, .long 0, .null, .int 0, .int 0, .int 0, .int 0, .int 0, .int 0, .int 0, .null, .null])), (q_1, .inl (cA_2, 64, .inl (upd (upd (upd f_14 61 306) 62 307) 63 308))), (q_15, .inl (cA_16, 64, .inl (upd (upd (upd f_28 61 4186) 62 4198) 63 4199))), (q_29, .inl (cA_30, 27, .inl (upd (upd f_35 25 88) 26 667))), (q_36, .inl (cA_37, 27, .inl (upd (upd (upd f_42 24 8283) 25 8292) 26 8293))), (q_43, .inl (cA_44, 13, .inl (upd (upd (upd (upd f_45 4 4115) 5 4116) 6 4117) 7 4118)))] H := hP
  have hD : va_D A [(h0, .inr (14, [.ref q_1, .ref q_15, .ref q_29, .ref q_36, .null, .null, .int 0, .null, .null, .null, .long 0, .null, .int 0, .int 0, .int 0, .int 0, .int 0, .int 0, .int 0, .null, .null])), (q_1, .inl (cA_2, 64, .inl (upd (upd (upd f_14 61 306) 62 307) 63 308))), (q_15, .inl (cA_16, 64, .inl (upd (upd (upd f_28 61 4186) 62 4198) 63 4199))), (q_29, .inl (cA_30, 27, .inl (upd (upd f_35 25 88) 26 667))), (q_36, .inl (cA_37, 27, .inl (upd (upd (upd f_42 24 8283) 25 8292) 26 8293))), (q_43, .inl (cA_44, 13, .inl (upd (upd (upd (upd f_45 4 4115) 5 4116) 6 4117) 7 4118)))] := hD
  refine lv_dup hx hb d_mLines_init_1311 rfl ?_
  refine lv_bipush (v := 8) hx hb d_mLines_init_1312 (by decide) ?_
  refine lv_sipush (v := 4119) hx hb d_mLines_init_1314 (by decide) ?_
  refine va_iast hx hb hK hP hD hS 5 4 rfl rfl (show ¬ ((8 : Int32) < 0 ∨ 13 ≤ (8 : Int32).toNatClampNeg) by decide) d_mLines_init_1317 (fun H locs hP hD hS => ?_)
  rw [show (8 : Int32).toNatClampNeg = 8 by decide] at hP hD
  obtain ⟨f_46, ef_46⟩ : ∃ y : Nat → Int32, y = upd (upd (upd (upd (upd f_45 4 4115) 5 4116) 6 4117) 7 4118) 8 4119 := ⟨_, rfl⟩
  have hP : va_P (dC, dI) vcl [(h0, .inr (14, [.ref q_1, .ref q_15, .ref q_29, .ref q_36, .null, .null, .int 0, .null, .null, .null, .long 0, .null, .int 0, .int 0, .int 0, .int 0, .int 0, .int 0, .int 0, .null, .null])), (q_1, .inl (cA_2, 64, .inl (upd (upd (upd f_14 61 306) 62 307) 63 308))), (q_15, .inl (cA_16, 64, .inl (upd (upd (upd f_28 61 4186) 62 4198) 63 4199))), (q_29, .inl (cA_30, 27, .inl (upd (upd f_35 25 88) 26 667))), (q_36, .inl (cA_37, 27, .inl (upd (upd (upd f_42 24 8283) 25 8292) 26 8293))), (q_43, .inl (cA_44, 13, .inl (upd (upd (upd (upd (upd f_45 4 4115) 5 4116) 6 4117) 7 4118) 8 4119)))] H := hP
  have hD : va_D A [(h0, .inr (14, [.ref q_1, .ref q_15, .ref q_29, .ref q_36, .null, .null, .int 0, .null, .null, .null, .long 0, .null, .int 0, .int 0, .int 0, .int 0, .int 0, .int 0, .int 0, .null, .null])), (q_1, .inl (cA_2, 64, .inl (upd (upd (upd f_14 61 306) 62 307) 63 308))), (q_15, .inl (cA_16, 64, .inl (upd (upd (upd f_28 61 4186) 62 4198) 63 4199))), (q_29, .inl (cA_30, 27, .inl (upd (upd f_35 25 88) 26 667))), (q_36, .inl (cA_37, 27, .inl (upd (upd (upd f_42 24 8283) 25 8292) 26 8293))), (q_43, .inl (cA_44, 13, .inl (upd (upd (upd (upd (upd f_45 4 4115) 5 4116) 6 4117) 7 4118) 8 4119)))] := hD
  rw [← ef_46] at hP hD
  have hP : va_P (dC, dI) vcl [(h0, .inr (14, [.ref q_1, .ref q_15, .ref q_29, .ref q_36, .null, .null, .int 0, .null, .null, .null, .long 0, .null, .int 0, .int 0, .int 0, .int 0, .int 0, .int 0, .int 0, .null, .null])), (q_1, .inl (cA_2, 64, .inl (upd (upd (upd f_14 61 306) 62 307) 63 308))), (q_15, .inl (cA_16, 64, .inl (upd (upd (upd f_28 61 4186) 62 4198) 63 4199))), (q_29, .inl (cA_30, 27, .inl (upd (upd f_35 25 88) 26 667))), (q_36, .inl (cA_37, 27, .inl (upd (upd (upd f_42 24 8283) 25 8292) 26 8293))), (q_43, .inl (cA_44, 13, .inl f_46))] H := hP
  have hD : va_D A [(h0, .inr (14, [.ref q_1, .ref q_15, .ref q_29, .ref q_36, .null, .null, .int 0, .null, .null, .null, .long 0, .null, .int 0, .int 0, .int 0, .int 0, .int 0, .int 0, .int 0, .null, .null])), (q_1, .inl (cA_2, 64, .inl (upd (upd (upd f_14 61 306) 62 307) 63 308))), (q_15, .inl (cA_16, 64, .inl (upd (upd (upd f_28 61 4186) 62 4198) 63 4199))), (q_29, .inl (cA_30, 27, .inl (upd (upd f_35 25 88) 26 667))), (q_36, .inl (cA_37, 27, .inl (upd (upd (upd f_42 24 8283) 25 8292) 26 8293))), (q_43, .inl (cA_44, 13, .inl f_46))] := hD
  refine lv_dup hx hb d_mLines_init_1318 rfl ?_
  refine lv_bipush (v := 9) hx hb d_mLines_init_1319 (by decide) ?_
  refine lv_sipush (v := 4124) hx hb d_mLines_init_1321 (by decide) ?_
  refine va_iast hx hb hK hP hD hS 5 4 rfl rfl (show ¬ ((9 : Int32) < 0 ∨ 13 ≤ (9 : Int32).toNatClampNeg) by decide) d_mLines_init_1324 (fun H locs hP hD hS => ?_)
  rw [show (9 : Int32).toNatClampNeg = 9 by decide] at hP hD
  have hP : va_P (dC, dI) vcl [(h0, .inr (14, [.ref q_1, .ref q_15, .ref q_29, .ref q_36, .null, .null, .int 0, .null, .null, .null, .long 0, .null, .int 0, .int 0, .int 0, .int 0, .int 0, .int 0, .int 0, .null, .null])), (q_1, .inl (cA_2, 64, .inl (upd (upd (upd f_14 61 306) 62 307) 63 308))), (q_15, .inl (cA_16, 64, .inl (upd (upd (upd f_28 61 4186) 62 4198) 63 4199))), (q_29, .inl (cA_30, 27, .inl (upd (upd f_35 25 88) 26 667))), (q_36, .inl (cA_37, 27, .inl (upd (upd (upd f_42 24 8283) 25 8292) 26 8293))), (q_43, .inl (cA_44, 13, .inl (upd f_46 9 4124)))] H := hP
  have hD : va_D A [(h0, .inr (14, [.ref q_1, .ref q_15, .ref q_29, .ref q_36, .null, .null, .int 0, .null, .null, .null, .long 0, .null, .int 0, .int 0, .int 0, .int 0, .int 0, .int 0, .int 0, .null, .null])), (q_1, .inl (cA_2, 64, .inl (upd (upd (upd f_14 61 306) 62 307) 63 308))), (q_15, .inl (cA_16, 64, .inl (upd (upd (upd f_28 61 4186) 62 4198) 63 4199))), (q_29, .inl (cA_30, 27, .inl (upd (upd f_35 25 88) 26 667))), (q_36, .inl (cA_37, 27, .inl (upd (upd (upd f_42 24 8283) 25 8292) 26 8293))), (q_43, .inl (cA_44, 13, .inl (upd f_46 9 4124)))] := hD
  refine lv_dup hx hb d_mLines_init_1325 rfl ?_
  refine lv_bipush (v := 10) hx hb d_mLines_init_1326 (by decide) ?_
  refine lv_sipush (v := 4125) hx hb d_mLines_init_1328 (by decide) ?_
  refine va_iast hx hb hK hP hD hS 5 4 rfl rfl (show ¬ ((10 : Int32) < 0 ∨ 13 ≤ (10 : Int32).toNatClampNeg) by decide) d_mLines_init_1331 (fun H locs hP hD hS => ?_)
  rw [show (10 : Int32).toNatClampNeg = 10 by decide] at hP hD
  have hP : va_P (dC, dI) vcl [(h0, .inr (14, [.ref q_1, .ref q_15, .ref q_29, .ref q_36, .null, .null, .int 0, .null, .null, .null, .long 0, .null, .int 0, .int 0, .int 0, .int 0, .int 0, .int 0, .int 0, .null, .null])), (q_1, .inl (cA_2, 64, .inl (upd (upd (upd f_14 61 306) 62 307) 63 308))), (q_15, .inl (cA_16, 64, .inl (upd (upd (upd f_28 61 4186) 62 4198) 63 4199))), (q_29, .inl (cA_30, 27, .inl (upd (upd f_35 25 88) 26 667))), (q_36, .inl (cA_37, 27, .inl (upd (upd (upd f_42 24 8283) 25 8292) 26 8293))), (q_43, .inl (cA_44, 13, .inl (upd (upd f_46 9 4124) 10 4125)))] H := hP
  have hD : va_D A [(h0, .inr (14, [.ref q_1, .ref q_15, .ref q_29, .ref q_36, .null, .null, .int 0, .null, .null, .null, .long 0, .null, .int 0, .int 0, .int 0, .int 0, .int 0, .int 0, .int 0, .null, .null])), (q_1, .inl (cA_2, 64, .inl (upd (upd (upd f_14 61 306) 62 307) 63 308))), (q_15, .inl (cA_16, 64, .inl (upd (upd (upd f_28 61 4186) 62 4198) 63 4199))), (q_29, .inl (cA_30, 27, .inl (upd (upd f_35 25 88) 26 667))), (q_36, .inl (cA_37, 27, .inl (upd (upd (upd f_42 24 8283) 25 8292) 26 8293))), (q_43, .inl (cA_44, 13, .inl (upd (upd f_46 9 4124) 10 4125)))] := hD
  refine lv_dup hx hb d_mLines_init_1332 rfl ?_
  refine lv_bipush (v := 11) hx hb d_mLines_init_1333 (by decide) ?_
  refine lv_sipush (v := 4126) hx hb d_mLines_init_1335 (by decide) ?_
  refine va_iast hx hb hK hP hD hS 5 4 rfl rfl (show ¬ ((11 : Int32) < 0 ∨ 13 ≤ (11 : Int32).toNatClampNeg) by decide) d_mLines_init_1338 (fun H locs hP hD hS => ?_)
  rw [show (11 : Int32).toNatClampNeg = 11 by decide] at hP hD
  have hP : va_P (dC, dI) vcl [(h0, .inr (14, [.ref q_1, .ref q_15, .ref q_29, .ref q_36, .null, .null, .int 0, .null, .null, .null, .long 0, .null, .int 0, .int 0, .int 0, .int 0, .int 0, .int 0, .int 0, .null, .null])), (q_1, .inl (cA_2, 64, .inl (upd (upd (upd f_14 61 306) 62 307) 63 308))), (q_15, .inl (cA_16, 64, .inl (upd (upd (upd f_28 61 4186) 62 4198) 63 4199))), (q_29, .inl (cA_30, 27, .inl (upd (upd f_35 25 88) 26 667))), (q_36, .inl (cA_37, 27, .inl (upd (upd (upd f_42 24 8283) 25 8292) 26 8293))), (q_43, .inl (cA_44, 13, .inl (upd (upd (upd f_46 9 4124) 10 4125) 11 4126)))] H := hP
  have hD : va_D A [(h0, .inr (14, [.ref q_1, .ref q_15, .ref q_29, .ref q_36, .null, .null, .int 0, .null, .null, .null, .long 0, .null, .int 0, .int 0, .int 0, .int 0, .int 0, .int 0, .int 0, .null, .null])), (q_1, .inl (cA_2, 64, .inl (upd (upd (upd f_14 61 306) 62 307) 63 308))), (q_15, .inl (cA_16, 64, .inl (upd (upd (upd f_28 61 4186) 62 4198) 63 4199))), (q_29, .inl (cA_30, 27, .inl (upd (upd f_35 25 88) 26 667))), (q_36, .inl (cA_37, 27, .inl (upd (upd (upd f_42 24 8283) 25 8292) 26 8293))), (q_43, .inl (cA_44, 13, .inl (upd (upd (upd f_46 9 4124) 10 4125) 11 4126)))] := hD
  refine lv_dup hx hb d_mLines_init_1339 rfl ?_
  refine lv_bipush (v := 12) hx hb d_mLines_init_1340 (by decide) ?_
  refine lv_sipush (v := 4127) hx hb d_mLines_init_1342 (by decide) ?_
  refine va_iast hx hb hK hP hD hS 5 4 rfl rfl (show ¬ ((12 : Int32) < 0 ∨ 13 ≤ (12 : Int32).toNatClampNeg) by decide) d_mLines_init_1345 (fun H locs hP hD hS => ?_)
  rw [show (12 : Int32).toNatClampNeg = 12 by decide] at hP hD
  have hP : va_P (dC, dI) vcl [(h0, .inr (14, [.ref q_1, .ref q_15, .ref q_29, .ref q_36, .null, .null, .int 0, .null, .null, .null, .long 0, .null, .int 0, .int 0, .int 0, .int 0, .int 0, .int 0, .int 0, .null, .null])), (q_1, .inl (cA_2, 64, .inl (upd (upd (upd f_14 61 306) 62 307) 63 308))), (q_15, .inl (cA_16, 64, .inl (upd (upd (upd f_28 61 4186) 62 4198) 63 4199))), (q_29, .inl (cA_30, 27, .inl (upd (upd f_35 25 88) 26 667))), (q_36, .inl (cA_37, 27, .inl (upd (upd (upd f_42 24 8283) 25 8292) 26 8293))), (q_43, .inl (cA_44, 13, .inl (upd (upd (upd (upd f_46 9 4124) 10 4125) 11 4126) 12 4127)))] H := hP
  have hD : va_D A [(h0, .inr (14, [.ref q_1, .ref q_15, .ref q_29, .ref q_36, .null, .null, .int 0, .null, .null, .null, .long 0, .null, .int 0, .int 0, .int 0, .int 0, .int 0, .int 0, .int 0, .null, .null])), (q_1, .inl (cA_2, 64, .inl (upd (upd (upd f_14 61 306) 62 307) 63 308))), (q_15, .inl (cA_16, 64, .inl (upd (upd (upd f_28 61 4186) 62 4198) 63 4199))), (q_29, .inl (cA_30, 27, .inl (upd (upd f_35 25 88) 26 667))), (q_36, .inl (cA_37, 27, .inl (upd (upd (upd f_42 24 8283) 25 8292) 26 8293))), (q_43, .inl (cA_44, 13, .inl (upd (upd (upd (upd f_46 9 4124) 10 4125) 11 4126) 12 4127)))] := hD
  refine va_putF (D := (dC, dI)) (ci := 14) (v := .ref q_43) (ty := (.array .int)) (C := R_mLines) (T := F_mLines) (N := 21) hx hb hwd i_mLines t_mLines to_mLines no_mLines hown hK hP hD hS 0 rfl rfl 4 (by decide) (hwd _ wd_10_87) (fun _ h9 => h9) rfl hin rfl (by decide +kernel) rfl rfl (Nat.le_of_ble_eq_true rfl) d_mLines_init_1346 (fun H locs hP hD hS => ?_)
  have hP : va_P (dC, dI) vcl [(h0, .inr (14, [.ref q_1, .ref q_15, .ref q_29, .ref q_36, .ref q_43, .null, .int 0, .null, .null, .null, .long 0, .null, .int 0, .int 0, .int 0, .int 0, .int 0, .int 0, .int 0, .null, .null])), (q_1, .inl (cA_2, 64, .inl (upd (upd (upd f_14 61 306) 62 307) 63 308))), (q_15, .inl (cA_16, 64, .inl (upd (upd (upd f_28 61 4186) 62 4198) 63 4199))), (q_29, .inl (cA_30, 27, .inl (upd (upd f_35 25 88) 26 667))), (q_36, .inl (cA_37, 27, .inl (upd (upd (upd f_42 24 8283) 25 8292) 26 8293))), (q_43, .inl (cA_44, 13, .inl (upd (upd (upd (upd f_46 9 4124) 10 4125) 11 4126) 12 4127)))] H := hP
  have hD : va_D A [(h0, .inr (14, [.ref q_1, .ref q_15, .ref q_29, .ref q_36, .ref q_43, .null, .int 0, .null, .null, .null, .long 0, .null, .int 0, .int 0, .int 0, .int 0, .int 0, .int 0, .int 0, .null, .null])), (q_1, .inl (cA_2, 64, .inl (upd (upd (upd f_14 61 306) 62 307) 63 308))), (q_15, .inl (cA_16, 64, .inl (upd (upd (upd f_28 61 4186) 62 4198) 63 4199))), (q_29, .inl (cA_30, 27, .inl (upd (upd f_35 25 88) 26 667))), (q_36, .inl (cA_37, 27, .inl (upd (upd (upd f_42 24 8283) 25 8292) 26 8293))), (q_43, .inl (cA_44, 13, .inl (upd (upd (upd (upd f_46 9 4124) 10 4125) 11 4126) 12 4127)))] := hD
  refine lv_aload_n hx hb d_mLines_init_1349 rfl (lv_at hl 0 rfl) ?_
  refine lv_bipush (v := 10) hx hb d_mLines_init_1350 (by decide) ?_
  refine va_newa (atype := .int) (N' := 10) (a0 := (10, .inl (fun _ => 0))) (ty := .int) (n := 10) hx hb (hwd _ wd_1_167) rfl hK hP hD hS hA (fun _ => rfl) (by decide) (by decide) (by decide) (Nat.le_of_ble_eq_true rfl) (Nat.le_of_ble_eq_true rfl) d_mLines_init_1352 (fun q_47 cA_48 H hK hP hD hS => ?_)
  have hP : va_P (dC, dI) vcl [(h0, .inr (14, [.ref q_1, .ref q_15, .ref q_29, .ref q_36, .ref q_43, .null, .int 0, .null, .null, .null, .long 0, .null, .int 0, .int 0, .int 0, .int 0, .int 0, .int 0, .int 0, .null, .null])), (q_1, .inl (cA_2, 64, .inl (upd (upd (upd f_14 61 306) 62 307) 63 308))), (q_15, .inl (cA_16, 64, .inl (upd (upd (upd f_28 61 4186) 62 4198) 63 4199))), (q_29, .inl (cA_30, 27, .inl (upd (upd f_35 25 88) 26 667))), (q_36, .inl (cA_37, 27, .inl (upd (upd (upd f_42 24 8283) 25 8292) 26 8293))), (q_43, .inl (cA_44, 13, .inl (upd (upd (upd (upd f_46 9 4124) 10 4125) 11 4126) 12 4127))), (q_47, .inl (cA_48, 10, .inl (fun _ => 0)))] H := hP
  have hD : va_D A [(h0, .inr (14, [.ref q_1, .ref q_15, .ref q_29, .ref q_36, .ref q_43, .null, .int 0, .null, .null, .null, .long 0, .null, .int 0, .int 0, .int 0, .int 0, .int 0, .int 0, .int 0, .null, .null])), (q_1, .inl (cA_2, 64, .inl (upd (upd (upd f_14 61 306) 62 307) 63 308))), (q_15, .inl (cA_16, 64, .inl (upd (upd (upd f_28 61 4186) 62 4198) 63 4199))), (q_29, .inl (cA_30, 27, .inl (upd (upd f_35 25 88) 26 667))), (q_36, .inl (cA_37, 27, .inl (upd (upd (upd f_42 24 8283) 25 8292) 26 8293))), (q_43, .inl (cA_44, 13, .inl (upd (upd (upd (upd f_46 9 4124) 10 4125) 11 4126) 12 4127))), (q_47, .inl (cA_48, 10, .inl (fun _ => 0)))] := hD
  have hK : va_K (dC, dI) vcl [(cA_2, .int), (cA_16, .int), (cA_30, .int), (cA_37, .int), (cA_44, .int), (cA_48, .int)] s := hK
  refine W.widen (k := 6) (n := 205) (by decide) (by decide) ?_
  refine lv_dup hx hb d_mLines_init_1354 rfl ?_
  refine lv_iconst (v := 0) hx hb d_mLines_init_1355 (by decide) ?_
  refine lv_bipush (v := 17) hx hb d_mLines_init_1356 (by decide) ?_
  refine va_iast hx hb hK hP hD hS 6 5 rfl rfl (show ¬ ((0 : Int32) < 0 ∨ 10 ≤ (0 : Int32).toNatClampNeg) by decide) d_mLines_init_1358 (fun H locs hP hD hS => ?_)
  rw [show (0 : Int32).toNatClampNeg = 0 by decide] at hP hD
  have hP : va_P (dC, dI) vcl [(h0, .inr (14, [.ref q_1, .ref q_15, .ref q_29, .ref q_36, .ref q_43, .null, .int 0, .null, .null, .null, .long 0, .null, .int 0, .int 0, .int 0, .int 0, .int 0, .int 0, .int 0, .null, .null])), (q_1, .inl (cA_2, 64, .inl (upd (upd (upd f_14 61 306) 62 307) 63 308))), (q_15, .inl (cA_16, 64, .inl (upd (upd (upd f_28 61 4186) 62 4198) 63 4199))), (q_29, .inl (cA_30, 27, .inl (upd (upd f_35 25 88) 26 667))), (q_36, .inl (cA_37, 27, .inl (upd (upd (upd f_42 24 8283) 25 8292) 26 8293))), (q_43, .inl (cA_44, 13, .inl (upd (upd (upd (upd f_46 9 4124) 10 4125) 11 4126) 12 4127))), (q_47, .inl (cA_48, 10, .inl (upd (fun _ => 0) 0 17)))] H := hP
  have hD : va_D A [(h0, .inr (14, [.ref q_1, .ref q_15, .ref q_29, .ref q_36, .ref q_43, .null, .int 0, .null, .null, .null, .long 0, .null, .int 0, .int 0, .int 0, .int 0, .int 0, .int 0, .int 0, .null, .null])), (q_1, .inl (cA_2, 64, .inl (upd (upd (upd f_14 61 306) 62 307) 63 308))), (q_15, .inl (cA_16, 64, .inl (upd (upd (upd f_28 61 4186) 62 4198) 63 4199))), (q_29, .inl (cA_30, 27, .inl (upd (upd f_35 25 88) 26 667))), (q_36, .inl (cA_37, 27, .inl (upd (upd (upd f_42 24 8283) 25 8292) 26 8293))), (q_43, .inl (cA_44, 13, .inl (upd (upd (upd (upd f_46 9 4124) 10 4125) 11 4126) 12 4127))), (q_47, .inl (cA_48, 10, .inl (upd (fun _ => 0) 0 17)))] := hD
  refine lv_dup hx hb d_mLines_init_1359 rfl ?_
  refine lv_iconst (v := 1) hx hb d_mLines_init_1360 (by decide) ?_
  refine lv_bipush (v := 9) hx hb d_mLines_init_1361 (by decide) ?_
  refine va_iast hx hb hK hP hD hS 6 5 rfl rfl (show ¬ ((1 : Int32) < 0 ∨ 10 ≤ (1 : Int32).toNatClampNeg) by decide) d_mLines_init_1363 (fun H locs hP hD hS => ?_)
  rw [show (1 : Int32).toNatClampNeg = 1 by decide] at hP hD
  have hP : va_P (dC, dI) vcl [(h0, .inr (14, [.ref q_1, .ref q_15, .ref q_29, .ref q_36, .ref q_43, .null, .int 0, .null, .null, .null, .long 0, .null, .int 0, .int 0, .int 0, .int 0, .int 0, .int 0, .int 0, .null, .null])), (q_1, .inl (cA_2, 64, .inl (upd (upd (upd f_14 61 306) 62 307) 63 308))), (q_15, .inl (cA_16, 64, .inl (upd (upd (upd f_28 61 4186) 62 4198) 63 4199))), (q_29, .inl (cA_30, 27, .inl (upd (upd f_35 25 88) 26 667))), (q_36, .inl (cA_37, 27, .inl (upd (upd (upd f_42 24 8283) 25 8292) 26 8293))), (q_43, .inl (cA_44, 13, .inl (upd (upd (upd (upd f_46 9 4124) 10 4125) 11 4126) 12 4127))), (q_47, .inl (cA_48, 10, .inl (upd (upd (fun _ => 0) 0 17) 1 9)))] H := hP
  have hD : va_D A [(h0, .inr (14, [.ref q_1, .ref q_15, .ref q_29, .ref q_36, .ref q_43, .null, .int 0, .null, .null, .null, .long 0, .null, .int 0, .int 0, .int 0, .int 0, .int 0, .int 0, .int 0, .null, .null])), (q_1, .inl (cA_2, 64, .inl (upd (upd (upd f_14 61 306) 62 307) 63 308))), (q_15, .inl (cA_16, 64, .inl (upd (upd (upd f_28 61 4186) 62 4198) 63 4199))), (q_29, .inl (cA_30, 27, .inl (upd (upd f_35 25 88) 26 667))), (q_36, .inl (cA_37, 27, .inl (upd (upd (upd f_42 24 8283) 25 8292) 26 8293))), (q_43, .inl (cA_44, 13, .inl (upd (upd (upd (upd f_46 9 4124) 10 4125) 11 4126) 12 4127))), (q_47, .inl (cA_48, 10, .inl (upd (upd (fun _ => 0) 0 17) 1 9)))] := hD
  refine lv_dup hx hb d_mLines_init_1364 rfl ?_
  refine lv_iconst (v := 2) hx hb d_mLines_init_1365 (by decide) ?_
  refine lv_sipush (v := 130) hx hb d_mLines_init_1366 (by decide) ?_
  refine va_iast hx hb hK hP hD hS 6 5 rfl rfl (show ¬ ((2 : Int32) < 0 ∨ 10 ≤ (2 : Int32).toNatClampNeg) by decide) d_mLines_init_1369 (fun H locs hP hD hS => ?_)
  rw [show (2 : Int32).toNatClampNeg = 2 by decide] at hP hD
  have hP : va_P (dC, dI) vcl [(h0, .inr (14, [.ref q_1, .ref q_15, .ref q_29, .ref q_36, .ref q_43, .null, .int 0, .null, .null, .null, .long 0, .null, .int 0, .int 0, .int 0, .int 0, .int 0, .int 0, .int 0, .null, .null])), (q_1, .inl (cA_2, 64, .inl (upd (upd (upd f_14 61 306) 62 307) 63 308))), (q_15, .inl (cA_16, 64, .inl (upd (upd (upd f_28 61 4186) 62 4198) 63 4199))), (q_29, .inl (cA_30, 27, .inl (upd (upd f_35 25 88) 26 667))), (q_36, .inl (cA_37, 27, .inl (upd (upd (upd f_42 24 8283) 25 8292) 26 8293))), (q_43, .inl (cA_44, 13, .inl (upd (upd (upd (upd f_46 9 4124) 10 4125) 11 4126) 12 4127))), (q_47, .inl (cA_48, 10, .inl (upd (upd (upd (fun _ => 0) 0 17) 1 9) 2 130)))] H := hP
  have hD : va_D A [(h0, .inr (14, [.ref q_1, .ref q_15, .ref q_29, .ref q_36, .ref q_43, .null, .int 0, .null, .null, .null, .long 0, .null, .int 0, .int 0, .int 0, .int 0, .int 0, .int 0, .int 0, .null, .null])), (q_1, .inl (cA_2, 64, .inl (upd (upd (upd f_14 61 306) 62 307) 63 308))), (q_15, .inl (cA_16, 64, .inl (upd (upd (upd f_28 61 4186) 62 4198) 63 4199))), (q_29, .inl (cA_30, 27, .inl (upd (upd f_35 25 88) 26 667))), (q_36, .inl (cA_37, 27, .inl (upd (upd (upd f_42 24 8283) 25 8292) 26 8293))), (q_43, .inl (cA_44, 13, .inl (upd (upd (upd (upd f_46 9 4124) 10 4125) 11 4126) 12 4127))), (q_47, .inl (cA_48, 10, .inl (upd (upd (upd (fun _ => 0) 0 17) 1 9) 2 130)))] := hD
  refine lv_dup hx hb d_mLines_init_1370 rfl ?_
  refine lv_iconst (v := 3) hx hb d_mLines_init_1371 (by decide) ?_
  refine lv_bipush (v := 66) hx hb d_mLines_init_1372 (by decide) ?_
  refine va_iast hx hb hK hP hD hS 6 5 rfl rfl (show ¬ ((3 : Int32) < 0 ∨ 10 ≤ (3 : Int32).toNatClampNeg) by decide) d_mLines_init_1374 (fun H locs hP hD hS => ?_)
  rw [show (3 : Int32).toNatClampNeg = 3 by decide] at hP hD
  have hP : va_P (dC, dI) vcl [(h0, .inr (14, [.ref q_1, .ref q_15, .ref q_29, .ref q_36, .ref q_43, .null, .int 0, .null, .null, .null, .long 0, .null, .int 0, .int 0, .int 0, .int 0, .int 0, .int 0, .int 0, .null, .null])), (q_1, .inl (cA_2, 64, .inl (upd (upd (upd f_14 61 306) 62 307) 63 308))), (q_15, .inl (cA_16, 64, .inl (upd (upd (upd f_28 61 4186) 62 4198) 63 4199))), (q_29, .inl (cA_30, 27, .inl (upd (upd f_35 25 88) 26 667))), (q_36, .inl (cA_37, 27, .inl (upd (upd (upd f_42 24 8283) 25 8292) 26 8293))), (q_43, .inl (cA_44, 13, .inl (upd (upd (upd (upd f_46 9 4124) 10 4125) 11 4126) 12 4127))), (q_47, .inl (cA_48, 10, .inl (upd (upd (upd (upd (fun _ => 0) 0 17) 1 9) 2 130) 3 66)))] H := hP
  have hD : va_D A [(h0, .inr (14, [.ref q_1, .ref q_15, .ref q_29, .ref q_36, .ref q_43, .null, .int 0, .null, .null, .null, .long 0, .null, .int 0, .int 0, .int 0, .int 0, .int 0, .int 0, .int 0, .null, .null])), (q_1, .inl (cA_2, 64, .inl (upd (upd (upd f_14 61 306) 62 307) 63 308))), (q_15, .inl (cA_16, 64, .inl (upd (upd (upd f_28 61 4186) 62 4198) 63 4199))), (q_29, .inl (cA_30, 27, .inl (upd (upd f_35 25 88) 26 667))), (q_36, .inl (cA_37, 27, .inl (upd (upd (upd f_42 24 8283) 25 8292) 26 8293))), (q_43, .inl (cA_44, 13, .inl (upd (upd (upd (upd f_46 9 4124) 10 4125) 11 4126) 12 4127))), (q_47, .inl (cA_48, 10, .inl (upd (upd (upd (upd (fun _ => 0) 0 17) 1 9) 2 130) 3 66)))] := hD
  refine lv_dup hx hb d_mLines_init_1375 rfl ?_
  refine lv_iconst (v := 4) hx hb d_mLines_init_1376 (by decide) ?_
  refine lv_bipush (v := 10) hx hb d_mLines_init_1377 (by decide) ?_
  refine va_iast hx hb hK hP hD hS 6 5 rfl rfl (show ¬ ((4 : Int32) < 0 ∨ 10 ≤ (4 : Int32).toNatClampNeg) by decide) d_mLines_init_1379 (fun H locs hP hD hS => ?_)
  rw [show (4 : Int32).toNatClampNeg = 4 by decide] at hP hD
  obtain ⟨f_49, ef_49⟩ : ∃ y : Nat → Int32, y = upd (upd (upd (upd (upd (fun _ => 0) 0 17) 1 9) 2 130) 3 66) 4 10 := ⟨_, rfl⟩
  have hP : va_P (dC, dI) vcl [(h0, .inr (14, [.ref q_1, .ref q_15, .ref q_29, .ref q_36, .ref q_43, .null, .int 0, .null, .null, .null, .long 0, .null, .int 0, .int 0, .int 0, .int 0, .int 0, .int 0, .int 0, .null, .null])), (q_1, .inl (cA_2, 64, .inl (upd (upd (upd f_14 61 306) 62 307) 63 308))), (q_15, .inl (cA_16, 64, .inl (upd (upd (upd f_28 61 4186) 62 4198) 63 4199))), (q_29, .inl (cA_30, 27, .inl (upd (upd f_35 25 88) 26 667))), (q_36, .inl (cA_37, 27, .inl (upd (upd (upd f_42 24 8283) 25 8292) 26 8293))), (q_43, .inl (cA_44, 13, .inl (upd (upd (upd (upd f_46 9 4124) 10 4125) 11 4126) 12 4127))), (q_47, .inl (cA_48, 10, .inl (upd (upd (upd (upd (upd (fun _ => 0) 0 17) 1 9) 2 130) 3 66) 4 10)))] H := hP
  have hD : va_D A [(h0, .inr (14, [.ref q_1, .ref q_15, .ref q_29, .ref q_36, .ref q_43, .null, .int 0, .null, .null, .null, .long 0, .null, .int 0, .int 0, .int 0, .int 0, .int 0, .int 0, .int 0, .null, .null])), (q_1, .inl (cA_2, 64, .inl (upd (upd (upd f_14 61 306) 62 307) 63 308))), (q_15, .inl (cA_16, 64, .inl (upd (upd (upd f_28 61 4186) 62 4198) 63 4199))), (q_29, .inl (cA_30, 27, .inl (upd (upd f_35 25 88) 26 667))), (q_36, .inl (cA_37, 27, .inl (upd (upd (upd f_42 24 8283) 25 8292) 26 8293))), (q_43, .inl (cA_44, 13, .inl (upd (upd (upd (upd f_46 9 4124) 10 4125) 11 4126) 12 4127))), (q_47, .inl (cA_48, 10, .inl (upd (upd (upd (upd (upd (fun _ => 0) 0 17) 1 9) 2 130) 3 66) 4 10)))] := hD
  rw [← ef_49] at hP hD
  have hP : va_P (dC, dI) vcl [(h0, .inr (14, [.ref q_1, .ref q_15, .ref q_29, .ref q_36, .ref q_43, .null, .int 0, .null, .null, .null, .long 0, .null, .int 0, .int 0, .int 0, .int 0, .int 0, .int 0, .int 0, .null, .null])), (q_1, .inl (cA_2, 64, .inl (upd (upd (upd f_14 61 306) 62 307) 63 308))), (q_15, .inl (cA_16, 64, .inl (upd (upd (upd f_28 61 4186) 62 4198) 63 4199))), (q_29, .inl (cA_30, 27, .inl (upd (upd f_35 25 88) 26 667))), (q_36, .inl (cA_37, 27, .inl (upd (upd (upd f_42 24 8283) 25 8292) 26 8293))), (q_43, .inl (cA_44, 13, .inl (upd (upd (upd (upd f_46 9 4124) 10 4125) 11 4126) 12 4127))), (q_47, .inl (cA_48, 10, .inl f_49))] H := hP
  have hD : va_D A [(h0, .inr (14, [.ref q_1, .ref q_15, .ref q_29, .ref q_36, .ref q_43, .null, .int 0, .null, .null, .null, .long 0, .null, .int 0, .int 0, .int 0, .int 0, .int 0, .int 0, .int 0, .null, .null])), (q_1, .inl (cA_2, 64, .inl (upd (upd (upd f_14 61 306) 62 307) 63 308))), (q_15, .inl (cA_16, 64, .inl (upd (upd (upd f_28 61 4186) 62 4198) 63 4199))), (q_29, .inl (cA_30, 27, .inl (upd (upd f_35 25 88) 26 667))), (q_36, .inl (cA_37, 27, .inl (upd (upd (upd f_42 24 8283) 25 8292) 26 8293))), (q_43, .inl (cA_44, 13, .inl (upd (upd (upd (upd f_46 9 4124) 10 4125) 11 4126) 12 4127))), (q_47, .inl (cA_48, 10, .inl f_49))] := hD
  refine lv_dup hx hb d_mLines_init_1380 rfl ?_
  refine lv_iconst (v := 5) hx hb d_mLines_init_1381 (by decide) ?_
  refine lv_iconst (v := 3) hx hb d_mLines_init_1382 (by decide) ?_
  refine va_iast hx hb hK hP hD hS 6 5 rfl rfl (show ¬ ((5 : Int32) < 0 ∨ 10 ≤ (5 : Int32).toNatClampNeg) by decide) d_mLines_init_1383 (fun H locs hP hD hS => ?_)
  rw [show (5 : Int32).toNatClampNeg = 5 by decide] at hP hD
  have hP : va_P (dC, dI) vcl [(h0, .inr (14, [.ref q_1, .ref q_15, .ref q_29, .ref q_36, .ref q_43, .null, .int 0, .null, .null, .null, .long 0, .null, .int 0, .int 0, .int 0, .int 0, .int 0, .int 0, .int 0, .null, .null])), (q_1, .inl (cA_2, 64, .inl (upd (upd (upd f_14 61 306) 62 307) 63 308))), (q_15, .inl (cA_16, 64, .inl (upd (upd (upd f_28 61 4186) 62 4198) 63 4199))), (q_29, .inl (cA_30, 27, .inl (upd (upd f_35 25 88) 26 667))), (q_36, .inl (cA_37, 27, .inl (upd (upd (upd f_42 24 8283) 25 8292) 26 8293))), (q_43, .inl (cA_44, 13, .inl (upd (upd (upd (upd f_46 9 4124) 10 4125) 11 4126) 12 4127))), (q_47, .inl (cA_48, 10, .inl (upd f_49 5 3)))] H := hP
  have hD : va_D A [(h0, .inr (14, [.ref q_1, .ref q_15, .ref q_29, .ref q_36, .ref q_43, .null, .int 0, .null, .null, .null, .long 0, .null, .int 0, .int 0, .int 0, .int 0, .int 0, .int 0, .int 0, .null, .null])), (q_1, .inl (cA_2, 64, .inl (upd (upd (upd f_14 61 306) 62 307) 63 308))), (q_15, .inl (cA_16, 64, .inl (upd (upd (upd f_28 61 4186) 62 4198) 63 4199))), (q_29, .inl (cA_30, 27, .inl (upd (upd f_35 25 88) 26 667))), (q_36, .inl (cA_37, 27, .inl (upd (upd (upd f_42 24 8283) 25 8292) 26 8293))), (q_43, .inl (cA_44, 13, .inl (upd (upd (upd (upd f_46 9 4124) 10 4125) 11 4126) 12 4127))), (q_47, .inl (cA_48, 10, .inl (upd f_49 5 3)))] := hD
  refine lv_dup hx hb d_mLines_init_1384 rfl ?_
  refine lv_bipush (v := 6) hx hb d_mLines_init_1385 (by decide) ?_
  refine lv_bipush (v := 11) hx hb d_mLines_init_1387 (by decide) ?_
  refine va_iast hx hb hK hP hD hS 6 5 rfl rfl (show ¬ ((6 : Int32) < 0 ∨ 10 ≤ (6 : Int32).toNatClampNeg) by decide) d_mLines_init_1389 (fun H locs hP hD hS => ?_)
  rw [show (6 : Int32).toNatClampNeg = 6 by decide] at hP hD
  have hP : va_P (dC, dI) vcl [(h0, .inr (14, [.ref q_1, .ref q_15, .ref q_29, .ref q_36, .ref q_43, .null, .int 0, .null, .null, .null, .long 0, .null, .int 0, .int 0, .int 0, .int 0, .int 0, .int 0, .int 0, .null, .null])), (q_1, .inl (cA_2, 64, .inl (upd (upd (upd f_14 61 306) 62 307) 63 308))), (q_15, .inl (cA_16, 64, .inl (upd (upd (upd f_28 61 4186) 62 4198) 63 4199))), (q_29, .inl (cA_30, 27, .inl (upd (upd f_35 25 88) 26 667))), (q_36, .inl (cA_37, 27, .inl (upd (upd (upd f_42 24 8283) 25 8292) 26 8293))), (q_43, .inl (cA_44, 13, .inl (upd (upd (upd (upd f_46 9 4124) 10 4125) 11 4126) 12 4127))), (q_47, .inl (cA_48, 10, .inl (upd (upd f_49 5 3) 6 11)))] H := hP
  have hD : va_D A [(h0, .inr (14, [.ref q_1, .ref q_15, .ref q_29, .ref q_36, .ref q_43, .null, .int 0, .null, .null, .null, .long 0, .null, .int 0, .int 0, .int 0, .int 0, .int 0, .int 0, .int 0, .null, .null])), (q_1, .inl (cA_2, 64, .inl (upd (upd (upd f_14 61 306) 62 307) 63 308))), (q_15, .inl (cA_16, 64, .inl (upd (upd (upd f_28 61 4186) 62 4198) 63 4199))), (q_29, .inl (cA_30, 27, .inl (upd (upd f_35 25 88) 26 667))), (q_36, .inl (cA_37, 27, .inl (upd (upd (upd f_42 24 8283) 25 8292) 26 8293))), (q_43, .inl (cA_44, 13, .inl (upd (upd (upd (upd f_46 9 4124) 10 4125) 11 4126) 12 4127))), (q_47, .inl (cA_48, 10, .inl (upd (upd f_49 5 3) 6 11)))] := hD
  refine lv_dup hx hb d_mLines_init_1390 rfl ?_
  refine lv_bipush (v := 7) hx hb d_mLines_init_1391 (by decide) ?_
  refine lv_bipush (v := 67) hx hb d_mLines_init_1393 (by decide) ?_
  refine va_iast hx hb hK hP hD hS 6 5 rfl rfl (show ¬ ((7 : Int32) < 0 ∨ 10 ≤ (7 : Int32).toNatClampNeg) by decide) d_mLines_init_1395 (fun H locs hP hD hS => ?_)
  rw [show (7 : Int32).toNatClampNeg = 7 by decide] at hP hD
  have hP : va_P (dC, dI) vcl [(h0, .inr (14, [.ref q_1, .ref q_15, .ref q_29, .ref q_36, .ref q_43, .null, .int 0, .null, .null, .null, .long 0, .null, .int 0, .int 0, .int 0, .int 0, .int 0, .int 0, .int 0, .null, .null])), (q_1, .inl (cA_2, 64, .inl (upd (upd (upd f_14 61 306) 62 307) 63 308))), (q_15, .inl (cA_16, 64, .inl (upd (upd (upd f_28 61 4186) 62 4198) 63 4199))), (q_29, .inl (cA_30, 27, .inl (upd (upd f_35 25 88) 26 667))), (q_36, .inl (cA_37, 27, .inl (upd (upd (upd f_42 24 8283) 25 8292) 26 8293))), (q_43, .inl (cA_44, 13, .inl (upd (upd (upd (upd f_46 9 4124) 10 4125) 11 4126) 12 4127))), (q_47, .inl (cA_48, 10, .inl (upd (upd (upd f_49 5 3) 6 11) 7 67)))] H := hP
  have hD : va_D A [(h0, .inr (14, [.ref q_1, .ref q_15, .ref q_29, .ref q_36, .ref q_43, .null, .int 0, .null, .null, .null, .long 0, .null, .int 0, .int 0, .int 0, .int 0, .int 0, .int 0, .int 0, .null, .null])), (q_1, .inl (cA_2, 64, .inl (upd (upd (upd f_14 61 306) 62 307) 63 308))), (q_15, .inl (cA_16, 64, .inl (upd (upd (upd f_28 61 4186) 62 4198) 63 4199))), (q_29, .inl (cA_30, 27, .inl (upd (upd f_35 25 88) 26 667))), (q_36, .inl (cA_37, 27, .inl (upd (upd (upd f_42 24 8283) 25 8292) 26 8293))), (q_43, .inl (cA_44, 13, .inl (upd (upd (upd (upd f_46 9 4124) 10 4125) 11 4126) 12 4127))), (q_47, .inl (cA_48, 10, .inl (upd (upd (upd f_49 5 3) 6 11) 7 67)))] := hD
  refine lv_dup hx hb d_mLines_init_1396 rfl ?_
  refine lv_bipush (v := 8) hx hb d_mLines_init_1397 (by decide) ?_
  refine lv_sipush (v := 131) hx hb d_mLines_init_1399 (by decide) ?_
  refine va_iast hx hb hK hP hD hS 6 5 rfl rfl (show ¬ ((8 : Int32) < 0 ∨ 10 ≤ (8 : Int32).toNatClampNeg) by decide) d_mLines_init_1402 (fun H locs hP hD hS => ?_)
  rw [show (8 : Int32).toNatClampNeg = 8 by decide] at hP hD
  have hP : va_P (dC, dI) vcl [(h0, .inr (14, [.ref q_1, .ref q_15, .ref q_29, .ref q_36, .ref q_43, .null, .int 0, .null, .null, .null, .long 0, .null, .int 0, .int 0, .int 0, .int 0, .int 0, .int 0, .int 0, .null, .null])), (q_1, .inl (cA_2, 64, .inl (upd (upd (upd f_14 61 306) 62 307) 63 308))), (q_15, .inl (cA_16, 64, .inl (upd (upd (upd f_28 61 4186) 62 4198) 63 4199))), (q_29, .inl (cA_30, 27, .inl (upd (upd f_35 25 88) 26 667))), (q_36, .inl (cA_37, 27, .inl (upd (upd (upd f_42 24 8283) 25 8292) 26 8293))), (q_43, .inl (cA_44, 13, .inl (upd (upd (upd (upd f_46 9 4124) 10 4125) 11 4126) 12 4127))), (q_47, .inl (cA_48, 10, .inl (upd (upd (upd (upd f_49 5 3) 6 11) 7 67) 8 131)))] H := hP
  have hD : va_D A [(h0, .inr (14, [.ref q_1, .ref q_15, .ref q_29, .ref q_36, .ref q_43, .null, .int 0, .null, .null, .null, .long 0, .null, .int 0, .int 0, .int 0, .int 0, .int 0, .int 0, .int 0, .null, .null])), (q_1, .inl (cA_2, 64, .inl (upd (upd (upd f_14 61 306) 62 307) 63 308))), (q_15, .inl (cA_16, 64, .inl (upd (upd (upd f_28 61 4186) 62 4198) 63 4199))), (q_29, .inl (cA_30, 27, .inl (upd (upd f_35 25 88) 26 667))), (q_36, .inl (cA_37, 27, .inl (upd (upd (upd f_42 24 8283) 25 8292) 26 8293))), (q_43, .inl (cA_44, 13, .inl (upd (upd (upd (upd f_46 9 4124) 10 4125) 11 4126) 12 4127))), (q_47, .inl (cA_48, 10, .inl (upd (upd (upd (upd f_49 5 3) 6 11) 7 67) 8 131)))] := hD
  refine lv_dup hx hb d_mLines_init_1403 rfl ?_
  refine lv_bipush (v := 9) hx hb d_mLines_init_1404 (by decide) ?_
  refine lv_sipush (v := 4097) hx hb d_mLines_init_1406 (by decide) ?_
  refine va_iast hx hb hK hP hD hS 6 5 rfl rfl (show ¬ ((9 : Int32) < 0 ∨ 10 ≤ (9 : Int32).toNatClampNeg) by decide) d_mLines_init_1409 (fun H locs hP hD hS => ?_)
  rw [show (9 : Int32).toNatClampNeg = 9 by decide] at hP hD
  have hP : va_P (dC, dI) vcl [(h0, .inr (14, [.ref q_1, .ref q_15, .ref q_29, .ref q_36, .ref q_43, .null, .int 0, .null, .null, .null, .long 0, .null, .int 0, .int 0, .int 0, .int 0, .int 0, .int 0, .int 0, .null, .null])), (q_1, .inl (cA_2, 64, .inl (upd (upd (upd f_14 61 306) 62 307) 63 308))), (q_15, .inl (cA_16, 64, .inl (upd (upd (upd f_28 61 4186) 62 4198) 63 4199))), (q_29, .inl (cA_30, 27, .inl (upd (upd f_35 25 88) 26 667))), (q_36, .inl (cA_37, 27, .inl (upd (upd (upd f_42 24 8283) 25 8292) 26 8293))), (q_43, .inl (cA_44, 13, .inl (upd (upd (upd (upd f_46 9 4124) 10 4125) 11 4126) 12 4127))), (q_47, .inl (cA_48, 10, .inl (upd (upd (upd (upd (upd f_49 5 3) 6 11) 7 67) 8 131) 9 4097)))] H := hP
  have hD : va_D A [(h0, .inr (14, [.ref q_1, .ref q_15, .ref q_29, .ref q_36, .ref q_43, .null, .int 0, .null, .null, .null, .long 0, .null, .int 0, .int 0, .int 0, .int 0, .int 0, .int 0, .int 0, .null, .null])), (q_1, .inl (cA_2, 64, .inl (upd (upd (upd f_14 61 306) 62 307) 63 308))), (q_15, .inl (cA_16, 64, .inl (upd (upd (upd f_28 61 4186) 62 4198) 63 4199))), (q_29, .inl (cA_30, 27, .inl (upd (upd f_35 25 88) 26 667))), (q_36, .inl (cA_37, 27, .inl (upd (upd (upd f_42 24 8283) 25 8292) 26 8293))), (q_43, .inl (cA_44, 13, .inl (upd (upd (upd (upd f_46 9 4124) 10 4125) 11 4126) 12 4127))), (q_47, .inl (cA_48, 10, .inl (upd (upd (upd (upd (upd f_49 5 3) 6 11) 7 67) 8 131) 9 4097)))] := hD
  refine va_putF (D := (dC, dI)) (ci := 14) (v := .ref q_47) (ty := (.array .int)) (C := R_mLines) (T := F_mLines) (N := 21) hx hb hwd i_mLines t_mLines to_mLines no_mLines hown hK hP hD hS 0 rfl rfl 5 (by decide) (hwd _ wd_10_88) (fun _ h9 => h9) rfl hin rfl (by decide +kernel) rfl rfl (Nat.le_of_ble_eq_true rfl) d_mLines_init_1410 (fun H locs hP hD hS => ?_)
  have hP : va_P (dC, dI) vcl [(h0, .inr (14, [.ref q_1, .ref q_15, .ref q_29, .ref q_36, .ref q_43, .ref q_47, .int 0, .null, .null, .null, .long 0, .null, .int 0, .int 0, .int 0, .int 0, .int 0, .int 0, .int 0, .null, .null])), (q_1, .inl (cA_2, 64, .inl (upd (upd (upd f_14 61 306) 62 307) 63 308))), (q_15, .inl (cA_16, 64, .inl (upd (upd (upd f_28 61 4186) 62 4198) 63 4199))), (q_29, .inl (cA_30, 27, .inl (upd (upd f_35 25 88) 26 667))), (q_36, .inl (cA_37, 27, .inl (upd (upd (upd f_42 24 8283) 25 8292) 26 8293))), (q_43, .inl (cA_44, 13, .inl (upd (upd (upd (upd f_46 9 4124) 10 4125) 11 4126) 12 4127))), (q_47, .inl (cA_48, 10, .inl (upd (upd (upd (upd (upd f_49 5 3) 6 11) 7 67) 8 131) 9 4097)))] H := hP
  have hD : va_D A [(h0, .inr (14, [.ref q_1, .ref q_15, .ref q_29, .ref q_36, .ref q_43, .ref q_47, .int 0, .null, .null, .null, .long 0, .null, .int 0, .int 0, .int 0, .int 0, .int 0, .int 0, .int 0, .null, .null])), (q_1, .inl (cA_2, 64, .inl (upd (upd (upd f_14 61 306) 62 307) 63 308))), (q_15, .inl (cA_16, 64, .inl (upd (upd (upd f_28 61 4186) 62 4198) 63 4199))), (q_29, .inl (cA_30, 27, .inl (upd (upd f_35 25 88) 26 667))), (q_36, .inl (cA_37, 27, .inl (upd (upd (upd f_42 24 8283) 25 8292) 26 8293))), (q_43, .inl (cA_44, 13, .inl (upd (upd (upd (upd f_46 9 4124) 10 4125) 11 4126) 12 4127))), (q_47, .inl (cA_48, 10, .inl (upd (upd (upd (upd (upd f_49 5 3) 6 11) 7 67) 8 131) 9 4097)))] := hD
  refine lv_aload_n hx hb d_mLines_init_1413 rfl (lv_at hl 0 rfl) ?_
  refine lv_sipush (v := 10000) hx hb d_mLines_init_1414 (by decide) ?_
  refine va_newa (atype := .boolean) (N' := 10000) (a0 := (10000, .inl (fun _ => 0))) (ty := .boolean) (n := 10000) hx hb (hwd _ wd_2_150) rfl hK hP hD hS hA (fun _ => rfl) (by decide) (by decide) (by decide) (Nat.le_of_ble_eq_true rfl) (Nat.le_of_ble_eq_true rfl) d_mLines_init_1417 (fun q_50 cA_51 H hK hP hD hS => ?_)
  have hP : va_P (dC, dI) vcl [(h0, .inr (14, [.ref q_1, .ref q_15, .ref q_29, .ref q_36, .ref q_43, .ref q_47, .int 0, .null, .null, .null, .long 0, .null, .int 0, .int 0, .int 0, .int 0, .int 0, .int 0, .int 0, .null, .null])), (q_1, .inl (cA_2, 64, .inl (upd (upd (upd f_14 61 306) 62 307) 63 308))), (q_15, .inl (cA_16, 64, .inl (upd (upd (upd f_28 61 4186) 62 4198) 63 4199))), (q_29, .inl (cA_30, 27, .inl (upd (upd f_35 25 88) 26 667))), (q_36, .inl (cA_37, 27, .inl (upd (upd (upd f_42 24 8283) 25 8292) 26 8293))), (q_43, .inl (cA_44, 13, .inl (upd (upd (upd (upd f_46 9 4124) 10 4125) 11 4126) 12 4127))), (q_47, .inl (cA_48, 10, .inl (upd (upd (upd (upd (upd f_49 5 3) 6 11) 7 67) 8 131) 9 4097))), (q_50, .inl (cA_51, 10000, .inl (fun _ => 0)))] H := hP
  have hD : va_D A [(h0, .inr (14, [.ref q_1, .ref q_15, .ref q_29, .ref q_36, .ref q_43, .ref q_47, .int 0, .null, .null, .null, .long 0, .null, .int 0, .int 0, .int 0, .int 0, .int 0, .int 0, .int 0, .null, .null])), (q_1, .inl (cA_2, 64, .inl (upd (upd (upd f_14 61 306) 62 307) 63 308))), (q_15, .inl (cA_16, 64, .inl (upd (upd (upd f_28 61 4186) 62 4198) 63 4199))), (q_29, .inl (cA_30, 27, .inl (upd (upd f_35 25 88) 26 667))), (q_36, .inl (cA_37, 27, .inl (upd (upd (upd f_42 24 8283) 25 8292) 26 8293))), (q_43, .inl (cA_44, 13, .inl (upd (upd (upd (upd f_46 9 4124) 10 4125) 11 4126) 12 4127))), (q_47, .inl (cA_48, 10, .inl (upd (upd (upd (upd (upd f_49 5 3) 6 11) 7 67) 8 131) 9 4097))), (q_50, .inl (cA_51, 10000, .inl (fun _ => 0)))] := hD
  have hK : va_K (dC, dI) vcl [(cA_2, .int), (cA_16, .int), (cA_30, .int), (cA_37, .int), (cA_44, .int), (cA_48, .int), (cA_51, .boolean)] s := hK
  refine W.widen (k := 7) (n := 10205) (by decide) (by decide) ?_
  refine va_putF (D := (dC, dI)) (ci := 14) (v := .ref q_50) (ty := (.array .boolean)) (C := R_mLines) (T := F_mLines) (N := 21) hx hb hwd i_mLines t_mLines to_mLines no_mLines hown hK hP hD hS 0 rfl rfl 7 (by decide) (hwd _ wd_10_90) (fun _ h9 => h9) rfl hin rfl (by decide +kernel) rfl rfl (Nat.le_of_ble_eq_true rfl) d_mLines_init_1419 (fun H locs hP hD hS => ?_)
  have hP : va_P (dC, dI) vcl [(h0, .inr (14, [.ref q_1, .ref q_15, .ref q_29, .ref q_36, .ref q_43, .ref q_47, .int 0, .ref q_50, .null, .null, .long 0, .null, .int 0, .int 0, .int 0, .int 0, .int 0, .int 0, .int 0, .null, .null])), (q_1, .inl (cA_2, 64, .inl (upd (upd (upd f_14 61 306) 62 307) 63 308))), (q_15, .inl (cA_16, 64, .inl (upd (upd (upd f_28 61 4186) 62 4198) 63 4199))), (q_29, .inl (cA_30, 27, .inl (upd (upd f_35 25 88) 26 667))), (q_36, .inl (cA_37, 27, .inl (upd (upd (upd f_42 24 8283) 25 8292) 26 8293))), (q_43, .inl (cA_44, 13, .inl (upd (upd (upd (upd f_46 9 4124) 10 4125) 11 4126) 12 4127))), (q_47, .inl (cA_48, 10, .inl (upd (upd (upd (upd (upd f_49 5 3) 6 11) 7 67) 8 131) 9 4097))), (q_50, .inl (cA_51, 10000, .inl (fun _ => 0)))] H := hP
  have hD : va_D A [(h0, .inr (14, [.ref q_1, .ref q_15, .ref q_29, .ref q_36, .ref q_43, .ref q_47, .int 0, .ref q_50, .null, .null, .long 0, .null, .int 0, .int 0, .int 0, .int 0, .int 0, .int 0, .int 0, .null, .null])), (q_1, .inl (cA_2, 64, .inl (upd (upd (upd f_14 61 306) 62 307) 63 308))), (q_15, .inl (cA_16, 64, .inl (upd (upd (upd f_28 61 4186) 62 4198) 63 4199))), (q_29, .inl (cA_30, 27, .inl (upd (upd f_35 25 88) 26 667))), (q_36, .inl (cA_37, 27, .inl (upd (upd (upd f_42 24 8283) 25 8292) 26 8293))), (q_43, .inl (cA_44, 13, .inl (upd (upd (upd (upd f_46 9 4124) 10 4125) 11 4126) 12 4127))), (q_47, .inl (cA_48, 10, .inl (upd (upd (upd (upd (upd f_49 5 3) 6 11) 7 67) 8 131) 9 4097))), (q_50, .inl (cA_51, 10000, .inl (fun _ => 0)))] := hD
  refine lv_aload_n hx hb d_mLines_init_1422 rfl (lv_at hl 0 rfl) ?_
  refine lv_sipush (v := 10000) hx hb d_mLines_init_1423 (by decide) ?_
  refine va_newa (atype := .boolean) (N' := 10000) (a0 := (10000, .inl (fun _ => 0))) (ty := .boolean) (n := 10000) hx hb (hwd _ wd_2_150) rfl hK hP hD hS hA (fun _ => rfl) (by decide) (by decide) (by decide) (Nat.le_of_ble_eq_true rfl) (Nat.le_of_ble_eq_true rfl) d_mLines_init_1426 (fun q_52 cA_53 H hK hP hD hS => ?_)
  have hP : va_P (dC, dI) vcl [(h0, .inr (14, [.ref q_1, .ref q_15, .ref q_29, .ref q_36, .ref q_43, .ref q_47, .int 0, .ref q_50, .null, .null, .long 0, .null, .int 0, .int 0, .int 0, .int 0, .int 0, .int 0, .int 0, .null, .null])), (q_1, .inl (cA_2, 64, .inl (upd (upd (upd f_14 61 306) 62 307) 63 308))), (q_15, .inl (cA_16, 64, .inl (upd (upd (upd f_28 61 4186) 62 4198) 63 4199))), (q_29, .inl (cA_30, 27, .inl (upd (upd f_35 25 88) 26 667))), (q_36, .inl (cA_37, 27, .inl (upd (upd (upd f_42 24 8283) 25 8292) 26 8293))), (q_43, .inl (cA_44, 13, .inl (upd (upd (upd (upd f_46 9 4124) 10 4125) 11 4126) 12 4127))), (q_47, .inl (cA_48, 10, .inl (upd (upd (upd (upd (upd f_49 5 3) 6 11) 7 67) 8 131) 9 4097))), (q_50, .inl (cA_51, 10000, .inl (fun _ => 0))), (q_52, .inl (cA_53, 10000, .inl (fun _ => 0)))] H := hP
  have hD : va_D A [(h0, .inr (14, [.ref q_1, .ref q_15, .ref q_29, .ref q_36, .ref q_43, .ref q_47, .int 0, .ref q_50, .null, .null, .long 0, .null, .int 0, .int 0, .int 0, .int 0, .int 0, .int 0, .int 0, .null, .null])), (q_1, .inl (cA_2, 64, .inl (upd (upd (upd f_14 61 306) 62 307) 63 308))), (q_15, .inl (cA_16, 64, .inl (upd (upd (upd f_28 61 4186) 62 4198) 63 4199))), (q_29, .inl (cA_30, 27, .inl (upd (upd f_35 25 88) 26 667))), (q_36, .inl (cA_37, 27, .inl (upd (upd (upd f_42 24 8283) 25 8292) 26 8293))), (q_43, .inl (cA_44, 13, .inl (upd (upd (upd (upd f_46 9 4124) 10 4125) 11 4126) 12 4127))), (q_47, .inl (cA_48, 10, .inl (upd (upd (upd (upd (upd f_49 5 3) 6 11) 7 67) 8 131) 9 4097))), (q_50, .inl (cA_51, 10000, .inl (fun _ => 0))), (q_52, .inl (cA_53, 10000, .inl (fun _ => 0)))] := hD
  have hK : va_K (dC, dI) vcl [(cA_2, .int), (cA_16, .int), (cA_30, .int), (cA_37, .int), (cA_44, .int), (cA_48, .int), (cA_51, .boolean), (cA_53, .boolean)] s := hK
  refine W.widen (k := 8) (n := 20205) (by decide) (by decide) ?_
  refine va_putF (D := (dC, dI)) (ci := 14) (v := .ref q_52) (ty := (.array .boolean)) (C := R_mLines) (T := F_mLines) (N := 21) hx hb hwd i_mLines t_mLines to_mLines no_mLines hown hK hP hD hS 0 rfl rfl 8 (by decide) (hwd _ wd_10_92) (fun _ h9 => h9) rfl hin rfl (by decide +kernel) rfl rfl (Nat.le_of_ble_eq_true rfl) d_mLines_init_1428 (fun H locs hP hD hS => ?_)
  have hP : va_P (dC, dI) vcl [(h0, .inr (14, [.ref q_1, .ref q_15, .ref q_29, .ref q_36, .ref q_43, .ref q_47, .int 0, .ref q_50, .ref q_52, .null, .long 0, .null, .int 0, .int 0, .int 0, .int 0, .int 0, .int 0, .int 0, .null, .null])), (q_1, .inl (cA_2, 64, .inl (upd (upd (upd f_14 61 306) 62 307) 63 308))), (q_15, .inl (cA_16, 64, .inl (upd (upd (upd f_28 61 4186) 62 4198) 63 4199))), (q_29, .inl (cA_30, 27, .inl (upd (upd f_35 25 88) 26 667))), (q_36, .inl (cA_37, 27, .inl (upd (upd (upd f_42 24 8283) 25 8292) 26 8293))), (q_43, .inl (cA_44, 13, .inl (upd (upd (upd (upd f_46 9 4124) 10 4125) 11 4126) 12 4127))), (q_47, .inl (cA_48, 10, .inl (upd (upd (upd (upd (upd f_49 5 3) 6 11) 7 67) 8 131) 9 4097))), (q_50, .inl (cA_51, 10000, .inl (fun _ => 0))), (q_52, .inl (cA_53, 10000, .inl (fun _ => 0)))] H := hP
  have hD : va_D A [(h0, .inr (14, [.ref q_1, .ref q_15, .ref q_29, .ref q_36, .ref q_43, .ref q_47, .int 0, .ref q_50, .ref q_52, .null, .long 0, .null, .int 0, .int 0, .int 0, .int 0, .int 0, .int 0, .int 0, .null, .null])), (q_1, .inl (cA_2, 64, .inl (upd (upd (upd f_14 61 306) 62 307) 63 308))), (q_15, .inl (cA_16, 64, .inl (upd (upd (upd f_28 61 4186) 62 4198) 63 4199))), (q_29, .inl (cA_30, 27, .inl (upd (upd f_35 25 88) 26 667))), (q_36, .inl (cA_37, 27, .inl (upd (upd (upd f_42 24 8283) 25 8292) 26 8293))), (q_43, .inl (cA_44, 13, .inl (upd (upd (upd (upd f_46 9 4124) 10 4125) 11 4126) 12 4127))), (q_47, .inl (cA_48, 10, .inl (upd (upd (upd (upd (upd f_49 5 3) 6 11) 7 67) 8 131) 9 4097))), (q_50, .inl (cA_51, 10000, .inl (fun _ => 0))), (q_52, .inl (cA_53, 10000, .inl (fun _ => 0)))] := hD
  refine lv_aload_n hx hb d_mLines_init_1431 rfl (lv_at hl 0 rfl) ?_
  refine lv_sipush (v := 10000) hx hb d_mLines_init_1432 (by decide) ?_
  refine va_newa (atype := .boolean) (N' := 10000) (a0 := (10000, .inl (fun _ => 0))) (ty := .boolean) (n := 10000) hx hb (hwd _ wd_2_150) rfl hK hP hD hS hA (fun _ => rfl) (by decide) (by decide) (by decide) (Nat.le_of_ble_eq_true rfl) (Nat.le_of_ble_eq_true rfl) d_mLines_init_1435 (fun q_54 cA_55 H hK hP hD hS => ?_)
  have hP : va_P (dC, dI) vcl [(h0, .inr (14, [.ref q_1, .ref q_15, .ref q_29, .ref q_36, .ref q_43, .ref q_47, .int 0, .ref q_50, .ref q_52, .null, .long 0, .null, .int 0, .int 0, .int 0, .int 0, .int 0, .int 0, .int 0, .null, .null])), (q_1, .inl (cA_2, 64, .inl (upd (upd (upd f_14 61 306) 62 307) 63 308))), (q_15, .inl (cA_16, 64, .inl (upd (upd (upd f_28 61 4186) 62 4198) 63 4199))), (q_29, .inl (cA_30, 27, .inl (upd (upd f_35 25 88) 26 667))), (q_36, .inl (cA_37, 27, .inl (upd (upd (upd f_42 24 8283) 25 8292) 26 8293))), (q_43, .inl (cA_44, 13, .inl (upd (upd (upd (upd f_46 9 4124) 10 4125) 11 4126) 12 4127))), (q_47, .inl (cA_48, 10, .inl (upd (upd (upd (upd (upd f_49 5 3) 6 11) 7 67) 8 131) 9 4097))), (q_50, .inl (cA_51, 10000, .inl (fun _ => 0))), (q_52, .inl (cA_53, 10000, .inl (fun _ => 0))), (q_54, .inl (cA_55, 10000, .inl (fun _ => 0)))] H := hP
  have hD : va_D A [(h0, .inr (14, [.ref q_1, .ref q_15, .ref q_29, .ref q_36, .ref q_43, .ref q_47, .int 0, .ref q_50, .ref q_52, .null, .long 0, .null, .int 0, .int 0, .int 0, .int 0, .int 0, .int 0, .int 0, .null, .null])), (q_1, .inl (cA_2, 64, .inl (upd (upd (upd f_14 61 306) 62 307) 63 308))), (q_15, .inl (cA_16, 64, .inl (upd (upd (upd f_28 61 4186) 62 4198) 63 4199))), (q_29, .inl (cA_30, 27, .inl (upd (upd f_35 25 88) 26 667))), (q_36, .inl (cA_37, 27, .inl (upd (upd (upd f_42 24 8283) 25 8292) 26 8293))), (q_43, .inl (cA_44, 13, .inl (upd (upd (upd (upd f_46 9 4124) 10 4125) 11 4126) 12 4127))), (q_47, .inl (cA_48, 10, .inl (upd (upd (upd (upd (upd f_49 5 3) 6 11) 7 67) 8 131) 9 4097))), (q_50, .inl (cA_51, 10000, .inl (fun _ => 0))), (q_52, .inl (cA_53, 10000, .inl (fun _ => 0))), (q_54, .inl (cA_55, 10000, .inl (fun _ => 0)))] := hD
  have hK : va_K (dC, dI) vcl [(cA_2, .int), (cA_16, .int), (cA_30, .int), (cA_37, .int), (cA_44, .int), (cA_48, .int), (cA_51, .boolean), (cA_53, .boolean), (cA_55, .boolean)] s := hK
  refine W.widen (k := 9) (n := 30205) (by decide) (by decide) ?_
  refine va_putF (D := (dC, dI)) (ci := 14) (v := .ref q_54) (ty := (.array .boolean)) (C := R_mLines) (T := F_mLines) (N := 21) hx hb hwd i_mLines t_mLines to_mLines no_mLines hown hK hP hD hS 0 rfl rfl 19 (by decide) (hwd _ wd_10_105) (fun _ h9 => h9) rfl hin rfl (by decide +kernel) rfl rfl (Nat.le_of_ble_eq_true rfl) d_mLines_init_1437 (fun H locs hP hD hS => ?_)
  have hP : va_P (dC, dI) vcl [(h0, .inr (14, [.ref q_1, .ref q_15, .ref q_29, .ref q_36, .ref q_43, .ref q_47, .int 0, .ref q_50, .ref q_52, .null, .long 0, .null, .int 0, .int 0, .int 0, .int 0, .int 0, .int 0, .int 0, .ref q_54, .null])), (q_1, .inl (cA_2, 64, .inl (upd (upd (upd f_14 61 306) 62 307) 63 308))), (q_15, .inl (cA_16, 64, .inl (upd (upd (upd f_28 61 4186) 62 4198) 63 4199))), (q_29, .inl (cA_30, 27, .inl (upd (upd f_35 25 88) 26 667))), (q_36, .inl (cA_37, 27, .inl (upd (upd (upd f_42 24 8283) 25 8292) 26 8293))), (q_43, .inl (cA_44, 13, .inl (upd (upd (upd (upd f_46 9 4124) 10 4125) 11 4126) 12 4127))), (q_47, .inl (cA_48, 10, .inl (upd (upd (upd (upd (upd f_49 5 3) 6 11) 7 67) 8 131) 9 4097))), (q_50, .inl (cA_51, 10000, .inl (fun _ => 0))), (q_52, .inl (cA_53, 10000, .inl (fun _ => 0))), (q_54, .inl (cA_55, 10000, .inl (fun _ => 0)))] H := hP
  have hD : va_D A [(h0, .inr (14, [.ref q_1, .ref q_15, .ref q_29, .ref q_36, .ref q_43, .ref q_47, .int 0, .ref q_50, .ref q_52, .null, .long 0, .null, .int 0, .int 0, .int 0, .int 0, .int 0, .int 0, .int 0, .ref q_54, .null])), (q_1, .inl (cA_2, 64, .inl (upd (upd (upd f_14 61 306) 62 307) 63 308))), (q_15, .inl (cA_16, 64, .inl (upd (upd (upd f_28 61 4186) 62 4198) 63 4199))), (q_29, .inl (cA_30, 27, .inl (upd (upd f_35 25 88) 26 667))), (q_36, .inl (cA_37, 27, .inl (upd (upd (upd f_42 24 8283) 25 8292) 26 8293))), (q_43, .inl (cA_44, 13, .inl (upd (upd (upd (upd f_46 9 4124) 10 4125) 11 4126) 12 4127))), (q_47, .inl (cA_48, 10, .inl (upd (upd (upd (upd (upd f_49 5 3) 6 11) 7 67) 8 131) 9 4097))), (q_50, .inl (cA_51, 10000, .inl (fun _ => 0))), (q_52, .inl (cA_53, 10000, .inl (fun _ => 0))), (q_54, .inl (cA_55, 10000, .inl (fun _ => 0)))] := hD
  refine lv_aload_n hx hb d_mLines_init_1440 rfl (lv_at hl 0 rfl) ?_
  refine lv_sipush (v := 10000) hx hb d_mLines_init_1441 (by decide) ?_
  refine va_newa (atype := .boolean) (N' := 10000) (a0 := (10000, .inl (fun _ => 0))) (ty := .boolean) (n := 10000) hx hb (hwd _ wd_2_150) rfl hK hP hD hS hA (fun _ => rfl) (by decide) (by decide) (by decide) (Nat.le_of_ble_eq_true rfl) (Nat.le_of_ble_eq_true rfl) d_mLines_init_1444 (fun q_56 cA_57 H hK hP hD hS => ?_)
  have hP : va_P (dC, dI) vcl [(h0, .inr (14, [.ref q_1, .ref q_15, .ref q_29, .ref q_36, .ref q_43, .ref q_47, .int 0, .ref q_50, .ref q_52, .null, .long 0, .null, .int 0, .int 0, .int 0, .int 0, .int 0, .int 0, .int 0, .ref q_54, .null])), (q_1, .inl (cA_2, 64, .inl (upd (upd (upd f_14 61 306) 62 307) 63 308))), (q_15, .inl (cA_16, 64, .inl (upd (upd (upd f_28 61 4186) 62 4198) 63 4199))), (q_29, .inl (cA_30, 27, .inl (upd (upd f_35 25 88) 26 667))), (q_36, .inl (cA_37, 27, .inl (upd (upd (upd f_42 24 8283) 25 8292) 26 8293))), (q_43, .inl (cA_44, 13, .inl (upd (upd (upd (upd f_46 9 4124) 10 4125) 11 4126) 12 4127))), (q_47, .inl (cA_48, 10, .inl (upd (upd (upd (upd (upd f_49 5 3) 6 11) 7 67) 8 131) 9 4097))), (q_50, .inl (cA_51, 10000, .inl (fun _ => 0))), (q_52, .inl (cA_53, 10000, .inl (fun _ => 0))), (q_54, .inl (cA_55, 10000, .inl (fun _ => 0))), (q_56, .inl (cA_57, 10000, .inl (fun _ => 0)))] H := hP
  have hD : va_D A [(h0, .inr (14, [.ref q_1, .ref q_15, .ref q_29, .ref q_36, .ref q_43, .ref q_47, .int 0, .ref q_50, .ref q_52, .null, .long 0, .null, .int 0, .int 0, .int 0, .int 0, .int 0, .int 0, .int 0, .ref q_54, .null])), (q_1, .inl (cA_2, 64, .inl (upd (upd (upd f_14 61 306) 62 307) 63 308))), (q_15, .inl (cA_16, 64, .inl (upd (upd (upd f_28 61 4186) 62 4198) 63 4199))), (q_29, .inl (cA_30, 27, .inl (upd (upd f_35 25 88) 26 667))), (q_36, .inl (cA_37, 27, .inl (upd (upd (upd f_42 24 8283) 25 8292) 26 8293))), (q_43, .inl (cA_44, 13, .inl (upd (upd (upd (upd f_46 9 4124) 10 4125) 11 4126) 12 4127))), (q_47, .inl (cA_48, 10, .inl (upd (upd (upd (upd (upd f_49 5 3) 6 11) 7 67) 8 131) 9 4097))), (q_50, .inl (cA_51, 10000, .inl (fun _ => 0))), (q_52, .inl (cA_53, 10000, .inl (fun _ => 0))), (q_54, .inl (cA_55, 10000, .inl (fun _ => 0))), (q_56, .inl (cA_57, 10000, .inl (fun _ => 0)))] := hD
  have hK : va_K (dC, dI) vcl [(cA_2, .int), (cA_16, .int), (cA_30, .int), (cA_37, .int), (cA_44, .int), (cA_48, .int), (cA_51, .boolean), (cA_53, .boolean), (cA_55, .boolean), (cA_57, .boolean)] s := hK
  refine W.widen (k := 10) (n := 40205) (by decide) (by decide) ?_
  refine va_putF (D := (dC, dI)) (ci := 14) (v := .ref q_56) (ty := (.array .boolean)) (C := R_mLines) (T := F_mLines) (N := 21) hx hb hwd i_mLines t_mLines to_mLines no_mLines hown hK hP hD hS 0 rfl rfl 20 (by decide) (hwd _ wd_10_106) (fun _ h9 => h9) rfl hin rfl (by decide +kernel) rfl rfl (Nat.le_of_ble_eq_true rfl) d_mLines_init_1446 (fun H locs hP hD hS => ?_)
  have hP : va_P (dC, dI) vcl [(h0, .inr (14, [.ref q_1, .ref q_15, .ref q_29, .ref q_36, .ref q_43, .ref q_47, .int 0, .ref q_50, .ref q_52, .null, .long 0, .null, .int 0, .int 0, .int 0, .int 0, .int 0, .int 0, .int 0, .ref q_54, .ref q_56])), (q_1, .inl (cA_2, 64, .inl (upd (upd (upd f_14 61 306) 62 307) 63 308))), (q_15, .inl (cA_16, 64, .inl (upd (upd (upd f_28 61 4186) 62 4198) 63 4199))), (q_29, .inl (cA_30, 27, .inl (upd (upd f_35 25 88) 26 667))), (q_36, .inl (cA_37, 27, .inl (upd (upd (upd f_42 24 8283) 25 8292) 26 8293))), (q_43, .inl (cA_44, 13, .inl (upd (upd (upd (upd f_46 9 4124) 10 4125) 11 4126) 12 4127))), (q_47, .inl (cA_48, 10, .inl (upd (upd (upd (upd (upd f_49 5 3) 6 11) 7 67) 8 131) 9 4097))), (q_50, .inl (cA_51, 10000, .inl (fun _ => 0))), (q_52, .inl (cA_53, 10000, .inl (fun _ => 0))), (q_54, .inl (cA_55, 10000, .inl (fun _ => 0))), (q_56, .inl (cA_57, 10000, .inl (fun _ => 0)))] H := hP
  have hD : va_D A [(h0, .inr (14, [.ref q_1, .ref q_15, .ref q_29, .ref q_36, .ref q_43, .ref q_47, .int 0, .ref q_50, .ref q_52, .null, .long 0, .null, .int 0, .int 0, .int 0, .int 0, .int 0, .int 0, .int 0, .ref q_54, .ref q_56])), (q_1, .inl (cA_2, 64, .inl (upd (upd (upd f_14 61 306) 62 307) 63 308))), (q_15, .inl (cA_16, 64, .inl (upd (upd (upd f_28 61 4186) 62 4198) 63 4199))), (q_29, .inl (cA_30, 27, .inl (upd (upd f_35 25 88) 26 667))), (q_36, .inl (cA_37, 27, .inl (upd (upd (upd f_42 24 8283) 25 8292) 26 8293))), (q_43, .inl (cA_44, 13, .inl (upd (upd (upd (upd f_46 9 4124) 10 4125) 11 4126) 12 4127))), (q_47, .inl (cA_48, 10, .inl (upd (upd (upd (upd (upd f_49 5 3) 6 11) 7 67) 8 131) 9 4097))), (q_50, .inl (cA_51, 10000, .inl (fun _ => 0))), (q_52, .inl (cA_53, 10000, .inl (fun _ => 0))), (q_54, .inl (cA_55, 10000, .inl (fun _ => 0))), (q_56, .inl (cA_57, 10000, .inl (fun _ => 0)))] := hD
  refine lv_aload_n hx hb d_mLines_init_1449 rfl (lv_at hl 0 rfl) ?_
  refine lv_iload_n hx hb d_mLines_init_1450 rfl (lv_at hl 1 rfl) ?_
  refine va_newa (atype := .byte) (N' := 70000) (a0 := (70000, .inl (fun _ => 0))) (ty := .byte) (n := 70000) hx hb (hwd _ wd_1_166) rfl hK hP hD hS hA (fun _ => rfl) (by decide) (by decide) (by decide) (Nat.le_of_ble_eq_true rfl) (Nat.le_of_ble_eq_true rfl) d_mLines_init_1451 (fun q_58 cA_59 H hK hP hD hS => ?_)
  have hP : va_P (dC, dI) vcl [(h0, .inr (14, [.ref q_1, .ref q_15, .ref q_29, .ref q_36, .ref q_43, .ref q_47, .int 0, .ref q_50, .ref q_52, .null, .long 0, .null, .int 0, .int 0, .int 0, .int 0, .int 0, .int 0, .int 0, .ref q_54, .ref q_56])), (q_1, .inl (cA_2, 64, .inl (upd (upd (upd f_14 61 306) 62 307) 63 308))), (q_15, .inl (cA_16, 64, .inl (upd (upd (upd f_28 61 4186) 62 4198) 63 4199))), (q_29, .inl (cA_30, 27, .inl (upd (upd f_35 25 88) 26 667))), (q_36, .inl (cA_37, 27, .inl (upd (upd (upd f_42 24 8283) 25 8292) 26 8293))), (q_43, .inl (cA_44, 13, .inl (upd (upd (upd (upd f_46 9 4124) 10 4125) 11 4126) 12 4127))), (q_47, .inl (cA_48, 10, .inl (upd (upd (upd (upd (upd f_49 5 3) 6 11) 7 67) 8 131) 9 4097))), (q_50, .inl (cA_51, 10000, .inl (fun _ => 0))), (q_52, .inl (cA_53, 10000, .inl (fun _ => 0))), (q_54, .inl (cA_55, 10000, .inl (fun _ => 0))), (q_56, .inl (cA_57, 10000, .inl (fun _ => 0))), (q_58, .inl (cA_59, 70000, .inl (fun _ => 0)))] H := hP
  have hD : va_D A [(h0, .inr (14, [.ref q_1, .ref q_15, .ref q_29, .ref q_36, .ref q_43, .ref q_47, .int 0, .ref q_50, .ref q_52, .null, .long 0, .null, .int 0, .int 0, .int 0, .int 0, .int 0, .int 0, .int 0, .ref q_54, .ref q_56])), (q_1, .inl (cA_2, 64, .inl (upd (upd (upd f_14 61 306) 62 307) 63 308))), (q_15, .inl (cA_16, 64, .inl (upd (upd (upd f_28 61 4186) 62 4198) 63 4199))), (q_29, .inl (cA_30, 27, .inl (upd (upd f_35 25 88) 26 667))), (q_36, .inl (cA_37, 27, .inl (upd (upd (upd f_42 24 8283) 25 8292) 26 8293))), (q_43, .inl (cA_44, 13, .inl (upd (upd (upd (upd f_46 9 4124) 10 4125) 11 4126) 12 4127))), (q_47, .inl (cA_48, 10, .inl (upd (upd (upd (upd (upd f_49 5 3) 6 11) 7 67) 8 131) 9 4097))), (q_50, .inl (cA_51, 10000, .inl (fun _ => 0))), (q_52, .inl (cA_53, 10000, .inl (fun _ => 0))), (q_54, .inl (cA_55, 10000, .inl (fun _ => 0))), (q_56, .inl (cA_57, 10000, .inl (fun _ => 0))), (q_58, .inl (cA_59, 70000, .inl (fun _ => 0)))] := hD
  have hK : va_K (dC, dI) vcl [(cA_2, .int), (cA_16, .int), (cA_30, .int), (cA_37, .int), (cA_44, .int), (cA_48, .int), (cA_51, .boolean), (cA_53, .boolean), (cA_55, .boolean), (cA_57, .boolean), (cA_59, .byte)] s := hK
  refine W.widen (k := 11) (n := 110205) (by decide) (by decide) ?_
  refine va_putF (D := (dC, dI)) (ci := 14) (v := .ref q_58) (ty := (.array .byte)) (C := R_mLines) (T := F_mLines) (N := 21) hx hb hwd i_mLines t_mLines to_mLines no_mLines hown hK hP hD hS 0 rfl rfl 9 (by decide) (hwd _ wd_10_93) (fun _ h9 => h9) rfl hin rfl (by decide +kernel) rfl rfl (Nat.le_of_ble_eq_true rfl) d_mLines_init_1453 (fun H locs hP hD hS => ?_)
  have hP : va_P (dC, dI) vcl [(h0, .inr (14, [.ref q_1, .ref q_15, .ref q_29, .ref q_36, .ref q_43, .ref q_47, .int 0, .ref q_50, .ref q_52, .ref q_58, .long 0, .null, .int 0, .int 0, .int 0, .int 0, .int 0, .int 0, .int 0, .ref q_54, .ref q_56])), (q_1, .inl (cA_2, 64, .inl (upd (upd (upd f_14 61 306) 62 307) 63 308))), (q_15, .inl (cA_16, 64, .inl (upd (upd (upd f_28 61 4186) 62 4198) 63 4199))), (q_29, .inl (cA_30, 27, .inl (upd (upd f_35 25 88) 26 667))), (q_36, .inl (cA_37, 27, .inl (upd (upd (upd f_42 24 8283) 25 8292) 26 8293))), (q_43, .inl (cA_44, 13, .inl (upd (upd (upd (upd f_46 9 4124) 10 4125) 11 4126) 12 4127))), (q_47, .inl (cA_48, 10, .inl (upd (upd (upd (upd (upd f_49 5 3) 6 11) 7 67) 8 131) 9 4097))), (q_50, .inl (cA_51, 10000, .inl (fun _ => 0))), (q_52, .inl (cA_53, 10000, .inl (fun _ => 0))), (q_54, .inl (cA_55, 10000, .inl (fun _ => 0))), (q_56, .inl (cA_57, 10000, .inl (fun _ => 0))), (q_58, .inl (cA_59, 70000, .inl (fun _ => 0)))] H := hP
  have hD : va_D A [(h0, .inr (14, [.ref q_1, .ref q_15, .ref q_29, .ref q_36, .ref q_43, .ref q_47, .int 0, .ref q_50, .ref q_52, .ref q_58, .long 0, .null, .int 0, .int 0, .int 0, .int 0, .int 0, .int 0, .int 0, .ref q_54, .ref q_56])), (q_1, .inl (cA_2, 64, .inl (upd (upd (upd f_14 61 306) 62 307) 63 308))), (q_15, .inl (cA_16, 64, .inl (upd (upd (upd f_28 61 4186) 62 4198) 63 4199))), (q_29, .inl (cA_30, 27, .inl (upd (upd f_35 25 88) 26 667))), (q_36, .inl (cA_37, 27, .inl (upd (upd (upd f_42 24 8283) 25 8292) 26 8293))), (q_43, .inl (cA_44, 13, .inl (upd (upd (upd (upd f_46 9 4124) 10 4125) 11 4126) 12 4127))), (q_47, .inl (cA_48, 10, .inl (upd (upd (upd (upd (upd f_49 5 3) 6 11) 7 67) 8 131) 9 4097))), (q_50, .inl (cA_51, 10000, .inl (fun _ => 0))), (q_52, .inl (cA_53, 10000, .inl (fun _ => 0))), (q_54, .inl (cA_55, 10000, .inl (fun _ => 0))), (q_56, .inl (cA_57, 10000, .inl (fun _ => 0))), (q_58, .inl (cA_59, 70000, .inl (fun _ => 0)))] := hD
  have hP9 := hP.sub (ws' := [(h0, .inr (14, [.ref q_1, .ref q_15, .ref q_29, .ref q_36, .ref q_43, .ref q_47, .int 0, .ref q_50, .ref q_52, .ref q_58, .long 0, .null, .int 0, .int 0, .int 0, .int 0, .int 0, .int 0, .int 0, .ref q_54, .ref q_56])), (q_1, .inl (cA_2, 64, .inl (upd (upd (upd f_14 61 306) 62 307) 63 308))), (q_15, .inl (cA_16, 64, .inl (upd (upd (upd f_28 61 4186) 62 4198) 63 4199))), (q_29, .inl (cA_30, 27, .inl (upd (upd f_35 25 88) 26 667))), (q_36, .inl (cA_37, 27, .inl (upd (upd (upd f_42 24 8283) 25 8292) 26 8293))), (q_43, .inl (cA_44, 13, .inl (upd (upd (upd (upd f_46 9 4124) 10 4125) 11 4126) 12 4127))), (q_47, .inl (cA_48, 10, .inl (upd (upd (upd (upd (upd f_49 5 3) 6 11) 7 67) 8 131) 9 4097))), (q_50, .inl (cA_51, 10000, .inl (fun _ => 0))), (q_52, .inl (cA_53, 10000, .inl (fun _ => 0))), (q_54, .inl (cA_55, 10000, .inl (fun _ => 0))), (q_56, .inl (cA_57, 10000, .inl (fun _ => 0))), (q_58, .inl (cA_59, 70000, .inl (fun _ => 0)))]) [0, 1, 2, 3, 4, 5, 6, 7, 8, 9, 10, 11] rfl
  have hD9 := hD.sub (ws' := [(h0, .inr (14, [.ref q_1, .ref q_15, .ref q_29, .ref q_36, .ref q_43, .ref q_47, .int 0, .ref q_50, .ref q_52, .ref q_58, .long 0, .null, .int 0, .int 0, .int 0, .int 0, .int 0, .int 0, .int 0, .ref q_54, .ref q_56])), (q_1, .inl (cA_2, 64, .inl (upd (upd (upd f_14 61 306) 62 307) 63 308))), (q_15, .inl (cA_16, 64, .inl (upd (upd (upd f_28 61 4186) 62 4198) 63 4199))), (q_29, .inl (cA_30, 27, .inl (upd (upd f_35 25 88) 26 667))), (q_36, .inl (cA_37, 27, .inl (upd (upd (upd f_42 24 8283) 25 8292) 26 8293))), (q_43, .inl (cA_44, 13, .inl (upd (upd (upd (upd f_46 9 4124) 10 4125) 11 4126) 12 4127))), (q_47, .inl (cA_48, 10, .inl (upd (upd (upd (upd (upd f_49 5 3) 6 11) 7 67) 8 131) 9 4097))), (q_50, .inl (cA_51, 10000, .inl (fun _ => 0))), (q_52, .inl (cA_53, 10000, .inl (fun _ => 0))), (q_54, .inl (cA_55, 10000, .inl (fun _ => 0))), (q_56, .inl (cA_57, 10000, .inl (fun _ => 0))), (q_58, .inl (cA_59, 70000, .inl (fun _ => 0)))]) [0, 1, 2, 3, 4, 5, 6, 7, 8, 9, 10, 11] (by decide) rfl
  have hK9 := hK.sub (tys' := [(cA_2, .int), (cA_16, .int), (cA_30, .int), (cA_37, .int), (cA_44, .int), (cA_48, .int), (cA_51, .boolean), (cA_53, .boolean), (cA_55, .boolean), (cA_57, .boolean), (cA_59, .byte)]) [0, 1, 2, 3, 4, 5, 6, 7, 8, 9, 10] rfl
  exact W.vret hx hb hr (fun t ht hW => ⟨⟨(), rfl, (trivial), q_1, q_15, q_29, q_36, q_43, q_47, q_50, q_52, q_54, q_56, q_58, cA_2, cA_16, cA_30, cA_37, cA_44, cA_48, cA_51, cA_53, cA_55, cA_57, cA_59, by rw [ht]; exact hP9, va_K.moved hW.alike hK9, hD9⟩, hS.F ht⟩) hS.2.2 d_mLines_init_1456

abbrev at_c_Lines_init_1 (dC : Nat → ClassId) (dI : Nat → Nat → Nat) (h0 : Nat) (A : Nat → Prop) (u : Unit) (t : State) : Prop := match u with
  | _ => ∃ (q_1 : Nat) (q_15 : Nat) (q_29 : Nat) (q_36 : Nat) (q_43 : Nat) (q_47 : Nat) (q_50 : Nat) (q_52 : Nat) (q_54 : Nat) (q_56 : Nat) (q_58 : Nat) (cA_2 : ClassId) (cA_16 : ClassId) (cA_30 : ClassId) (cA_37 : ClassId) (cA_44 : ClassId) (cA_48 : ClassId) (cA_51 : ClassId) (cA_53 : ClassId) (cA_55 : ClassId) (cA_57 : ClassId) (cA_59 : ClassId), va_P (dC, dI) vcl [(h0, .inr (14, [.ref q_1, .ref q_15, .ref q_29, .ref q_36, .ref q_43, .ref q_47, .int 0, .ref q_50, .ref q_52, .ref q_58, .long 0, .null, .int 0, .int 0, .int 0, .int 0, .int 0, .int 0, .int 0, .ref q_54, .ref q_56])), (q_1, .inl (cA_2, 64, .inl (upd (upd (upd f_14 61 306) 62 307) 63 308))), (q_15, .inl (cA_16, 64, .inl (upd (upd (upd f_28 61 4186) 62 4198) 63 4199))), (q_29, .inl (cA_30, 27, .inl (upd (upd f_35 25 88) 26 667))), (q_36, .inl (cA_37, 27, .inl (upd (upd (upd f_42 24 8283) 25 8292) 26 8293))), (q_43, .inl (cA_44, 13, .inl (upd (upd (upd (upd f_46 9 4124) 10 4125) 11 4126) 12 4127))), (q_47, .inl (cA_48, 10, .inl (upd (upd (upd (upd (upd f_49 5 3) 6 11) 7 67) 8 131) 9 4097))), (q_50, .inl (cA_51, 10000, .inl (fun _ => 0))), (q_52, .inl (cA_53, 10000, .inl (fun _ => 0))), (q_54, .inl (cA_55, 10000, .inl (fun _ => 0))), (q_56, .inl (cA_57, 10000, .inl (fun _ => 0))), (q_58, .inl (cA_59, 1, .inl (fun _ => 0)))] t.heap ∧ va_K (dC, dI) vcl [(cA_2, .int), (cA_16, .int), (cA_30, .int), (cA_37, .int), (cA_44, .int), (cA_48, .int), (cA_51, .boolean), (cA_53, .boolean), (cA_55, .boolean), (cA_57, .boolean), (cA_59, .byte)] t ∧ va_D A [(h0, .inr (14, [.ref q_1, .ref q_15, .ref q_29, .ref q_36, .ref q_43, .ref q_47, .int 0, .ref q_50, .ref q_52, .ref q_58, .long 0, .null, .int 0, .int 0, .int 0, .int 0, .int 0, .int 0, .int 0, .ref q_54, .ref q_56])), (q_1, .inl (cA_2, 64, .inl (upd (upd (upd f_14 61 306) 62 307) 63 308))), (q_15, .inl (cA_16, 64, .inl (upd (upd (upd f_28 61 4186) 62 4198) 63 4199))), (q_29, .inl (cA_30, 27, .inl (upd (upd f_35 25 88) 26 667))), (q_36, .inl (cA_37, 27, .inl (upd (upd (upd f_42 24 8283) 25 8292) 26 8293))), (q_43, .inl (cA_44, 13, .inl (upd (upd (upd (upd f_46 9 4124) 10 4125) 11 4126) 12 4127))), (q_47, .inl (cA_48, 10, .inl (upd (upd (upd (upd (upd f_49 5 3) 6 11) 7 67) 8 131) 9 4097))), (q_50, .inl (cA_51, 10000, .inl (fun _ => 0))), (q_52, .inl (cA_53, 10000, .inl (fun _ => 0))), (q_54, .inl (cA_55, 10000, .inl (fun _ => 0))), (q_56, .inl (cA_57, 10000, .inl (fun _ => 0))), (q_58, .inl (cA_59, 1, .inl (fun _ => 0)))]
abbrev po_c_Lines_init_1 (h0 : Nat) (u : Unit) : Prop := match u with
  | _ => True
abbrev q_c_Lines_init_1 (dC : Nat → ClassId) (dI : Nat → Nat → Nat) (h0 : Nat) (A : Nat → Prop) : Array Value → State → Outcome → State → Prop := va_Qv (po_c_Lines_init_1 h0) (at_c_Lines_init_1 dC dI h0 A) A
abbrev rm_c_Lines_init_1 : Room := { frames := 1, cells := 11, slots := 40206, locals := 12 }
set_option maxHeartbeats 4000000 in
set_option maxRecDepth 100000 in
theorem c_Lines_init_1 (l : Launch) (dC : Nat → ClassId) (dI : Nat → Nat → Nat) (tt : Nat → Nat) (h0 : Nat) (sz : Nat)  : Met l y_mLines_init w_mLines_init rm_c_Lines_init_1 (va_Pc [.ref h0, .int 1] (fun U => U.heap.size = sz ∧ va_P (dC, dI) vcl [(h0, .inr (14, [.null, .null, .null, .null, .null, .null, .int 0, .null, .null, .null, .long 0, .null, .int 0, .int 0, .int 0, .int 0, .int 0, .int 0, .int 0, .null, .null]))] U.heap ∧ va_K (dC, dI) vcl [] U ∧ va_D (fun _ => True) [(h0, .inr (14, [.null, .null, .null, .null, .null, .null, .int 0, .null, .null, .null, .long 0, .null, .int 0, .int 0, .int 0, .int 0, .int 0, .int 0, .int 0, .null, .null]))] ∧ SF tt (va_A [(h0, .inr (14, [.null, .null, .null, .null, .null, .null, .int 0, .null, .null, .null, .long 0, .null, .int 0, .int 0, .int 0, .int 0, .int 0, .int 0, .int 0, .null, .null]))] sz) U U.heap)) (q_c_Lines_init_1 dC dI h0 (va_A [(h0, .inr (14, [.null, .null, .null, .null, .null, .null, .int 0, .null, .null, .null, .long 0, .null, .int 0, .int 0, .int 0, .int 0, .int 0, .int 0, .int 0, .null, .null]))] sz)) 11 40206 (va_A [(h0, .inr (14, [.null, .null, .null, .null, .null, .null, .int 0, .null, .null, .null, .long 0, .null, .int 0, .int 0, .int 0, .int 0, .int 0, .int 0, .int 0, .null, .null]))] sz) := by
  refine Met.ofW (cc := b_mLines_init) (maxL := 2) (ret := none) (by decide) rfl ?_
  intro p e s m args below meth c s₁ B hml hv
  obtain ⟨rfl, hsz, hP, hK, hD0, hF⟩ := hv
  have hx := B.exec
  have hb := B.bytes
  have hr := B.returns
  have hwd : ∀ w ∈ gT, w.before _ s = true := fun w h => atoms_spec (ws := w_mLines_init) B.pre w (List.mem_cons_of_mem _ h)
  have hown : s.vm.findClass R_mLines = some m.cls := findClass_of_methodNamed B.named
  have hlocks := B.notSynchronized
  have hin : meth.name = "<init>" := (name_of_methodNamed B.named B.method).1
  subst hsz
  have hD := hD0.self (sz := s.heap.size)
  generalize hAe : va_A [(h0, .inr (14, [.null, .null, .null, .null, .null, .null, .int 0, .null, .null, .null, .long 0, .null, .int 0, .int 0, .int 0, .int 0, .int 0, .int 0, .int 0, .null, .null]))] s.heap.size = A at hD hF ⊢
  have hA : ∀ q : Nat, s.heap.size ≤ q → A q := fun q h => by rw [← hAe]; exact Or.inr h
  have hS : va_S A s.heap s.heap [] := va_S.rf
  have hP : va_P (dC, dI) vcl [(h0, .inr (14, [.null, .null, .null, .null, .null, .null, .int 0, .null, .null, .null, .long 0, .null, .int 0, .int 0, .int 0, .int 0, .int 0, .int 0, .int 0, .null, .null]))] s.heap := hP
  have hl := lv_entry ([.ref h0, .int 1]) (n := 2) (Nat.le_of_ble_eq_true rfl)
  rw [lg_entry_eq]
  generalize (lg_sl ([.ref h0, .int 1]) ++ List.replicate (2 - (lg_sl ([.ref h0, .int 1])).length) Slot.unset).toArray = ls at hl ⊢
  have hl : lv_has ls 2 [(0, .ref h0), (1, .int 1)] := hl
  refine lv_aload_n hx hb d_mLines_init_0 rfl (lv_at hl 0 rfl) ?_
  refine W.objInit hx hb hown (hwd _ wd_10_82) (hwd _ wd_1_35) (hwd _ wd_1_36) rfl (by rw [hml]; exact hl.1) rfl d_mLines_init_1 (Nat.le_of_ble_eq_true rfl) (Nat.le_of_ble_eq_true rfl) ?_
  refine W.eq (g2 := F0 m 4 ls []) rfl ?_
  refine lv_aload_n hx hb d_mLines_init_4 rfl (lv_at hl 0 rfl) ?_
  refine lv_bipush (v := 64) hx hb d_mLines_init_5 (by decide) ?_
  refine va_newa (atype := .int) (N' := 64) (a0 := (64, .inl (fun _ => 0))) (ty := .int) (n := 64) hx hb (hwd _ wd_1_167) rfl hK hP hD hS hA (fun _ => rfl) (by decide) (by decide) (by decide) (Nat.le_of_ble_eq_true rfl) (Nat.le_of_ble_eq_true rfl) d_mLines_init_7 (fun q_1 cA_2 H hK hP hD hS => ?_)
  have hP : va_P (dC, dI) vcl [(h0, .inr (14, [.null, .null, .null, .null, .null, .null, .int 0, .null, .null, .null, .long 0, .null, .int 0, .int 0, .int 0, .int 0, .int 0, .int 0, .int 0, .null, .null])), (q_1, .inl (cA_2, 64, .inl (fun _ => 0)))] H := hP
  have hD : va_D A [(h0, .inr (14, [.null, .null, .null, .null, .null, .null, .int 0, .null, .null, .null, .long 0, .null, .int 0, .int 0, .int 0, .int 0, .int 0, .int 0, .int 0, .null, .null])), (q_1, .inl (cA_2, 64, .inl (fun _ => 0)))] := hD
  have hK : va_K (dC, dI) vcl [(cA_2, .int)] s := hK
  refine W.widen (k := 1) (n := 64) (by decide) (by decide) ?_
  refine lv_dup hx hb d_mLines_init_9 rfl ?_
  refine lv_iconst (v := 0) hx hb d_mLines_init_10 (by decide) ?_
  refine lv_sipush (v := 309) hx hb d_mLines_init_11 (by decide) ?_
  refine va_iast hx hb hK hP hD hS 1 0 rfl rfl (show ¬ ((0 : Int32) < 0 ∨ 64 ≤ (0 : Int32).toNatClampNeg) by decide) d_mLines_init_14 (fun H locs hP hD hS => ?_)
  rw [show (0 : Int32).toNatClampNeg = 0 by decide] at hP hD
  have hP : va_P (dC, dI) vcl [(h0, .inr (14, [.null, .null, .null, .null, .null, .null, .int 0, .null, .null, .null, .long 0, .null, .int 0, .int 0, .int 0, .int 0, .int 0, .int 0, .int 0, .null, .null])), (q_1, .inl (cA_2, 64, .inl (upd (fun _ => 0) 0 309)))] H := hP
  have hD : va_D A [(h0, .inr (14, [.null, .null, .null, .null, .null, .null, .int 0, .null, .null, .null, .long 0, .null, .int 0, .int 0, .int 0, .int 0, .int 0, .int 0, .int 0, .null, .null])), (q_1, .inl (cA_2, 64, .inl (upd (fun _ => 0) 0 309)))] := hD
  refine lv_dup hx hb d_mLines_init_15 rfl ?_
  refine lv_iconst (v := 1) hx hb d_mLines_init_16 (by decide) ?_
  refine lv_bipush (v := 71) hx hb d_mLines_init_17 (by decide) ?_
  refine va_iast hx hb hK hP hD hS 1 0 rfl rfl (show ¬ ((1 : Int32) < 0 ∨ 64 ≤ (1 : Int32).toNatClampNeg) by decide) d_mLines_init_19 (fun H locs hP hD hS => ?_)
  rw [show (1 : Int32).toNatClampNeg = 1 by decide] at hP hD
  have hP : va_P (dC, dI) vcl [(h0, .inr (14, [.null, .null, .null, .null, .null, .null, .int 0, .null, .null, .null, .long 0, .null, .int 0, .int 0, .int 0, .int 0, .int 0, .int 0, .int 0, .null, .null])), (q_1, .inl (cA_2, 64, .inl (upd (upd (fun _ => 0) 0 309) 1 71)))] H := hP
  have hD : va_D A [(h0, .inr (14, [.null, .null, .null, .null, .null, .null, .int 0, .null, .null, .null, .long 0, .null, .int 0, .int 0, .int 0, .int 0, .int 0, .int 0, .int 0, .null, .null])), (q_1, .inl (cA_2, 64, .inl (upd (upd (fun _ => 0) 0 309) 1 71)))] := hD
  refine lv_dup hx hb d_mLines_init_20 rfl ?_
  refine lv_iconst (v := 2) hx hb d_mLines_init_21 (by decide) ?_
  refine lv_bipush (v := 23) hx hb d_mLines_init_22 (by decide) ?_
  refine va_iast hx hb hK hP hD hS 1 0 rfl rfl (show ¬ ((2 : Int32) < 0 ∨ 64 ≤ (2 : Int32).toNatClampNeg) by decide) d_mLines_init_24 (fun H locs hP hD hS => ?_)
  rw [show (2 : Int32).toNatClampNeg = 2 by decide] at hP hD
  have hP : va_P (dC, dI) vcl [(h0, .inr (14, [.null, .null, .null, .null, .null, .null, .int 0, .null, .null, .null, .long 0, .null, .int 0, .int 0, .int 0, .int 0, .int 0, .int 0, .int 0, .null, .null])), (q_1, .inl (cA_2, 64, .inl (upd (upd (upd (fun _ => 0) 0 309) 1 71) 2 23)))] H := hP
  have hD : va_D A [(h0, .inr (14, [.null, .null, .null, .null, .null, .null, .int 0, .null, .null, .null, .long 0, .null, .int 0, .int 0, .int 0, .int 0, .int 0, .int 0, .int 0, .null, .null])), (q_1, .inl (cA_2, 64, .inl (upd (upd (upd (fun _ => 0) 0 309) 1 71) 2 23)))] := hD
  refine lv_dup hx hb d_mLines_init_25 rfl ?_
  refine lv_iconst (v := 3) hx hb d_mLines_init_26 (by decide) ?_
  refine lv_bipush (v := 24) hx hb d_mLines_init_27 (by decide) ?_
  refine va_iast hx hb hK hP hD hS 1 0 rfl rfl (show ¬ ((3 : Int32) < 0 ∨ 64 ≤ (3 : Int32).toNatClampNeg) by decide) d_mLines_init_29 (fun H locs hP hD hS => ?_)
  rw [show (3 : Int32).toNatClampNeg = 3 by decide] at hP hD
  have hP : va_P (dC, dI) vcl [(h0, .inr (14, [.null, .null, .null, .null, .null, .null, .int 0, .null, .null, .null, .long 0, .null, .int 0, .int 0, .int 0, .int 0, .int 0, .int 0, .int 0, .null, .null])), (q_1, .inl (cA_2, 64, .inl (upd (upd (upd (upd (fun _ => 0) 0 309) 1 71) 2 23) 3 24)))] H := hP
  have hD : va_D A [(h0, .inr (14, [.null, .null, .null, .null, .null, .null, .int 0, .null, .null, .null, .long 0, .null, .int 0, .int 0, .int 0, .int 0, .int 0, .int 0, .int 0, .null, .null])), (q_1, .inl (cA_2, 64, .inl (upd (upd (upd (upd (fun _ => 0) 0 309) 1 71) 2 23) 3 24)))] := hD
  refine lv_dup hx hb d_mLines_init_30 rfl ?_
  refine lv_iconst (v := 4) hx hb d_mLines_init_31 (by decide) ?_
  refine lv_bipush (v := 27) hx hb d_mLines_init_32 (by decide) ?_
  refine va_iast hx hb hK hP hD hS 1 0 rfl rfl (show ¬ ((4 : Int32) < 0 ∨ 64 ≤ (4 : Int32).toNatClampNeg) by decide) d_mLines_init_34 (fun H locs hP hD hS => ?_)
  rw [show (4 : Int32).toNatClampNeg = 4 by decide] at hP hD
  obtain ⟨f_3, ef_3⟩ : ∃ y : Nat → Int32, y = upd (upd (upd (upd (upd (fun _ => 0) 0 309) 1 71) 2 23) 3 24) 4 27 := ⟨_, rfl⟩
  have hP : va_P (dC, dI) vcl [(h0, .inr (14, [.null, .null, .null, .null, .null, .null, .int 0, .null, .null, .null, .long 0, .null, .int 0, .int 0, .int 0, .int 0, .int 0, .int 0, .int 0, .null, .null])), (q_1, .inl (cA_2, 64, .inl (upd (upd (upd (upd (upd (fun _ => 0) 0 309) 1 71) 2 23) 3 24) 4 27)))] H := hP
  have hD : va_D A [(h0, .inr (14, [.null, .null, .null, .null, .null, .null, .int 0, .null, .null, .null, .long 0, .null, .int 0, .int 0, .int 0, .int 0, .int 0, .int 0, .int 0, .null, .null])), (q_1, .inl (cA_2, 64, .inl (upd (upd (upd (upd (upd (fun _ => 0) 0 309) 1 71) 2 23) 3 24) 4 27)))] := hD
  rw [← ef_3] at hP hD
  have hP : va_P (dC, dI) vcl [(h0, .inr (14, [.null, .null, .null, .null, .null, .null, .int 0, .null, .null, .null, .long 0, .null, .int 0, .int 0, .int 0, .int 0, .int 0, .int 0, .int 0, .null, .null])), (q_1, .inl (cA_2, 64, .inl f_3))] H := hP
  have hD : va_D A [(h0, .inr (14, [.null, .null, .null, .null, .null, .null, .int 0, .null, .null, .null, .long 0, .null, .int 0, .int 0, .int 0, .int 0, .int 0, .int 0, .int 0, .null, .null])), (q_1, .inl (cA_2, 64, .inl f_3))] := hD
  refine lv_dup hx hb d_mLines_init_35 rfl ?_
  refine lv_iconst (v := 5) hx hb d_mLines_init_36 (by decide) ?_
  refine lv_bipush (v := 28) hx hb d_mLines_init_37 (by decide) ?_
  refine va_iast hx hb hK hP hD hS 1 0 rfl rfl (show ¬ ((5 : Int32) < 0 ∨ 64 ≤ (5 : Int32).toNatClampNeg) by decide) d_mLines_init_39 (fun H locs hP hD hS => ?_)
  rw [show (5 : Int32).toNatClampNeg = 5 by decide] at hP hD
  have hP : va_P (dC, dI) vcl [(h0, .inr (14, [.null, .null, .null, .null, .null, .null, .int 0, .null, .null, .null, .long 0, .null, .int 0, .int 0, .int 0, .int 0, .int 0, .int 0, .int 0, .null, .null])), (q_1, .inl (cA_2, 64, .inl (upd f_3 5 28)))] H := hP
  have hD : va_D A [(h0, .inr (14, [.null, .null, .null, .null, .null, .null, .int 0, .null, .null, .null, .long 0, .null, .int 0, .int 0, .int 0, .int 0, .int 0, .int 0, .int 0, .null, .null])), (q_1, .inl (cA_2, 64, .inl (upd f_3 5 28)))] := hD
  refine lv_dup hx hb d_mLines_init_40 rfl ?_
  refine lv_bipush (v := 6) hx hb d_mLines_init_41 (by decide) ?_
  refine lv_bipush (v := 30) hx hb d_mLines_init_43 (by decide) ?_
  refine va_iast hx hb hK hP hD hS 1 0 rfl rfl (show ¬ ((6 : Int32) < 0 ∨ 64 ≤ (6 : Int32).toNatClampNeg) by decide) d_mLines_init_45 (fun H locs hP hD hS => ?_)
  rw [show (6 : Int32).toNatClampNeg = 6 by decide] at hP hD
  have hP : va_P (dC, dI) vcl [(h0, .inr (14, [.null, .null, .null, .null, .null, .null, .int 0, .null, .null, .null, .long 0, .null, .int 0, .int 0, .int 0, .int 0, .int 0, .int 0, .int 0, .null, .null])), (q_1, .inl (cA_2, 64, .inl (upd (upd f_3 5 28) 6 30)))] H := hP
  have hD : va_D A [(h0, .inr (14, [.null, .null, .null, .null, .null, .null, .int 0, .null, .null, .null, .long 0, .null, .int 0, .int 0, .int 0, .int 0, .int 0, .int 0, .int 0, .null, .null])), (q_1, .inl (cA_2, 64, .inl (upd (upd f_3 5 28) 6 30)))] := hD
  refine lv_dup hx hb d_mLines_init_46 rfl ?_
  refine lv_bipush (v := 7) hx hb d_mLines_init_47 (by decide) ?_
  refine lv_bipush (v := 31) hx hb d_mLines_init_49 (by decide) ?_
  refine va_iast hx hb hK hP hD hS 1 0 rfl rfl (show ¬ ((7 : Int32) < 0 ∨ 64 ≤ (7 : Int32).toNatClampNeg) by decide) d_mLines_init_51 (fun H locs hP hD hS => ?_)
  rw [show (7 : Int32).toNatClampNeg = 7 by decide] at hP hD
  have hP : va_P (dC, dI) vcl [(h0, .inr (14, [.null, .null, .null, .null, .null, .null, .int 0, .null, .null, .null, .long 0, .null, .int 0, .int 0, .int 0, .int 0, .int 0, .int 0, .int 0, .null, .null])), (q_1, .inl (cA_2, 64, .inl (upd (upd (upd f_3 5 28) 6 30) 7 31)))] H := hP
  have hD : va_D A [(h0, .inr (14, [.null, .null, .null, .null, .null, .null, .int 0, .null, .null, .null, .long 0, .null, .int 0, .int 0, .int 0, .int 0, .int 0, .int 0, .int 0, .null, .null])), (q_1, .inl (cA_2, 64, .inl (upd (upd (upd f_3 5 28) 6 30) 7 31)))] := hD
  refine lv_dup hx hb d_mLines_init_52 rfl ?_
  refine lv_bipush (v := 8) hx hb d_mLines_init_53 (by decide) ?_
  refine lv_bipush (v := 51) hx hb d_mLines_init_55 (by decide) ?_
  refine va_iast hx hb hK hP hD hS 1 0 rfl rfl (show ¬ ((8 : Int32) < 0 ∨ 64 ≤ (8 : Int32).toNatClampNeg) by decide) d_mLines_init_57 (fun H locs hP hD hS => ?_)
  rw [show (8 : Int32).toNatClampNeg = 8 by decide] at hP hD
  have hP : va_P (dC, dI) vcl [(h0, .inr (14, [.null, .null, .null, .null, .null, .null, .int 0, .null, .null, .null, .long 0, .null, .int 0, .int 0, .int 0, .int 0, .int 0, .int 0, .int 0, .null, .null])), (q_1, .inl (cA_2, 64, .inl (upd (upd (upd (upd f_3 5 28) 6 30) 7 31) 8 51)))] H := hP
  have hD : va_D A [(h0, .inr (14, [.null, .null, .null, .null, .null, .null, .int 0, .null, .null, .null, .long 0, .null, .int 0, .int 0, .int 0, .int 0, .int 0, .int 0, .int 0, .null, .null])), (q_1, .inl (cA_2, 64, .inl (upd (upd (upd (upd f_3 5 28) 6 30) 7 31) 8 51)))] := hD
  refine lv_dup hx hb d_mLines_init_58 rfl ?_
  refine lv_bipush (v := 9) hx hb d_mLines_init_59 (by decide) ?_
  refine lv_bipush (v := 52) hx hb d_mLines_init_61 (by decide) ?_
  refine va_iast hx hb hK hP hD hS 1 0 rfl rfl (show ¬ ((9 : Int32) < 0 ∨ 64 ≤ (9 : Int32).toNatClampNeg) by decide) d_mLines_init_63 (fun H locs hP hD hS => ?_)
  rw [show (9 : Int32).toNatClampNeg = 9 by decide] at hP hD
  have hP : va_P (dC, dI) vcl [(h0, .inr (14, [.null, .null, .null, .null, .null, .null, .int 0, .null, .null, .null, .long 0, .null, .int 0, .int 0, .int 0, .int 0, .int 0, .int 0, .int 0, .null, .null])), (q_1, .inl (cA_2, 64, .inl (upd (upd (upd (upd (upd f_3 5 28) 6 30) 7 31) 8 51) 9 52)))] H := hP
  have hD : va_D A [(h0, .inr (14, [.null, .null, .null, .null, .null, .null, .int 0, .null, .null, .null, .long 0, .null, .int 0, .int 0, .int 0, .int 0, .int 0, .int 0, .int 0, .null, .null])), (q_1, .inl (cA_2, 64, .inl (upd (upd (upd (upd (upd f_3 5 28) 6 30) 7 31) 8 51) 9 52)))] := hD
  refine lv_dup hx hb d_mLines_init_64 rfl ?_
  refine lv_bipush (v := 10) hx hb d_mLines_init_65 (by decide) ?_
  refine lv_bipush (v := 39) hx hb d_mLines_init_67 (by decide) ?_
  refine va_iast hx hb hK hP hD hS 1 0 rfl rfl (show ¬ ((10 : Int32) < 0 ∨ 64 ≤ (10 : Int32).toNatClampNeg) by decide) d_mLines_init_69 (fun H locs hP hD hS => ?_)
  rw [show (10 : Int32).toNatClampNeg = 10 by decide] at hP hD
  obtain ⟨f_4, ef_4⟩ : ∃ y : Nat → Int32, y = upd (upd (upd (upd (upd (upd f_3 5 28) 6 30) 7 31) 8 51) 9 52) 10 39 := ⟨_, rfl⟩
  have hP : va_P (dC, dI) vcl [(h0, .inr (14, [.null, .null, .null, .null, .null, .null, .int 0, .null, .null, .null, .long 0, .null, .int 0, .int 0, .int 0, .int 0, .int 0, .int 0, .int 0, .null, .null])), (q_1, .inl (cA_2, 64, .inl (upd (upd (upd (upd (upd (upd f_3 5 28) 6 30) 7 31) 8 51) 9 52) 10 39)))] H := hP
  have hD : va_D A [(h0, .inr (14, [.null, .null, .null, .null, .null, .null, .int 0, .null, .null, .null, .long 0, .null, .int 0, .int 0, .int 0, .int 0, .int 0, .int 0, .int 0, .null, .null])), (q_1, .inl (cA_2, 64, .inl (upd (upd (upd (upd (upd (upd f_3 5 28) 6 30) 7 31) 8 51) 9 52) 10 39)))] := hD
  rw [← ef_4] at hP hD
  have hP : va_P (dC, dI) vcl [(h0, .inr (14, [.null, .null, .null, .null, .null, .null, .int 0, .null, .null, .null, .long 0, .null, .int 0, .int 0, .int 0, .int 0, .int 0, .int 0, .int 0, .null, .null])), (q_1, .inl (cA_2, 64, .inl f_4))] H := hP
  have hD : va_D A [(h0, .inr (14, [.null, .null, .null, .null, .null, .null, .int 0, .null, .null, .null, .long 0, .null, .int 0, .int 0, .int 0, .int 0, .int 0, .int 0, .int 0, .null, .null])), (q_1, .inl (cA_2, 64, .inl f_4))] := hD
  refine lv_dup hx hb d_mLines_init_70 rfl ?_
  refine lv_bipush (v := 11) hx hb d_mLines_init_71 (by decide) ?_
  refine lv_bipush (v := 40) hx hb d_mLines_init_73 (by decide) ?_
  refine va_iast hx hb hK hP hD hS 1 0 rfl rfl (show ¬ ((11 : Int32) < 0 ∨ 64 ≤ (11 : Int32).toNatClampNeg) by decide) d_mLines_init_75 (fun H locs hP hD hS => ?_)
  rw [show (11 : Int32).toNatClampNeg = 11 by decide] at hP hD
  have hP : va_P (dC, dI) vcl [(h0, .inr (14, [.null, .null, .null, .null, .null, .null, .int 0, .null, .null, .null, .long 0, .null, .int 0, .int 0, .int 0, .int 0, .int 0, .int 0, .int 0, .null, .null])), (q_1, .inl (cA_2, 64, .inl (upd f_4 11 40)))] H := hP
  have hD : va_D A [(h0, .inr (14, [.null, .null, .null, .null, .null, .null, .int 0, .null, .null, .null, .long 0, .null, .int 0, .int 0, .int 0, .int 0, .int 0, .int 0, .int 0, .null, .null])), (q_1, .inl (cA_2, 64, .inl (upd f_4 11 40)))] := hD
  refine lv_dup hx hb d_mLines_init_76 rfl ?_
  refine lv_bipush (v := 12) hx hb d_mLines_init_77 (by decide) ?_
  refine lv_bipush (v := 72) hx hb d_mLines_init_79 (by decide) ?_
  refine va_iast hx hb hK hP hD hS 1 0 rfl rfl (show ¬ ((12 : Int32) < 0 ∨ 64 ≤ (12 : Int32).toNatClampNeg) by decide) d_mLines_init_81 (fun H locs hP hD hS => ?_)
  rw [show (12 : Int32).toNatClampNeg = 12 by decide] at hP hD
  have hP : va_P (dC, dI) vcl [(h0, .inr (14, [.null, .null, .null, .null, .null, .null, .int 0, .null, .null, .null, .long 0, .null, .int 0, .int 0, .int 0, .int 0, .int 0, .int 0, .int 0, .null, .null])), (q_1, .inl (cA_2, 64, .inl (upd (upd f_4 11 40) 12 72)))] H := hP
  have hD : va_D A [(h0, .inr (14, [.null, .null, .null, .null, .null, .null, .int 0, .null, .null, .null, .long 0, .null, .int 0, .int 0, .int 0, .int 0, .int 0, .int 0, .int 0, .null, .null])), (q_1, .inl (cA_2, 64, .inl (upd (upd f_4 11 40) 12 72)))] := hD
  refine lv_dup hx hb d_mLines_init_82 rfl ?_
  refine lv_bipush (v := 13) hx hb d_mLines_init_83 (by decide) ?_
  refine lv_bipush (v := 67) hx hb d_mLines_init_85 (by decide) ?_
  refine va_iast hx hb hK hP hD hS 1 0 rfl rfl (show ¬ ((13 : Int32) < 0 ∨ 64 ≤ (13 : Int32).toNatClampNeg) by decide) d_mLines_init_87 (fun H locs hP hD hS => ?_)
  rw [show (13 : Int32).toNatClampNeg = 13 by decide] at hP hD
  have hP : va_P (dC, dI) vcl [(h0, .inr (14, [.null, .null, .null, .null, .null, .null, .int 0, .null, .null, .null, .long 0, .null, .int 0, .int 0, .int 0, .int 0, .int 0, .int 0, .int 0, .null, .null])), (q_1, .inl (cA_2, 64, .inl (upd (upd (upd f_4 11 40) 12 72) 13 67)))] H := hP
  have hD : va_D A [(h0, .inr (14, [.null, .null, .null, .null, .null, .null, .int 0, .null, .null, .null, .long 0, .null, .int 0, .int 0, .int 0, .int 0, .int 0, .int 0, .int 0, .null, .null])), (q_1, .inl (cA_2, 64, .inl (upd (upd (upd f_4 11 40) 12 72) 13 67)))] := hD
  refine lv_dup hx hb d_mLines_init_88 rfl ?_
  refine lv_bipush (v := 14) hx hb d_mLines_init_89 (by decide) ?_
  refine lv_bipush (v := 116) hx hb d_mLines_init_91 (by decide) ?_
  refine va_iast hx hb hK hP hD hS 1 0 rfl rfl (show ¬ ((14 : Int32) < 0 ∨ 64 ≤ (14 : Int32).toNatClampNeg) by decide) d_mLines_init_93 (fun H locs hP hD hS => ?_)
  rw [show (14 : Int32).toNatClampNeg = 14 by decide] at hP hD
  have hP : va_P (dC, dI) vcl [(h0, .inr (14, [.null, .null, .null, .null, .null, .null, .int 0, .null, .null, .null, .long 0, .null, .int 0, .int 0, .int 0, .int 0, .int 0, .int 0, .int 0, .null, .null])), (q_1, .inl (cA_2, 64, .inl (upd (upd (upd (upd f_4 11 40) 12 72) 13 67) 14 116)))] H := hP
  have hD : va_D A [(h0, .inr (14, [.null, .null, .null, .null, .null, .null, .int 0, .null, .null, .null, .long 0, .null, .int 0, .int 0, .int 0, .int 0, .int 0, .int 0, .int 0, .null, .null])), (q_1, .inl (cA_2, 64, .inl (upd (upd (upd (upd f_4 11 40) 12 72) 13 67) 14 116)))] := hD
  refine lv_dup hx hb d_mLines_init_94 rfl ?_
  refine lv_bipush (v := 15) hx hb d_mLines_init_95 (by decide) ?_
  refine lv_bipush (v := 117) hx hb d_mLines_init_97 (by decide) ?_
  refine va_iast hx hb hK hP hD hS 1 0 rfl rfl (show ¬ ((15 : Int32) < 0 ∨ 64 ≤ (15 : Int32).toNatClampNeg) by decide) d_mLines_init_99 (fun H locs hP hD hS => ?_)
  rw [show (15 : Int32).toNatClampNeg = 15 by decide] at hP hD
  obtain ⟨f_5, ef_5⟩ : ∃ y : Nat → Int32, y = upd (upd (upd (upd (upd f_4 11 40) 12 72) 13 67) 14 116) 15 117 := ⟨_, rfl⟩
  have hP : va_P (dC, dI) vcl [(h0, .inr (14, [.null, .null, .null, .null, .null, .null, .int 0, .null, .null, .null, .long 0, .null, .int 0, .int 0, .int 0, .int 0, .int 0, .int 0, .int 0, .null, .null])), (q_1, .inl (cA_2, 64, .inl (upd (upd (upd (upd (upd f_4 11 40) 12 72) 13 67) 14 116) 15 117)))] H := hP
  have hD : va_D A [(h0, .inr (14, [.null, .null, .null, .null, .null, .null, .int 0, .null, .null, .null, .long 0, .null, .int 0, .int 0, .int 0, .int 0, .int 0, .int 0, .int 0, .null, .null])), (q_1, .inl (cA_2, 64, .inl (upd (upd (upd (upd (upd f_4 11 40) 12 72) 13 67) 14 116) 15 117)))] := hD
  rw [← ef_5] at hP hD
  have hP : va_P (dC, dI) vcl [(h0, .inr (14, [.null, .null, .null, .null, .null, .null, .int 0, .null, .null, .null, .long 0, .null, .int 0, .int 0, .int 0, .int 0, .int 0, .int 0, .int 0, .null, .null])), (q_1, .inl (cA_2, 64, .inl f_5))] H := hP
  have hD : va_D A [(h0, .inr (14, [.null, .null, .null, .null, .null, .null, .int 0, .null, .null, .null, .long 0, .null, .int 0, .int 0, .int 0, .int 0, .int 0, .int 0, .int 0, .null, .null])), (q_1, .inl (cA_2, 64, .inl f_5))] := hD
  refine lv_dup hx hb d_mLines_init_100 rfl ?_
  refine lv_bipush (v := 16) hx hb d_mLines_init_101 (by decide) ?_
  refine lv_bipush (v := 106) hx hb d_mLines_init_103 (by decide) ?_
  refine va_iast hx hb hK hP hD hS 1 0 rfl rfl (show ¬ ((16 : Int32) < 0 ∨ 64 ≤ (16 : Int32).toNatClampNeg) by decide) d_mLines_init_105 (fun H locs hP hD hS => ?_)
  rw [show (16 : Int32).toNatClampNeg = 16 by decide] at hP hD
  have hP : va_P (dC, dI) vcl [(h0, .inr (14, [.null, .null, .null, .null, .null, .null, .int 0, .null, .null, .null, .long 0, .null, .int 0, .int 0, .int 0, .int 0, .int 0, .int 0, .int 0, .null, .null])), (q_1, .inl (cA_2, 64, .inl (upd f_5 16 106)))] H := hP
  have hD : va_D A [(h0, .inr (14, [.null, .null, .null, .null, .null, .null, .int 0, .null, .null, .null, .long 0, .null, .int 0, .int 0, .int 0, .int 0, .int 0, .int 0, .int 0, .null, .null])), (q_1, .inl (cA_2, 64, .inl (upd f_5 16 106)))] := hD
  refine lv_dup hx hb d_mLines_init_106 rfl ?_
  refine lv_bipush (v := 17) hx hb d_mLines_init_107 (by decide) ?_
  refine lv_bipush (v := 107) hx hb d_mLines_init_109 (by decide) ?_
  refine va_iast hx hb hK hP hD hS 1 0 rfl rfl (show ¬ ((17 : Int32) < 0 ∨ 64 ≤ (17 : Int32).toNatClampNeg) by decide) d_mLines_init_111 (fun H locs hP hD hS => ?_)
  rw [show (17 : Int32).toNatClampNeg = 17 by decide] at hP hD
  have hP : va_P (dC, dI) vcl [(h0, .inr (14, [.null, .null, .null, .null, .null, .null, .int 0, .null, .null, .null, .long 0, .null, .int 0, .int 0, .int 0, .int 0, .int 0, .int 0, .int 0, .null, .null])), (q_1, .inl (cA_2, 64, .inl (upd (upd f_5 16 106) 17 107)))] H := hP
  have hD : va_D A [(h0, .inr (14, [.null, .null, .null, .null, .null, .null, .int 0, .null, .null, .null, .long 0, .null, .int 0, .int 0, .int 0, .int 0, .int 0, .int 0, .int 0, .null, .null])), (q_1, .inl (cA_2, 64, .inl (upd (upd f_5 16 106) 17 107)))] := hD
  refine lv_dup hx hb d_mLines_init_112 rfl ?_
  refine lv_bipush (v := 18) hx hb d_mLines_init_113 (by decide) ?_
  refine lv_sipush (v := 167) hx hb d_mLines_init_115 (by decide) ?_
  refine va_iast hx hb hK hP hD hS 1 0 rfl rfl (show ¬ ((18 : Int32) < 0 ∨ 64 ≤ (18 : Int32).toNatClampNeg) by decide) d_mLines_init_118 (fun H locs hP hD hS => ?_)
  rw [show (18 : Int32).toNatClampNeg = 18 by decide] at hP hD
  have hP : va_P (dC, dI) vcl [(h0, .inr (14, [.null, .null, .null, .null, .null, .null, .int 0, .null, .null, .null, .long 0, .null, .int 0, .int 0, .int 0, .int 0, .int 0, .int 0, .int 0, .null, .null])), (q_1, .inl (cA_2, 64, .inl (upd (upd (upd f_5 16 106) 17 107) 18 167)))] H := hP
  have hD : va_D A [(h0, .inr (14, [.null, .null, .null, .null, .null, .null, .int 0, .null, .null, .null, .long 0, .null, .int 0, .int 0, .int 0, .int 0, .int 0, .int 0, .int 0, .null, .null])), (q_1, .inl (cA_2, 64, .inl (upd (upd (upd f_5 16 106) 17 107) 18 167)))] := hD
  refine lv_dup hx hb d_mLines_init_119 rfl ?_
  refine lv_bipush (v := 19) hx hb d_mLines_init_120 (by decide) ?_
  refine lv_sipush (v := 140) hx hb d_mLines_init_122 (by decide) ?_
  refine va_iast hx hb hK hP hD hS 1 0 rfl rfl (show ¬ ((19 : Int32) < 0 ∨ 64 ≤ (19 : Int32).toNatClampNeg) by decide) d_mLines_init_125 (fun H locs hP hD hS => ?_)
  rw [show (19 : Int32).toNatClampNeg = 19 by decide] at hP hD
  have hP : va_P (dC, dI) vcl [(h0, .inr (14, [.null, .null, .null, .null, .null, .null, .int 0, .null, .null, .null, .long 0, .null, .int 0, .int 0, .int 0, .int 0, .int 0, .int 0, .int 0, .null, .null])), (q_1, .inl (cA_2, 64, .inl (upd (upd (upd (upd f_5 16 106) 17 107) 18 167) 19 140)))] H := hP
  have hD : va_D A [(h0, .inr (14, [.null, .null, .null, .null, .null, .null, .int 0, .null, .null, .null, .long 0, .null, .int 0, .int 0, .int 0, .int 0, .int 0, .int 0, .int 0, .null, .null])), (q_1, .inl (cA_2, 64, .inl (upd (upd (upd (upd f_5 16 106) 17 107) 18 167) 19 140)))] := hD
  refine lv_dup hx hb d_mLines_init_126 rfl ?_
  refine lv_bipush (v := 20) hx hb d_mLines_init_127 (by decide) ?_
  refine lv_sipush (v := 136) hx hb d_mLines_init_129 (by decide) ?_
  refine va_iast hx hb hK hP hD hS 1 0 rfl rfl (show ¬ ((20 : Int32) < 0 ∨ 64 ≤ (20 : Int32).toNatClampNeg) by decide) d_mLines_init_132 (fun H locs hP hD hS => ?_)
  rw [show (20 : Int32).toNatClampNeg = 20 by decide] at hP hD
  obtain ⟨f_6, ef_6⟩ : ∃ y : Nat → Int32, y = upd (upd (upd (upd (upd f_5 16 106) 17 107) 18 167) 19 140) 20 136 := ⟨_, rfl⟩
  have hP : va_P (dC, dI) vcl [(h0, .inr (14, [.null, .null, .null, .null, .null, .null, .int 0, .null, .null, .null, .long 0, .null, .int 0, .int 0, .int 0, .int 0, .int 0, .int 0, .int 0, .null, .null])), (q_1, .inl (cA_2, 64, .inl (upd (upd (upd (upd (upd f_5 16 106) 17 107) 18 167) 19 140) 20 136)))] H := hP
  have hD : va_D A [(h0, .inr (14, [.null, .null, .null, .null, .null, .null, .int 0, .null, .null, .null, .long 0, .null, .int 0, .int 0, .int 0, .int 0, .int 0, .int 0, .int 0, .null, .null])), (q_1, .inl (cA_2, 64, .inl (upd (upd (upd (upd (upd f_5 16 106) 17 107) 18 167) 19 140) 20 136)))] := hD
  rw [← ef_6] at hP hD
  have hP : va_P (dC, dI) vcl [(h0, .inr (14, [.null, .null, .null, .null, .null, .null, .int 0, .null, .null, .null, .long 0, .null, .int 0, .int 0, .int 0, .int 0, .int 0, .int 0, .int 0, .null, .null])), (q_1, .inl (cA_2, 64, .inl f_6))] H := hP
  have hD : va_D A [(h0, .inr (14, [.null, .null, .null, .null, .null, .null, .int 0, .null, .null, .null, .long 0, .null, .int 0, .int 0, .int 0, .int 0, .int 0, .int 0, .int 0, .null, .null])), (q_1, .inl (cA_2, 64, .inl f_6))] := hD
  refine lv_dup hx hb d_mLines_init_133 rfl ?_
  refine lv_bipush (v := 21) hx hb d_mLines_init_134 (by decide) ?_
  refine lv_sipush (v := 151) hx hb d_mLines_init_136 (by decide) ?_
  refine va_iast hx hb hK hP hD hS 1 0 rfl rfl (show ¬ ((21 : Int32) < 0 ∨ 64 ≤ (21 : Int32).toNatClampNeg) by decide) d_mLines_init_139 (fun H locs hP hD hS => ?_)
  rw [show (21 : Int32).toNatClampNeg = 21 by decide] at hP hD
  have hP : va_P (dC, dI) vcl [(h0, .inr (14, [.null, .null, .null, .null, .null, .null, .int 0, .null, .null, .null, .long 0, .null, .int 0, .int 0, .int 0, .int 0, .int 0, .int 0, .int 0, .null, .null])), (q_1, .inl (cA_2, 64, .inl (upd f_6 21 151)))] H := hP
  have hD : va_D A [(h0, .inr (14, [.null, .null, .null, .null, .null, .null, .int 0, .null, .null, .null, .long 0, .null, .int 0, .int 0, .int 0, .int 0, .int 0, .int 0, .int 0, .null, .null])), (q_1, .inl (cA_2, 64, .inl (upd f_6 21 151)))] := hD
  refine lv_dup hx hb d_mLines_init_140 rfl ?_
  refine lv_bipush (v := 22) hx hb d_mLines_init_141 (by decide) ?_
  refine lv_sipush (v := 131) hx hb d_mLines_init_143 (by decide) ?_
  refine va_iast hx hb hK hP hD hS 1 0 rfl rfl (show ¬ ((22 : Int32) < 0 ∨ 64 ≤ (22 : Int32).toNatClampNeg) by decide) d_mLines_init_146 (fun H locs hP hD hS => ?_)
  rw [show (22 : Int32).toNatClampNeg = 22 by decide] at hP hD
  have hP : va_P (dC, dI) vcl [(h0, .inr (14, [.null, .null, .null, .null, .null, .null, .int 0, .null, .null, .null, .long 0, .null, .int 0, .int 0, .int 0, .int 0, .int 0, .int 0, .int 0, .null, .null])), (q_1, .inl (cA_2, 64, .inl (upd (upd f_6 21 151) 22 131)))] H := hP
  have hD : va_D A [(h0, .inr (14, [.null, .null, .null, .null, .null, .null, .int 0, .null, .null, .null, .long 0, .null, .int 0, .int 0, .int 0, .int 0, .int 0, .int 0, .int 0, .null, .null])), (q_1, .inl (cA_2, 64, .inl (upd (upd f_6 21 151) 22 131)))] := hD
  refine lv_dup hx hb d_mLines_init_147 rfl ?_
  refine lv_bipush (v := 23) hx hb d_mLines_init_148 (by decide) ?_
  refine lv_sipush (v := 132) hx hb d_mLines_init_150 (by decide) ?_
  refine va_iast hx hb hK hP hD hS 1 0 rfl rfl (show ¬ ((23 : Int32) < 0 ∨ 64 ≤ (23 : Int32).toNatClampNeg) by decide) d_mLines_init_153 (fun H locs hP hD hS => ?_)
  rw [show (23 : Int32).toNatClampNeg = 23 by decide] at hP hD
  have hP : va_P (dC, dI) vcl [(h0, .inr (14, [.null, .null, .null, .null, .null, .null, .int 0, .null, .null, .null, .long 0, .null, .int 0, .int 0, .int 0, .int 0, .int 0, .int 0, .int 0, .null, .null])), (q_1, .inl (cA_2, 64, .inl (upd (upd (upd f_6 21 151) 22 131) 23 132)))] H := hP
  have hD : va_D A [(h0, .inr (14, [.null, .null, .null, .null, .null, .null, .int 0, .null, .null, .null, .long 0, .null, .int 0, .int 0, .int 0, .int 0, .int 0, .int 0, .int 0, .null, .null])), (q_1, .inl (cA_2, 64, .inl (upd (upd (upd f_6 21 151) 22 131) 23 132)))] := hD
  refine lv_dup hx hb d_mLines_init_154 rfl ?_
  refine lv_bipush (v := 24) hx hb d_mLines_init_155 (by decide) ?_
  refine lv_sipush (v := 168) hx hb d_mLines_init_157 (by decide) ?_
  refine va_iast hx hb hK hP hD hS 1 0 rfl rfl (show ¬ ((24 : Int32) < 0 ∨ 64 ≤ (24 : Int32).toNatClampNeg) by decide) d_mLines_init_160 (fun H locs hP hD hS => ?_)
  rw [show (24 : Int32).toNatClampNeg = 24 by decide] at hP hD
  have hP : va_P (dC, dI) vcl [(h0, .inr (14, [.null, .null, .null, .null, .null, .null, .int 0, .null, .null, .null, .long 0, .null, .int 0, .int 0, .int 0, .int 0, .int 0, .int 0, .int 0, .null, .null])), (q_1, .inl (cA_2, 64, .inl (upd (upd (upd (upd f_6 21 151) 22 131) 23 132) 24 168)))] H := hP
  have hD : va_D A [(h0, .inr (14, [.null, .null, .null, .null, .null, .null, .int 0, .null, .null, .null, .long 0, .null, .int 0, .int 0, .int 0, .int 0, .int 0, .int 0, .int 0, .null, .null])), (q_1, .inl (cA_2, 64, .inl (upd (upd (upd (upd f_6 21 151) 22 131) 23 132) 24 168)))] := hD
  refine lv_dup hx hb d_mLines_init_161 rfl ?_
  refine lv_bipush (v := 25) hx hb d_mLines_init_162 (by decide) ?_
  refine lv_sipush (v := 171) hx hb d_mLines_init_164 (by decide) ?_
  refine va_iast hx hb hK hP hD hS 1 0 rfl rfl (show ¬ ((25 : Int32) < 0 ∨ 64 ≤ (25 : Int32).toNatClampNeg) by decide) d_mLines_init_167 (fun H locs hP hD hS => ?_)
  rw [show (25 : Int32).toNatClampNeg = 25 by decide] at hP hD
  obtain ⟨f_7, ef_7⟩ : ∃ y : Nat → Int32, y = upd (upd (upd (upd (upd f_6 21 151) 22 131) 23 132) 24 168) 25 171 := ⟨_, rfl⟩
  have hP : va_P (dC, dI) vcl [(h0, .inr (14, [.null, .null, .null, .null, .null, .null, .int 0, .null, .null, .null, .long 0, .null, .int 0, .int 0, .int 0, .int 0, .int 0, .int 0, .int 0, .null, .null])), (q_1, .inl (cA_2, 64, .inl (upd (upd (upd (upd (upd f_6 21 151) 22 131) 23 132) 24 168) 25 171)))] H := hP
  have hD : va_D A [(h0, .inr (14, [.null, .null, .null, .null, .null, .null, .int 0, .null, .null, .null, .long 0, .null, .int 0, .int 0, .int 0, .int 0, .int 0, .int 0, .int 0, .null, .null])), (q_1, .inl (cA_2, 64, .inl (upd (upd (upd (upd (upd f_6 21 151) 22 131) 23 132) 24 168) 25 171)))] := hD
  rw [← ef_7] at hP hD
  have hP : va_P (dC, dI) vcl [(h0, .inr (14, [.null, .null, .null, .null, .null, .null, .int 0, .null, .null, .null, .long 0, .null, .int 0, .int 0, .int 0, .int 0, .int 0, .int 0, .int 0, .null, .null])), (q_1, .inl (cA_2, 64, .inl f_7))] H := hP
  have hD : va_D A [(h0, .inr (14, [.null, .null, .null, .null, .null, .null, .int 0, .null, .null, .null, .long 0, .null, .int 0, .int 0, .int 0, .int 0, .int 0, .int 0, .int 0, .null, .null])), (q_1, .inl (cA_2, 64, .inl f_7))] := hD
  refine lv_dup hx hb d_mLines_init_168 rfl ?_
  refine lv_bipush (v := 26) hx hb d_mLines_init_169 (by decide) ?_
  refine lv_sipush (v := 147) hx hb d_mLines_init_171 (by decide) ?_
  refine va_iast hx hb hK hP hD hS 1 0 rfl rfl (show ¬ ((26 : Int32) < 0 ∨ 64 ≤ (26 : Int32).toNatClampNeg) by decide) d_mLines_init_174 (fun H locs hP hD hS => ?_)
  rw [show (26 : Int32).toNatClampNeg = 26 by decide] at hP hD
  have hP : va_P (dC, dI) vcl [(h0, .inr (14, [.null, .null, .null, .null, .null, .null, .int 0, .null, .null, .null, .long 0, .null, .int 0, .int 0, .int 0, .int 0, .int 0, .int 0, .int 0, .null, .null])), (q_1, .inl (cA_2, 64, .inl (upd f_7 26 147)))] H := hP
  have hD : va_D A [(h0, .inr (14, [.null, .null, .null, .null, .null, .null, .int 0, .null, .null, .null, .long 0, .null, .int 0, .int 0, .int 0, .int 0, .int 0, .int 0, .int 0, .null, .null])), (q_1, .inl (cA_2, 64, .inl (upd f_7 26 147)))] := hD
  refine lv_dup hx hb d_mLines_init_175 rfl ?_
  refine lv_bipush (v := 27) hx hb d_mLines_init_176 (by decide) ?_
  refine lv_sipush (v := 164) hx hb d_mLines_init_178 (by decide) ?_
  refine va_iast hx hb hK hP hD hS 1 0 rfl rfl (show ¬ ((27 : Int32) < 0 ∨ 64 ≤ (27 : Int32).toNatClampNeg) by decide) d_mLines_init_181 (fun H locs hP hD hS => ?_)
  rw [show (27 : Int32).toNatClampNeg = 27 by decide] at hP hD
  have hP : va_P (dC, dI) vcl [(h0, .inr (14, [.null, .null, .null, .null, .null, .null, .int 0, .null, .null, .null, .long 0, .null, .int 0, .int 0, .int 0, .int 0, .int 0, .int 0, .int 0, .null, .null])), (q_1, .inl (cA_2, 64, .inl (upd (upd f_7 26 147) 27 164)))] H := hP
  have hD : va_D A [(h0, .inr (14, [.null, .null, .null, .null, .null, .null, .int 0, .null, .null, .null, .long 0, .null, .int 0, .int 0, .int 0, .int 0, .int 0, .int 0, .int 0, .null, .null])), (q_1, .inl (cA_2, 64, .inl (upd (upd f_7 26 147) 27 164)))] := hD
  refine lv_dup hx hb d_mLines_init_182 rfl ?_
  refine lv_bipush (v := 28) hx hb d_mLines_init_183 (by decide) ?_
  refine lv_sipush (v := 152) hx hb d_mLines_init_185 (by decide) ?_
  refine va_iast hx hb hK hP hD hS 1 0 rfl rfl (show ¬ ((28 : Int32) < 0 ∨ 64 ≤ (28 : Int32).toNatClampNeg) by decide) d_mLines_init_188 (fun H locs hP hD hS => ?_)
  rw [show (28 : Int32).toNatClampNeg = 28 by decide] at hP hD
  have hP : va_P (dC, dI) vcl [(h0, .inr (14, [.null, .null, .null, .null, .null, .null, .int 0, .null, .null, .null, .long 0, .null, .int 0, .int 0, .int 0, .int 0, .int 0, .int 0, .int 0, .null, .null])), (q_1, .inl (cA_2, 64, .inl (upd (upd (upd f_7 26 147) 27 164) 28 152)))] H := hP
  have hD : va_D A [(h0, .inr (14, [.null, .null, .null, .null, .null, .null, .int 0, .null, .null, .null, .long 0, .null, .int 0, .int 0, .int 0, .int 0, .int 0, .int 0, .int 0, .null, .null])), (q_1, .inl (cA_2, 64, .inl (upd (upd (upd f_7 26 147) 27 164) 28 152)))] := hD
  refine lv_dup hx hb d_mLines_init_189 rfl ?_
  refine lv_bipush (v := 29) hx hb d_mLines_init_190 (by decide) ?_
  refine lv_sipush (v := 258) hx hb d_mLines_init_192 (by decide) ?_
  refine va_iast hx hb hK hP hD hS 1 0 rfl rfl (show ¬ ((29 : Int32) < 0 ∨ 64 ≤ (29 : Int32).toNatClampNeg) by decide) d_mLines_init_195 (fun H locs hP hD hS => ?_)
  rw [show (29 : Int32).toNatClampNeg = 29 by decide] at hP hD
  have hP : va_P (dC, dI) vcl [(h0, .inr (14, [.null, .null, .null, .null, .null, .null, .int 0, .null, .null, .null, .long 0, .null, .int 0, .int 0, .int 0, .int 0, .int 0, .int 0, .int 0, .null, .null])), (q_1, .inl (cA_2, 64, .inl (upd (upd (upd (upd f_7 26 147) 27 164) 28 152) 29 258)))] H := hP
  have hD : va_D A [(h0, .inr (14, [.null, .null, .null, .null, .null, .null, .int 0, .null, .null, .null, .long 0, .null, .int 0, .int 0, .int 0, .int 0, .int 0, .int 0, .int 0, .null, .null])), (q_1, .inl (cA_2, 64, .inl (upd (upd (upd (upd f_7 26 147) 27 164) 28 152) 29 258)))] := hD
  refine lv_dup hx hb d_mLines_init_196 rfl ?_
  refine lv_bipush (v := 30) hx hb d_mLines_init_197 (by decide) ?_
  refine lv_sipush (v := 259) hx hb d_mLines_init_199 (by decide) ?_
  refine va_iast hx hb hK hP hD hS 1 0 rfl rfl (show ¬ ((30 : Int32) < 0 ∨ 64 ≤ (30 : Int32).toNatClampNeg) by decide) d_mLines_init_202 (fun H locs hP hD hS => ?_)
  rw [show (30 : Int32).toNatClampNeg = 30 by decide] at hP hD
  obtain ⟨f_8, ef_8⟩ : ∃ y : Nat → Int32, y = upd (upd (upd (upd (upd f_7 26 147) 27 164) 28 152) 29 258) 30 259 := ⟨_, rfl⟩
  have hP : va_P (dC, dI) vcl [(h0, .inr (14, [.null, .null, .null, .null, .null, .null, .int 0, .null, .null, .null, .long 0, .null, .int 0, .int 0, .int 0, .int 0, .int 0, .int 0, .int 0, .null, .null])), (q_1, .inl (cA_2, 64, .inl (upd (upd (upd (upd (upd f_7 26 147) 27 164) 28 152) 29 258) 30 259)))] H := hP
  have hD : va_D A [(h0, .inr (14, [.null, .null, .null, .null, .null, .null, .int 0, .null, .null, .null, .long 0, .null, .int 0, .int 0, .int 0, .int 0, .int 0, .int 0, .int 0, .null, .null])), (q_1, .inl (cA_2, 64, .inl (upd (upd (upd (upd (upd f_7 26 147) 27 164) 28 152) 29 258) 30 259)))] := hD
  rw [← ef_8] at hP hD
  have hP : va_P (dC, dI) vcl [(h0, .inr (14, [.null, .null, .null, .null, .null, .null, .int 0, .null, .null, .null, .long 0, .null, .int 0, .int 0, .int 0, .int 0, .int 0, .int 0, .int 0, .null, .null])), (q_1, .inl (cA_2, 64, .inl f_8))] H := hP
  have hD : va_D A [(h0, .inr (14, [.null, .null, .null, .null, .null, .null, .int 0, .null, .null, .null, .long 0, .null, .int 0, .int 0, .int 0, .int 0, .int 0, .int 0, .int 0, .null, .null])), (q_1, .inl (cA_2, 64, .inl f_8))] := hD
  refine lv_dup hx hb d_mLines_init_203 rfl ?_
  refine lv_bipush (v := 31) hx hb d_mLines_init_204 (by decide) ?_
  refine lv_sipush (v := 282) hx hb d_mLines_init_206 (by decide) ?_
  refine va_iast hx hb hK hP hD hS 1 0 rfl rfl (show ¬ ((31 : Int32) < 0 ∨ 64 ≤ (31 : Int32).toNatClampNeg) by decide) d_mLines_init_209 (fun H locs hP hD hS => ?_)
  rw [show (31 : Int32).toNatClampNeg = 31 by decide] at hP hD
  have hP : va_P (dC, dI) vcl [(h0, .inr (14, [.null, .null, .null, .null, .null, .null, .int 0, .null, .null, .null, .long 0, .null, .int 0, .int 0, .int 0, .int 0, .int 0, .int 0, .int 0, .null, .null])), (q_1, .inl (cA_2, 64, .inl (upd f_8 31 282)))] H := hP
  have hD : va_D A [(h0, .inr (14, [.null, .null, .null, .null, .null, .null, .int 0, .null, .null, .null, .long 0, .null, .int 0, .int 0, .int 0, .int 0, .int 0, .int 0, .int 0, .null, .null])), (q_1, .inl (cA_2, 64, .inl (upd f_8 31 282)))] := hD
  refine lv_dup hx hb d_mLines_init_210 rfl ?_
  refine lv_bipush (v := 32) hx hb d_mLines_init_211 (by decide) ?_
  refine lv_sipush (v := 283) hx hb d_mLines_init_213 (by decide) ?_
  refine va_iast hx hb hK hP hD hS 1 0 rfl rfl (show ¬ ((32 : Int32) < 0 ∨ 64 ≤ (32 : Int32).toNatClampNeg) by decide) d_mLines_init_216 (fun H locs hP hD hS => ?_)
  rw [show (32 : Int32).toNatClampNeg = 32 by decide] at hP hD
  have hP : va_P (dC, dI) vcl [(h0, .inr (14, [.null, .null, .null, .null, .null, .null, .int 0, .null, .null, .null, .long 0, .null, .int 0, .int 0, .int 0, .int 0, .int 0, .int 0, .int 0, .null, .null])), (q_1, .inl (cA_2, 64, .inl (upd (upd f_8 31 282) 32 283)))] H := hP
  have hD : va_D A [(h0, .inr (14, [.null, .null, .null, .null, .null, .null, .int 0, .null, .null, .null, .long 0, .null, .int 0, .int 0, .int 0, .int 0, .int 0, .int 0, .int 0, .null, .null])), (q_1, .inl (cA_2, 64, .inl (upd (upd f_8 31 282) 32 283)))] := hD
  refine lv_dup hx hb d_mLines_init_217 rfl ?_
  refine lv_bipush (v := 33) hx hb d_mLines_init_218 (by decide) ?_
  refine lv_sipush (v := 274) hx hb d_mLines_init_220 (by decide) ?_
  refine va_iast hx hb hK hP hD hS 1 0 rfl rfl (show ¬ ((33 : Int32) < 0 ∨ 64 ≤ (33 : Int32).toNatClampNeg) by decide) d_mLines_init_223 (fun H locs hP hD hS => ?_)
  rw [show (33 : Int32).toNatClampNeg = 33 by decide] at hP hD
  have hP : va_P (dC, dI) vcl [(h0, .inr (14, [.null, .null, .null, .null, .null, .null, .int 0, .null, .null, .null, .long 0, .null, .int 0, .int 0, .int 0, .int 0, .int 0, .int 0, .int 0, .null, .null])), (q_1, .inl (cA_2, 64, .inl (upd (upd (upd f_8 31 282) 32 283) 33 274)))] H := hP
  have hD : va_D A [(h0, .inr (14, [.null, .null, .null, .null, .null, .null, .int 0, .null, .null, .null, .long 0, .null, .int 0, .int 0, .int 0, .int 0, .int 0, .int 0, .int 0, .null, .null])), (q_1, .inl (cA_2, 64, .inl (upd (upd (upd f_8 31 282) 32 283) 33 274)))] := hD
  refine lv_dup hx hb d_mLines_init_224 rfl ?_
  refine lv_bipush (v := 34) hx hb d_mLines_init_225 (by decide) ?_
  refine lv_sipush (v := 275) hx hb d_mLines_init_227 (by decide) ?_
  refine va_iast hx hb hK hP hD hS 1 0 rfl rfl (show ¬ ((34 : Int32) < 0 ∨ 64 ≤ (34 : Int32).toNatClampNeg) by decide) d_mLines_init_230 (fun H locs hP hD hS => ?_)
  rw [show (34 : Int32).toNatClampNeg = 34 by decide] at hP hD
  have hP : va_P (dC, dI) vcl [(h0, .inr (14, [.null, .null, .null, .null, .null, .null, .int 0, .null, .null, .null, .long 0, .null, .int 0, .int 0, .int 0, .int 0, .int 0, .int 0, .int 0, .null, .null])), (q_1, .inl (cA_2, 64, .inl (upd (upd (upd (upd f_8 31 282) 32 283) 33 274) 34 275)))] H := hP
  have hD : va_D A [(h0, .inr (14, [.null, .null, .null, .null, .null, .null, .int 0, .null, .null, .null, .long 0, .null, .int 0, .int 0, .int 0, .int 0, .int 0, .int 0, .int 0, .null, .null])), (q_1, .inl (cA_2, 64, .inl (upd (upd (upd (upd f_8 31 282) 32 283) 33 274) 34 275)))] := hD
  refine lv_dup hx hb d_mLines_init_231 rfl ?_
  refine lv_bipush (v := 35) hx hb d_mLines_init_232 (by decide) ?_
  refine lv_sipush (v := 276) hx hb d_mLines_init_234 (by decide) ?_
  refine va_iast hx hb hK hP hD hS 1 0 rfl rfl (show ¬ ((35 : Int32) < 0 ∨ 64 ≤ (35 : Int32).toNatClampNeg) by decide) d_mLines_init_237 (fun H locs hP hD hS => ?_)
  rw [show (35 : Int32).toNatClampNeg = 35 by decide] at hP hD
  obtain ⟨f_9, ef_9⟩ : ∃ y : Nat → Int32, y = upd (upd (upd (upd (upd f_8 31 282) 32 283) 33 274) 34 275) 35 276 := ⟨_, rfl⟩
  have hP : va_P (dC, dI) vcl [(h0, .inr (14, [.null, .null, .null, .null, .null, .null, .int 0, .null, .null, .null, .long 0, .null, .int 0, .int 0, .int 0, .int 0, .int 0, .int 0, .int 0, .null, .null])), (q_1, .inl (cA_2, 64, .inl (upd (upd (upd (upd (upd f_8 31 282) 32 283) 33 274) 34 275) 35 276)))] H := hP
  have hD : va_D A [(h0, .inr (14, [.null, .null, .null, .null, .null, .null, .int 0, .null, .null, .null, .long 0, .null, .int 0, .int 0, .int 0, .int 0, .int 0, .int 0, .int 0, .null, .null])), (q_1, .inl (cA_2, 64, .inl (upd (upd (upd (upd (upd f_8 31 282) 32 283) 33 274) 34 275) 35 276)))] := hD
  rw [← ef_9] at hP hD
  have hP : va_P (dC, dI) vcl [(h0, .inr (14, [.null, .null, .null, .null, .null, .null, .int 0, .null, .null, .null, .long 0, .null, .int 0, .int 0, .int 0, .int 0, .int 0, .int 0, .int 0, .null, .null])), (q_1, .inl (cA_2, 64, .inl f_9))] H := hP
  have hD : va_D A [(h0, .inr (14, [.null, .null, .null, .null, .null, .null, .int 0, .null, .null, .null, .long 0, .null, .int 0, .int 0, .int 0, .int 0, .int 0, .int 0, .int 0, .null, .null])), (q_1, .inl (cA_2, 64, .inl f_9))] := hD
  refine lv_dup hx hb d_mLines_init_238 rfl ?_
  refine lv_bipush (v := 36) hx hb d_mLines_init_239 (by decide) ?_
  refine lv_sipush (v := 277) hx hb d_mLines_init_241 (by decide) ?_
  refine va_iast hx hb hK hP hD hS 1 0 rfl rfl (show ¬ ((36 : Int32) < 0 ∨ 64 ≤ (36 : Int32).toNatClampNeg) by decide) d_mLines_init_244 (fun H locs hP hD hS => ?_)
  rw [show (36 : Int32).toNatClampNeg = 36 by decide] at hP hD
  have hP : va_P (dC, dI) vcl [(h0, .inr (14, [.null, .null, .null, .null, .null, .null, .int 0, .null, .null, .null, .long 0, .null, .int 0, .int 0, .int 0, .int 0, .int 0, .int 0, .int 0, .null, .null])), (q_1, .inl (cA_2, 64, .inl (upd f_9 36 277)))] H := hP
  have hD : va_D A [(h0, .inr (14, [.null, .null, .null, .null, .null, .null, .int 0, .null, .null, .null, .long 0, .null, .int 0, .int 0, .int 0, .int 0, .int 0, .int 0, .int 0, .null, .null])), (q_1, .inl (cA_2, 64, .inl (upd f_9 36 277)))] := hD
  refine lv_dup hx hb d_mLines_init_245 rfl ?_
  refine lv_bipush (v := 37) hx hb d_mLines_init_246 (by decide) ?_
  refine lv_sipush (v := 278) hx hb d_mLines_init_248 (by decide) ?_
  refine va_iast hx hb hK hP hD hS 1 0 rfl rfl (show ¬ ((37 : Int32) < 0 ∨ 64 ≤ (37 : Int32).toNatClampNeg) by decide) d_mLines_init_251 (fun H locs hP hD hS => ?_)
  rw [show (37 : Int32).toNatClampNeg = 37 by decide] at hP hD
  have hP : va_P (dC, dI) vcl [(h0, .inr (14, [.null, .null, .null, .null, .null, .null, .int 0, .null, .null, .null, .long 0, .null, .int 0, .int 0, .int 0, .int 0, .int 0, .int 0, .int 0, .null, .null])), (q_1, .inl (cA_2, 64, .inl (upd (upd f_9 36 277) 37 278)))] H := hP
  have hD : va_D A [(h0, .inr (14, [.null, .null, .null, .null, .null, .null, .int 0, .null, .null, .null, .long 0, .null, .int 0, .int 0, .int 0, .int 0, .int 0, .int 0, .int 0, .null, .null])), (q_1, .inl (cA_2, 64, .inl (upd (upd f_9 36 277) 37 278)))] := hD
  refine lv_dup hx hb d_mLines_init_252 rfl ?_
  refine lv_bipush (v := 38) hx hb d_mLines_init_253 (by decide) ?_
  refine lv_sipush (v := 279) hx hb d_mLines_init_255 (by decide) ?_
  refine va_iast hx hb hK hP hD hS 1 0 rfl rfl (show ¬ ((38 : Int32) < 0 ∨ 64 ≤ (38 : Int32).toNatClampNeg) by decide) d_mLines_init_258 (fun H locs hP hD hS => ?_)
  rw [show (38 : Int32).toNatClampNeg = 38 by decide] at hP hD
  have hP : va_P (dC, dI) vcl [(h0, .inr (14, [.null, .null, .null, .null, .null, .null, .int 0, .null, .null, .null, .long 0, .null, .int 0, .int 0, .int 0, .int 0, .int 0, .int 0, .int 0, .null, .null])), (q_1, .inl (cA_2, 64, .inl (upd (upd (upd f_9 36 277) 37 278) 38 279)))] H := hP
  have hD : va_D A [(h0, .inr (14, [.null, .null, .null, .null, .null, .null, .int 0, .null, .null, .null, .long 0, .null, .int 0, .int 0, .int 0, .int 0, .int 0, .int 0, .int 0, .null, .null])), (q_1, .inl (cA_2, 64, .inl (upd (upd (upd f_9 36 277) 37 278) 38 279)))] := hD
  refine lv_dup hx hb d_mLines_init_259 rfl ?_
  refine lv_bipush (v := 39) hx hb d_mLines_init_260 (by decide) ?_
  refine lv_sipush (v := 296) hx hb d_mLines_init_262 (by decide) ?_
  refine va_iast hx hb hK hP hD hS 1 0 rfl rfl (show ¬ ((39 : Int32) < 0 ∨ 64 ≤ (39 : Int32).toNatClampNeg) by decide) d_mLines_init_265 (fun H locs hP hD hS => ?_)
  rw [show (39 : Int32).toNatClampNeg = 39 by decide] at hP hD
  have hP : va_P (dC, dI) vcl [(h0, .inr (14, [.null, .null, .null, .null, .null, .null, .int 0, .null, .null, .null, .long 0, .null, .int 0, .int 0, .int 0, .int 0, .int 0, .int 0, .int 0, .null, .null])), (q_1, .inl (cA_2, 64, .inl (upd (upd (upd (upd f_9 36 277) 37 278) 38 279) 39 296)))] H := hP
  have hD : va_D A [(h0, .inr (14, [.null, .null, .null, .null, .null, .null, .int 0, .null, .null, .null, .long 0, .null, .int 0, .int 0, .int 0, .int 0, .int 0, .int 0, .int 0, .null, .null])), (q_1, .inl (cA_2, 64, .inl (upd (upd (upd (upd f_9 36 277) 37 278) 38 279) 39 296)))] := hD
  refine lv_dup hx hb d_mLines_init_266 rfl ?_
  refine lv_bipush (v := 40) hx hb d_mLines_init_267 (by decide) ?_
  refine lv_sipush (v := 297) hx hb d_mLines_init_269 (by decide) ?_
  refine va_iast hx hb hK hP hD hS 1 0 rfl rfl (show ¬ ((40 : Int32) < 0 ∨ 64 ≤ (40 : Int32).toNatClampNeg) by decide) d_mLines_init_272 (fun H locs hP hD hS => ?_)
  rw [show (40 : Int32).toNatClampNeg = 40 by decide] at hP hD
  obtain ⟨f_10, ef_10⟩ : ∃ y : Nat → Int32, y = upd (upd (upd (upd (upd f_9 36 277) 37 278) 38 279) 39 296) 40 297 := ⟨_, rfl⟩
  have hP : va_P (dC, dI) vcl [(h0, .inr (14, [.null, .null, .null, .null, .null, .null, .int 0, .null, .null, .null, .long 0, .null, .int 0, .int 0, .int 0, .int 0, .int 0, .int 0, .int 0, .null, .null])), (q_1, .inl (cA_2, 64, .inl (upd (upd (upd (upd (upd f_9 36 277) 37 278) 38 279) 39 296) 40 297)))] H := hP
  have hD : va_D A [(h0, .inr (14, [.null, .null, .null, .null, .null, .null, .int 0, .null, .null, .null, .long 0, .null, .int 0, .int 0, .int 0, .int 0, .int 0, .int 0, .int 0, .null, .null])), (q_1, .inl (cA_2, 64, .inl (upd (upd (upd (upd (upd f_9 36 277) 37 278) 38 279) 39 296) 40 297)))] := hD
  rw [← ef_10] at hP hD
  have hP : va_P (dC, dI) vcl [(h0, .inr (14, [.null, .null, .null, .null, .null, .null, .int 0, .null, .null, .null, .long 0, .null, .int 0, .int 0, .int 0, .int 0, .int 0, .int 0, .int 0, .null, .null])), (q_1, .inl (cA_2, 64, .inl f_10))] H := hP
  have hD : va_D A [(h0, .inr (14, [.null, .null, .null, .null, .null, .null, .int 0, .null, .null, .null, .long 0, .null, .int 0, .int 0, .int 0, .int 0, .int 0, .int 0, .int 0, .null, .null])), (q_1, .inl (cA_2, 64, .inl f_10))] := hD
  refine lv_dup hx hb d_mLines_init_273 rfl ?_
  refine lv_bipush (v := 41) hx hb d_mLines_init_274 (by decide) ?_
  refine lv_sipush (v := 298) hx hb d_mLines_init_276 (by decide) ?_
  refine va_iast hx hb hK hP hD hS 1 0 rfl rfl (show ¬ ((41 : Int32) < 0 ∨ 64 ≤ (41 : Int32).toNatClampNeg) by decide) d_mLines_init_279 (fun H locs hP hD hS => ?_)
  rw [show (41 : Int32).toNatClampNeg = 41 by decide] at hP hD
  have hP : va_P (dC, dI) vcl [(h0, .inr (14, [.null, .null, .null, .null, .null, .null, .int 0, .null, .null, .null, .long 0, .null, .int 0, .int 0, .int 0, .int 0, .int 0, .int 0, .int 0, .null, .null])), (q_1, .inl (cA_2, 64, .inl (upd f_10 41 298)))] H := hP
  have hD : va_D A [(h0, .inr (14, [.null, .null, .null, .null, .null, .null, .int 0, .null, .null, .null, .long 0, .null, .int 0, .int 0, .int 0, .int 0, .int 0, .int 0, .int 0, .null, .null])), (q_1, .inl (cA_2, 64, .inl (upd f_10 41 298)))] := hD
  refine lv_dup hx hb d_mLines_init_280 rfl ?_
  refine lv_bipush (v := 42) hx hb d_mLines_init_281 (by decide) ?_
  refine lv_sipush (v := 299) hx hb d_mLines_init_283 (by decide) ?_
  refine va_iast hx hb hK hP hD hS 1 0 rfl rfl (show ¬ ((42 : Int32) < 0 ∨ 64 ≤ (42 : Int32).toNatClampNeg) by decide) d_mLines_init_286 (fun H locs hP hD hS => ?_)
  rw [show (42 : Int32).toNatClampNeg = 42 by decide] at hP hD
  have hP : va_P (dC, dI) vcl [(h0, .inr (14, [.null, .null, .null, .null, .null, .null, .int 0, .null, .null, .null, .long 0, .null, .int 0, .int 0, .int 0, .int 0, .int 0, .int 0, .int 0, .null, .null])), (q_1, .inl (cA_2, 64, .inl (upd (upd f_10 41 298) 42 299)))] H := hP
  have hD : va_D A [(h0, .inr (14, [.null, .null, .null, .null, .null, .null, .int 0, .null, .null, .null, .long 0, .null, .int 0, .int 0, .int 0, .int 0, .int 0, .int 0, .int 0, .null, .null])), (q_1, .inl (cA_2, 64, .inl (upd (upd f_10 41 298) 42 299)))] := hD
  refine lv_dup hx hb d_mLines_init_287 rfl ?_
  refine lv_bipush (v := 43) hx hb d_mLines_init_288 (by decide) ?_
  refine lv_sipush (v := 300) hx hb d_mLines_init_290 (by decide) ?_
  refine va_iast hx hb hK hP hD hS 1 0 rfl rfl (show ¬ ((43 : Int32) < 0 ∨ 64 ≤ (43 : Int32).toNatClampNeg) by decide) d_mLines_init_293 (fun H locs hP hD hS => ?_)
  rw [show (43 : Int32).toNatClampNeg = 43 by decide] at hP hD
  have hP : va_P (dC, dI) vcl [(h0, .inr (14, [.null, .null, .null, .null, .null, .null, .int 0, .null, .null, .null, .long 0, .null, .int 0, .int 0, .int 0, .int 0, .int 0, .int 0, .int 0, .null, .null])), (q_1, .inl (cA_2, 64, .inl (upd (upd (upd f_10 41 298) 42 299) 43 300)))] H := hP
  have hD : va_D A [(h0, .inr (14, [.null, .null, .null, .null, .null, .null, .int 0, .null, .null, .null, .long 0, .null, .int 0, .int 0, .int 0, .int 0, .int 0, .int 0, .int 0, .null, .null])), (q_1, .inl (cA_2, 64, .inl (upd (upd (upd f_10 41 298) 42 299) 43 300)))] := hD
  refine lv_dup hx hb d_mLines_init_294 rfl ?_
  refine lv_bipush (v := 44) hx hb d_mLines_init_295 (by decide) ?_
  refine lv_sipush (v := 301) hx hb d_mLines_init_297 (by decide) ?_
  refine va_iast hx hb hK hP hD hS 1 0 rfl rfl (show ¬ ((44 : Int32) < 0 ∨ 64 ≤ (44 : Int32).toNatClampNeg) by decide) d_mLines_init_300 (fun H locs hP hD hS => ?_)
  rw [show (44 : Int32).toNatClampNeg = 44 by decide] at hP hD
  have hP : va_P (dC, dI) vcl [(h0, .inr (14, [.null, .null, .null, .null, .null, .null, .int 0, .null, .null, .null, .long 0, .null, .int 0, .int 0, .int 0, .int 0, .int 0, .int 0, .int 0, .null, .null])), (q_1, .inl (cA_2, 64, .inl (upd (upd (upd (upd f_10 41 298) 42 299) 43 300) 44 301)))] H := hP
  have hD : va_D A [(h0, .inr (14, [.null, .null, .null, .null, .null, .null, .int 0, .null, .null, .null, .long 0, .null, .int 0, .int 0, .int 0, .int 0, .int 0, .int 0, .int 0, .null, .null])), (q_1, .inl (cA_2, 64, .inl (upd (upd (upd (upd f_10 41 298) 42 299) 43 300) 44 301)))] := hD
  refine lv_dup hx hb d_mLines_init_301 rfl ?_
  refine lv_bipush (v := 45) hx hb d_mLines_init_302 (by decide) ?_
  refine lv_sipush (v := 260) hx hb d_mLines_init_304 (by decide) ?_
  refine va_iast hx hb hK hP hD hS 1 0 rfl rfl (show ¬ ((45 : Int32) < 0 ∨ 64 ≤ (45 : Int32).toNatClampNeg) by decide) d_mLines_init_307 (fun H locs hP hD hS => ?_)
  rw [show (45 : Int32).toNatClampNeg = 45 by decide] at hP hD
  obtain ⟨f_11, ef_11⟩ : ∃ y : Nat → Int32, y = upd (upd (upd (upd (upd f_10 41 298) 42 299) 43 300) 44 301) 45 260 := ⟨_, rfl⟩
  have hP : va_P (dC, dI) vcl [(h0, .inr (14, [.null, .null, .null, .null, .null, .null, .int 0, .null, .null, .null, .long 0, .null, .int 0, .int 0, .int 0, .int 0, .int 0, .int 0, .int 0, .null, .null])), (q_1, .inl (cA_2, 64, .inl (upd (upd (upd (upd (upd f_10 41 298) 42 299) 43 300) 44 301) 45 260)))] H := hP
  have hD : va_D A [(h0, .inr (14, [.null, .null, .null, .null, .null, .null, .int 0, .null, .null, .null, .long 0, .null, .int 0, .int 0, .int 0, .int 0, .int 0, .int 0, .int 0, .null, .null])), (q_1, .inl (cA_2, 64, .inl (upd (upd (upd (upd (upd f_10 41 298) 42 299) 43 300) 44 301) 45 260)))] := hD
  rw [← ef_11] at hP hD
  have hP : va_P (dC, dI) vcl [(h0, .inr (14, [.null, .null, .null, .null, .null, .null, .int 0, .null, .null, .null, .long 0, .null, .int 0, .int 0, .int 0, .int 0, .int 0, .int 0, .int 0, .null, .null])), (q_1, .inl (cA_2, 64, .inl f_11))] H := hP
  have hD : va_D A [(h0, .inr (14, [.null, .null, .null, .null, .null, .null, .int 0, .null, .null, .null, .long 0, .null, .int 0, .int 0, .int 0, .int 0, .int 0, .int 0, .int 0, .null, .null])), (q_1, .inl (cA_2, 64, .inl f_11))] := hD
  refine lv_dup hx hb d_mLines_init_308 rfl ?_
  refine lv_bipush (v := 46) hx hb d_mLines_init_309 (by decide) ?_
  refine lv_sipush (v := 261) hx hb d_mLines_init_311 (by decide) ?_
  refine va_iast hx hb hK hP hD hS 1 0 rfl rfl (show ¬ ((46 : Int32) < 0 ∨ 64 ≤ (46 : Int32).toNatClampNeg) by decide) d_mLines_init_314 (fun H locs hP hD hS => ?_)
  rw [show (46 : Int32).toNatClampNeg = 46 by decide] at hP hD
  have hP : va_P (dC, dI) vcl [(h0, .inr (14, [.null, .null, .null, .null, .null, .null, .int 0, .null, .null, .null, .long 0, .null, .int 0, .int 0, .int 0, .int 0, .int 0, .int 0, .int 0, .null, .null])), (q_1, .inl (cA_2, 64, .inl (upd f_11 46 261)))] H := hP
  have hD : va_D A [(h0, .inr (14, [.null, .null, .null, .null, .null, .null, .int 0, .null, .null, .null, .long 0, .null, .int 0, .int 0, .int 0, .int 0, .int 0, .int 0, .int 0, .null, .null])), (q_1, .inl (cA_2, 64, .inl (upd f_11 46 261)))] := hD
  refine lv_dup hx hb d_mLines_init_315 rfl ?_
  refine lv_bipush (v := 47) hx hb d_mLines_init_316 (by decide) ?_
  refine lv_sipush (v := 266) hx hb d_mLines_init_318 (by decide) ?_
  refine va_iast hx hb hK hP hD hS 1 0 rfl rfl (show ¬ ((47 : Int32) < 0 ∨ 64 ≤ (47 : Int32).toNatClampNeg) by decide) d_mLines_init_321 (fun H locs hP hD hS => ?_)
  rw [show (47 : Int32).toNatClampNeg = 47 by decide] at hP hD
  have hP : va_P (dC, dI) vcl [(h0, .inr (14, [.null, .null, .null, .null, .null, .null, .int 0, .null, .null, .null, .long 0, .null, .int 0, .int 0, .int 0, .int 0, .int 0, .int 0, .int 0, .null, .null])), (q_1, .inl (cA_2, 64, .inl (upd (upd f_11 46 261) 47 266)))] H := hP
  have hD : va_D A [(h0, .inr (14, [.null, .null, .null, .null, .null, .null, .int 0, .null, .null, .null, .long 0, .null, .int 0, .int 0, .int 0, .int 0, .int 0, .int 0, .int 0, .null, .null])), (q_1, .inl (cA_2, 64, .inl (upd (upd f_11 46 261) 47 266)))] := hD
  refine lv_dup hx hb d_mLines_init_322 rfl ?_
  refine lv_bipush (v := 48) hx hb d_mLines_init_323 (by decide) ?_
  refine lv_sipush (v := 267) hx hb d_mLines_init_325 (by decide) ?_
  refine va_iast hx hb hK hP hD hS 1 0 rfl rfl (show ¬ ((48 : Int32) < 0 ∨ 64 ≤ (48 : Int32).toNatClampNeg) by decide) d_mLines_init_328 (fun H locs hP hD hS => ?_)
  rw [show (48 : Int32).toNatClampNeg = 48 by decide] at hP hD
  have hP : va_P (dC, dI) vcl [(h0, .inr (14, [.null, .null, .null, .null, .null, .null, .int 0, .null, .null, .null, .long 0, .null, .int 0, .int 0, .int 0, .int 0, .int 0, .int 0, .int 0, .null, .null])), (q_1, .inl (cA_2, 64, .inl (upd (upd (upd f_11 46 261) 47 266) 48 267)))] H := hP
  have hD : va_D A [(h0, .inr (14, [.null, .null, .null, .null, .null, .null, .int 0, .null, .null, .null, .long 0, .null, .int 0, .int 0, .int 0, .int 0, .int 0, .int 0, .int 0, .null, .null])), (q_1, .inl (cA_2, 64, .inl (upd (upd (upd f_11 46 261) 47 266) 48 267)))] := hD
  refine lv_dup hx hb d_mLines_init_329 rfl ?_
  refine lv_bipush (v := 49) hx hb d_mLines_init_330 (by decide) ?_
  refine lv_sipush (v := 338) hx hb d_mLines_init_332 (by decide) ?_
  refine va_iast hx hb hK hP hD hS 1 0 rfl rfl (show ¬ ((49 : Int32) < 0 ∨ 64 ≤ (49 : Int32).toNatClampNeg) by decide) d_mLines_init_335 (fun H locs hP hD hS => ?_)
  rw [show (49 : Int32).toNatClampNeg = 49 by decide] at hP hD
  have hP : va_P (dC, dI) vcl [(h0, .inr (14, [.null, .null, .null, .null, .null, .null, .int 0, .null, .null, .null, .long 0, .null, .int 0, .int 0, .int 0, .int 0, .int 0, .int 0, .int 0, .null, .null])), (q_1, .inl (cA_2, 64, .inl (upd (upd (upd (upd f_11 46 261) 47 266) 48 267) 49 338)))] H := hP
  have hD : va_D A [(h0, .inr (14, [.null, .null, .null, .null, .null, .null, .int 0, .null, .null, .null, .long 0, .null, .int 0, .int 0, .int 0, .int 0, .int 0, .int 0, .int 0, .null, .null])), (q_1, .inl (cA_2, 64, .inl (upd (upd (upd (upd f_11 46 261) 47 266) 48 267) 49 338)))] := hD
  refine lv_dup hx hb d_mLines_init_336 rfl ?_
  refine lv_bipush (v := 50) hx hb d_mLines_init_337 (by decide) ?_
  refine lv_sipush (v := 339) hx hb d_mLines_init_339 (by decide) ?_
  refine va_iast hx hb hK hP hD hS 1 0 rfl rfl (show ¬ ((50 : Int32) < 0 ∨ 64 ≤ (50 : Int32).toNatClampNeg) by decide) d_mLines_init_342 (fun H locs hP hD hS => ?_)
  rw [show (50 : Int32).toNatClampNeg = 50 by decide] at hP hD
  obtain ⟨f_12, ef_12⟩ : ∃ y : Nat → Int32, y = upd (upd (upd (upd (upd f_11 46 261) 47 266) 48 267) 49 338) 50 339 := ⟨_, rfl⟩
  have hP : va_P (dC, dI) vcl [(h0, .inr (14, [.null, .null, .null, .null, .null, .null, .int 0, .null, .null, .null, .long 0, .null, .int 0, .int 0, .int 0, .int 0, .int 0, .int 0, .int 0, .null, .null])), (q_1, .inl (cA_2, 64, .inl (upd (upd (upd (upd (upd f_11 46 261) 47 266) 48 267) 49 338) 50 339)))] H := hP
  have hD : va_D A [(h0, .inr (14, [.null, .null, .null, .null, .null, .null, .int 0, .null, .null, .null, .long 0, .null, .int 0, .int 0, .int 0, .int 0, .int 0, .int 0, .int 0, .null, .null])), (q_1, .inl (cA_2, 64, .inl (upd (upd (upd (upd (upd f_11 46 261) 47 266) 48 267) 49 338) 50 339)))] := hD
  rw [← ef_12] at hP hD
  have hP : va_P (dC, dI) vcl [(h0, .inr (14, [.null, .null, .null, .null, .null, .null, .int 0, .null, .null, .null, .long 0, .null, .int 0, .int 0, .int 0, .int 0, .int 0, .int 0, .int 0, .null, .null])), (q_1, .inl (cA_2, 64, .inl f_12))] H := hP
  have hD : va_D A [(h0, .inr (14, [.null, .null, .null, .null, .null, .null, .int 0, .null, .null, .null, .long 0, .null, .int 0, .int 0, .int 0, .int 0, .int 0, .int 0, .int 0, .null, .null])), (q_1, .inl (cA_2, 64, .inl f_12))] := hD
  refine lv_dup hx hb d_mLines_init_343 rfl ?_
  refine lv_bipush (v := 51) hx hb d_mLines_init_344 (by decide) ?_
  refine lv_sipush (v := 340) hx hb d_mLines_init_346 (by decide) ?_
  refine va_iast hx hb hK hP hD hS 1 0 rfl rfl (show ¬ ((51 : Int32) < 0 ∨ 64 ≤ (51 : Int32).toNatClampNeg) by decide) d_mLines_init_349 (fun H locs hP hD hS => ?_)
  rw [show (51 : Int32).toNatClampNeg = 51 by decide] at hP hD
  have hP : va_P (dC, dI) vcl [(h0, .inr (14, [.null, .null, .null, .null, .null, .null, .int 0, .null, .null, .null, .long 0, .null, .int 0, .int 0, .int 0, .int 0, .int 0, .int 0, .int 0, .null, .null])), (q_1, .inl (cA_2, 64, .inl (upd f_12 51 340)))] H := hP
  have hD : va_D A [(h0, .inr (14, [.null, .null, .null, .null, .null, .null, .int 0, .null, .null, .null, .long 0, .null, .int 0, .int 0, .int 0, .int 0, .int 0, .int 0, .int 0, .null, .null])), (q_1, .inl (cA_2, 64, .inl (upd f_12 51 340)))] := hD
  refine lv_dup hx hb d_mLines_init_350 rfl ?_
  refine lv_bipush (v := 52) hx hb d_mLines_init_351 (by decide) ?_
  refine lv_sipush (v := 341) hx hb d_mLines_init_353 (by decide) ?_
  refine va_iast hx hb hK hP hD hS 1 0 rfl rfl (show ¬ ((52 : Int32) < 0 ∨ 64 ≤ (52 : Int32).toNatClampNeg) by decide) d_mLines_init_356 (fun H locs hP hD hS => ?_)
  rw [show (52 : Int32).toNatClampNeg = 52 by decide] at hP hD
  have hP : va_P (dC, dI) vcl [(h0, .inr (14, [.null, .null, .null, .null, .null, .null, .int 0, .null, .null, .null, .long 0, .null, .int 0, .int 0, .int 0, .int 0, .int 0, .int 0, .int 0, .null, .null])), (q_1, .inl (cA_2, 64, .inl (upd (upd f_12 51 340) 52 341)))] H := hP
  have hD : va_D A [(h0, .inr (14, [.null, .null, .null, .null, .null, .null, .int 0, .null, .null, .null, .long 0, .null, .int 0, .int 0, .int 0, .int 0, .int 0, .int 0, .int 0, .null, .null])), (q_1, .inl (cA_2, 64, .inl (upd (upd f_12 51 340) 52 341)))] := hD
  refine lv_dup hx hb d_mLines_init_357 rfl ?_
  refine lv_bipush (v := 53) hx hb d_mLines_init_358 (by decide) ?_
  refine lv_sipush (v := 292) hx hb d_mLines_init_360 (by decide) ?_
  refine va_iast hx hb hK hP hD hS 1 0 rfl rfl (show ¬ ((53 : Int32) < 0 ∨ 64 ≤ (53 : Int32).toNatClampNeg) by decide) d_mLines_init_363 (fun H locs hP hD hS => ?_)
  rw [show (53 : Int32).toNatClampNeg = 53 by decide] at hP hD
  have hP : va_P (dC, dI) vcl [(h0, .inr (14, [.null, .null, .null, .null, .null, .null, .int 0, .null, .null, .null, .long 0, .null, .int 0, .int 0, .int 0, .int 0, .int 0, .int 0, .int 0, .null, .null])), (q_1, .inl (cA_2, 64, .inl (upd (upd (upd f_12 51 340) 52 341) 53 292)))] H := hP
  have hD : va_D A [(h0, .inr (14, [.null, .null, .null, .null, .null, .null, .int 0, .null, .null, .null, .long 0, .null, .int 0, .int 0, .int 0, .int 0, .int 0, .int 0, .int 0, .null, .null])), (q_1, .inl (cA_2, 64, .inl (upd (upd (upd f_12 51 340) 52 341) 53 292)))] := hD
  refine lv_dup hx hb d_mLines_init_364 rfl ?_
  refine lv_bipush (v := 54) hx hb d_mLines_init_365 (by decide) ?_
  refine lv_sipush (v := 293) hx hb d_mLines_init_367 (by decide) ?_
  refine va_iast hx hb hK hP hD hS 1 0 rfl rfl (show ¬ ((54 : Int32) < 0 ∨ 64 ≤ (54 : Int32).toNatClampNeg) by decide) d_mLines_init_370 (fun H locs hP hD hS => ?_)
  rw [show (54 : Int32).toNatClampNeg = 54 by decide] at hP hD
  have hP : va_P (dC, dI) vcl [(h0, .inr (14, [.null, .null, .null, .null, .null, .null, .int 0, .null, .null, .null, .long 0, .null, .int 0, .int 0, .int 0, .int 0, .int 0, .int 0, .int 0, .null, .null])), (q_1, .inl (cA_2, 64, .inl (upd (upd (upd (upd f_12 51 340) 52 341) 53 292) 54 293)))] H := hP
  have hD : va_D A [(h0, .inr (14, [.null, .null, .null, .null, .null, .null, .int 0, .null, .null, .null, .long 0, .null, .int 0, .int 0, .int 0, .int 0, .int 0, .int 0, .int 0, .null, .null])), (q_1, .inl (cA_2, 64, .inl (upd (upd (upd (upd f_12 51 340) 52 341) 53 292) 54 293)))] := hD
  refine lv_dup hx hb d_mLines_init_371 rfl ?_
  refine lv_bipush (v := 55) hx hb d_mLines_init_372 (by decide) ?_
  refine lv_sipush (v := 344) hx hb d_mLines_init_374 (by decide) ?_
  refine va_iast hx hb hK hP hD hS 1 0 rfl rfl (show ¬ ((55 : Int32) < 0 ∨ 64 ≤ (55 : Int32).toNatClampNeg) by decide) d_mLines_init_377 (fun H locs hP hD hS => ?_)
  rw [show (55 : Int32).toNatClampNeg = 55 by decide] at hP hD
  obtain ⟨f_13, ef_13⟩ : ∃ y : Nat → Int32, y = upd (upd (upd (upd (upd f_12 51 340) 52 341) 53 292) 54 293) 55 344 := ⟨_, rfl⟩
  have hP : va_P (dC, dI) vcl [(h0, .inr (14, [.null, .null, .null, .null, .null, .null, .int 0, .null, .null, .null, .long 0, .null, .int 0, .int 0, .int 0, .int 0, .int 0, .int 0, .int 0, .null, .null])), (q_1, .inl (cA_2, 64, .inl (upd (upd (upd (upd (upd f_12 51 340) 52 341) 53 292) 54 293) 55 344)))] H := hP
  have hD : va_D A [(h0, .inr (14, [.null, .null, .null, .null, .null, .null, .int 0, .null, .null, .null, .long 0, .null, .int 0, .int 0, .int 0, .int 0, .int 0, .int 0, .int 0, .null, .null])), (q_1, .inl (cA_2, 64, .inl (upd (upd (upd (upd (upd f_12 51 340) 52 341) 53 292) 54 293) 55 344)))] := hD
  rw [← ef_13] at hP hD
  have hP : va_P (dC, dI) vcl [(h0, .inr (14, [.null, .null, .null, .null, .null, .null, .int 0, .null, .null, .null, .long 0, .null, .int 0, .int 0, .int 0, .int 0, .int 0, .int 0, .int 0, .null, .null])), (q_1, .inl (cA_2, 64, .inl f_13))] H := hP
  have hD : va_D A [(h0, .inr (14, [.null, .null, .null, .null, .null, .null, .int 0, .null, .null, .null, .long 0, .null, .int 0, .int 0, .int 0, .int 0, .int 0, .int 0, .int 0, .null, .null])), (q_1, .inl (cA_2, 64, .inl f_13))] := hD
  refine lv_dup hx hb d_mLines_init_378 rfl ?_
  refine lv_bipush (v := 56) hx hb d_mLines_init_379 (by decide) ?_
  refine lv_sipush (v := 345) hx hb d_mLines_init_381 (by decide) ?_
  refine va_iast hx hb hK hP hD hS 1 0 rfl rfl (show ¬ ((56 : Int32) < 0 ∨ 64 ≤ (56 : Int32).toNatClampNeg) by decide) d_mLines_init_384 (fun H locs hP hD hS => ?_)
  rw [show (56 : Int32).toNatClampNeg = 56 by decide] at hP hD
  have hP : va_P (dC, dI) vcl [(h0, .inr (14, [.null, .null, .null, .null, .null, .null, .int 0, .null, .null, .null, .long 0, .null, .int 0, .int 0, .int 0, .int 0, .int 0, .int 0, .int 0, .null, .null])), (q_1, .inl (cA_2, 64, .inl (upd f_13 56 345)))] H := hP
  have hD : va_D A [(h0, .inr (14, [.null, .null, .null, .null, .null, .null, .int 0, .null, .null, .null, .long 0, .null, .int 0, .int 0, .int 0, .int 0, .int 0, .int 0, .int 0, .null, .null])), (q_1, .inl (cA_2, 64, .inl (upd f_13 56 345)))] := hD
  refine lv_dup hx hb d_mLines_init_385 rfl ?_
  refine lv_bipush (v := 57) hx hb d_mLines_init_386 (by decide) ?_
  refine lv_sipush (v := 346) hx hb d_mLines_init_388 (by decide) ?_
  refine va_iast hx hb hK hP hD hS 1 0 rfl rfl (show ¬ ((57 : Int32) < 0 ∨ 64 ≤ (57 : Int32).toNatClampNeg) by decide) d_mLines_init_391 (fun H locs hP hD hS => ?_)
  rw [show (57 : Int32).toNatClampNeg = 57 by decide] at hP hD
  have hP : va_P (dC, dI) vcl [(h0, .inr (14, [.null, .null, .null, .null, .null, .null, .int 0, .null, .null, .null, .long 0, .null, .int 0, .int 0, .int 0, .int 0, .int 0, .int 0, .int 0, .null, .null])), (q_1, .inl (cA_2, 64, .inl (upd (upd f_13 56 345) 57 346)))] H := hP
  have hD : va_D A [(h0, .inr (14, [.null, .null, .null, .null, .null, .null, .int 0, .null, .null, .null, .long 0, .null, .int 0, .int 0, .int 0, .int 0, .int 0, .int 0, .int 0, .null, .null])), (q_1, .inl (cA_2, 64, .inl (upd (upd f_13 56 345) 57 346)))] := hD
  refine lv_dup hx hb d_mLines_init_392 rfl ?_
  refine lv_bipush (v := 58) hx hb d_mLines_init_393 (by decide) ?_
  refine lv_sipush (v := 347) hx hb d_mLines_init_395 (by decide) ?_
  refine va_iast hx hb hK hP hD hS 1 0 rfl rfl (show ¬ ((58 : Int32) < 0 ∨ 64 ≤ (58 : Int32).toNatClampNeg) by decide) d_mLines_init_398 (fun H locs hP hD hS => ?_)
  rw [show (58 : Int32).toNatClampNeg = 58 by decide] at hP hD
  have hP : va_P (dC, dI) vcl [(h0, .inr (14, [.null, .null, .null, .null, .null, .null, .int 0, .null, .null, .null, .long 0, .null, .int 0, .int 0, .int 0, .int 0, .int 0, .int 0, .int 0, .null, .null])), (q_1, .inl (cA_2, 64, .inl (upd (upd (upd f_13 56 345) 57 346) 58 347)))] H := hP
  have hD : va_D A [(h0, .inr (14, [.null, .null, .null, .null, .null, .null, .int 0, .null, .null, .null, .long 0, .null, .int 0, .int 0, .int 0, .int 0, .int 0, .int 0, .int 0, .null, .null])), (q_1, .inl (cA_2, 64, .inl (upd (upd (upd f_13 56 345) 57 346) 58 347)))] := hD
  refine lv_dup hx hb d_mLines_init_399 rfl ?_
  refine lv_bipush (v := 59) hx hb d_mLines_init_400 (by decide) ?_
  refine lv_sipush (v := 330) hx hb d_mLines_init_402 (by decide) ?_
  refine va_iast hx hb hK hP hD hS 1 0 rfl rfl (show ¬ ((59 : Int32) < 0 ∨ 64 ≤ (59 : Int32).toNatClampNeg) by decide) d_mLines_init_405 (fun H locs hP hD hS => ?_)
  rw [show (59 : Int32).toNatClampNeg = 59 by decide] at hP hD
  have hP : va_P (dC, dI) vcl [(h0, .inr (14, [.null, .null, .null, .null, .null, .null, .int 0, .null, .null, .null, .long 0, .null, .int 0, .int 0, .int 0, .int 0, .int 0, .int 0, .int 0, .null, .null])), (q_1, .inl (cA_2, 64, .inl (upd (upd (upd (upd f_13 56 345) 57 346) 58 347) 59 330)))] H := hP
  have hD : va_D A [(h0, .inr (14, [.null, .null, .null, .null, .null, .null, .int 0, .null, .null, .null, .long 0, .null, .int 0, .int 0, .int 0, .int 0, .int 0, .int 0, .int 0, .null, .null])), (q_1, .inl (cA_2, 64, .inl (upd (upd (upd (upd f_13 56 345) 57 346) 58 347) 59 330)))] := hD
  refine lv_dup hx hb d_mLines_init_406 rfl ?_
  refine lv_bipush (v := 60) hx hb d_mLines_init_407 (by decide) ?_
  refine lv_sipush (v := 331) hx hb d_mLines_init_409 (by decide) ?_
  refine va_iast hx hb hK hP hD hS 1 0 rfl rfl (show ¬ ((60 : Int32) < 0 ∨ 64 ≤ (60 : Int32).toNatClampNeg) by decide) d_mLines_init_412 (fun H locs hP hD hS => ?_)
  rw [show (60 : Int32).toNatClampNeg = 60 by decide] at hP hD
  obtain ⟨f_14, ef_14⟩ : ∃ y : Nat → Int32, y = upd (upd (upd (upd (upd f_13 56 345) 57 346) 58 347) 59 330) 60 331 := ⟨_, rfl⟩
  have hP : va_P (dC, dI) vcl [(h0, .inr (14, [.null, .null, .null, .null, .null, .null, .int 0, .null, .null, .null, .long 0, .null, .int 0, .int 0, .int 0, .int 0, .int 0, .int 0, .int 0, .null, .null])), (q_1, .inl (cA_2, 64, .inl (upd (upd (upd (upd (upd f_13 56 345) 57 346) 58 347) 59 330) 60 331)))] H := hP
  have hD : va_D A [(h0, .inr (14, [.null, .null, .null, .null, .null, .null, .int 0, .null, .null, .null, .long 0, .null, .int 0, .int 0, .int 0, .int 0, .int 0, .int 0, .int 0, .null, .null])), (q_1, .inl (cA_2, 64, .inl (upd (upd (upd (upd (upd f_13 56 345) 57 346) 58 347) 59 330) 60 331)))] := hD
  rw [← ef_14] at hP hD
  have hP : va_P (dC, dI) vcl [(h0, .inr (14, [.null, .null, .null, .null, .null, .null, .int 0, .null, .null, .null, .long 0, .null, .int 0, .int 0, .int 0, .int 0, .int 0, .int 0, .int 0, .null, .null])), (q_1, .inl (cA_2, 64, .inl f_14))] H := hP
  have hD : va_D A [(h0, .inr (14, [.null, .null, .null, .null, .null, .null, .int 0, .null, .null, .null, .long 0, .null, .int 0, .int 0, .int 0, .int 0, .int 0, .int 0, .int 0, .null, .null])), (q_1, .inl (cA_2, 64, .inl f_14))] := hD
  refine lv_dup hx hb d_mLines_init_413 rfl ?_
  refine lv_bipush (v := 61) hx hb d_mLines_init_414 (by decide) ?_
  refine lv_sipush (v := 306) hx hb d_mLines_init_416 (by decide) ?_
  refine va_iast hx hb hK hP hD hS 1 0 rfl rfl (show ¬ ((61 : Int32) < 0 ∨ 64 ≤ (61 : Int32).toNatClampNeg) by decide) d_mLines_init_419 (fun H locs hP hD hS => ?_)
  rw [show (61 : Int32).toNatClampNeg = 61 by decide] at hP hD
  have hP : va_P (dC, dI) vcl [(h0, .inr (14, [.null, .null, .null, .null, .null, .null, .int 0, .null, .null, .null, .long 0, .null, .int 0, .int 0, .int 0, .int 0, .int 0, .int 0, .int 0, .null, .null])), (q_1, .inl (cA_2, 64, .inl (upd f_14 61 306)))] H := hP
  have hD : va_D A [(h0, .inr (14, [.null, .null, .null, .null, .null, .null, .int 0, .null, .null, .null, .long 0, .null, .int 0, .int 0, .int 0, .int 0, .int 0, .int 0, .int 0, .null, .null])), (q_1, .inl (cA_2, 64, .inl (upd f_14 61 306)))] := hD
  refine lv_dup hx hb d_mLines_init_420 rfl ?_
  refine lv_bipush (v := 62) hx hb d_mLines_init_421 (by decide) ?_
  refine lv_sipush (v := 307) hx hb d_mLines_init_423 (by decide) ?_
  refine va_iast hx hb hK hP hD hS 1 0 rfl rfl (show ¬ ((62 : Int32) < 0 ∨ 64 ≤ (62 : Int32).toNatClampNeg) by decide) d_mLines_init_426 (fun H locs hP hD hS => ?_)
  rw [show (62 : Int32).toNatClampNeg = 62 by decide] at hP hD
  have hP : va_P (dC, dI) vcl [(h0, .inr (14, [.null, .null, .null, .null, .null, .null, .int 0, .null, .null, .null, .long 0, .null, .int 0, .int 0, .int 0, .int 0, .int 0, .int 0, .int 0, .null, .null])), (q_1, .inl (cA_2, 64, .inl (upd (upd f_14 61 306) 62 307)))] H := hP
  have hD : va_D A [(h0, .inr (14, [.null, .null, .null, .null, .null, .null, .int 0, .null, .null, .null, .long 0, .null, .int 0, .int 0, .int 0, .int 0, .int 0, .int 0, .int 0, .null, .null])), (q_1, .inl (cA_2, 64, .inl (upd (upd f_14 61 306) 62 307)))] := hD
  refine lv_dup hx hb d_mLines_init_427 rfl ?_
  refine lv_bipush (v := 63) hx hb d_mLines_init_428 (by decide) ?_
  refine lv_sipush (v := 308) hx hb d_mLines_init_430 (by decide) ?_
  refine va_iast hx hb hK hP hD hS 1 0 rfl rfl (show ¬ ((63 : Int32) < 0 ∨ 64 ≤ (63 : Int32).toNatClampNeg) by decide) d_mLines_init_433 (fun H locs hP hD hS => ?_)
  rw [show (63 : Int32).toNatClampNeg = 63 by decide] at hP hD
  have hP : va_P (dC, dI) vcl [(h0, .inr (14, [.null, .null, .null, .null, .null, .null, .int 0, .null, .null, .null, .long 0, .null, .int 0, .int 0, .int 0, .int 0, .int 0, .int 0, .int 0, .null, .null])), (q_1, .inl (cA_2, 64, .inl (upd (upd (upd f_14 61 306) 62 307) 63 308)))] H := hP
  have hD : va_D A [(h0, .inr (14, [.null, .null, .null, .null, .null, .null, .int 0, .null, .null, .null, .long 0, .null, .int 0, .int 0, .int 0, .int 0, .int 0, .int 0, .int 0, .null, .null])), (q_1, .inl (cA_2, 64, .inl (upd (upd (upd f_14 61 306) 62 307) 63 308)))] := hD
  refine va_putF (D := (dC, dI)) (ci := 14) (v := .ref q_1) (ty := (.array .int)) (C := R_mLines) (T := F_mLines) (N := 21) hx hb hwd i_mLines t_mLines to_mLines no_mLines hown hK hP hD hS 0 rfl rfl 0 (by decide) (hwd _ wd_10_83) (fun _ h9 => h9) rfl hin rfl (by decide +kernel) rfl rfl (Nat.le_of_ble_eq_true rfl) d_mLines_init_434 (fun H locs hP hD hS => ?_)
  have hP : va_P (dC, dI) vcl [(h0, .inr (14, [.ref q_1, .null, .null, .null, .null, .null, .int 0, .null, .null, .null, .long 0, .null, .int 0, .int 0, .int 0, .int 0, .int 0, .int 0, .int 0, .null, .null])), (q_1, .inl (cA_2, 64, .inl (upd (upd (upd f_14 61 306) 62 307) 63 308)))] H := hP
  have hD : va_D A [(h0, .inr (14, [.ref q_1, .null, .null, .null, .null, .null, .int 0, .null, .null, .null, .long 0, .null, .int 0, .int 0, .int 0, .int 0, .int 0, .int 0, .int 0, .null, .null])), (q_1, .inl (cA_2, 64, .inl (upd (upd (upd f_14 61 306) 62 307) 63 308)))] := hD
  refine lv_aload_n hx hb d_mLines_init_437 rfl (lv_at hl 0 rfl) ?_
  refine lv_bipush (v := 64) hx hb d_mLines_init_438 (by decide) ?_
  refine va_newa (atype := .int) (N' := 64) (a0 := (64, .inl (fun _ => 0))) (ty := .int) (n := 64) hx hb (hwd _ wd_1_167) rfl hK hP hD hS hA (fun _ => rfl) (by decide) (by decide) (by decide) (Nat.le_of_ble_eq_true rfl) (Nat.le_of_ble_eq_true rfl) d_mLines_init_440 (fun q_15 cA_16 H hK hP hD hS => ?_)
  have hP : va_P (dC, dI) vcl [(h0, .inr (14, [.ref q_1, .null, .null, .null, .null, .null, .int 0, .null, .null, .null, .long 0, .null, .int 0, .int 0, .int 0, .int 0, .int 0, .int 0, .int 0, .null, .null])), (q_1, .inl (cA_2, 64, .inl (upd (upd (upd f_14 61 306) 62 307) 63 308))), (q_15, .inl (cA_16, 64, .inl (fun _ => 0)))] H := hP
  have hD : va_D A [(h0, .inr (14, [.ref q_1, .null, .null, .null, .null, .null, .int 0, .null, .null, .null, .long 0, .null, .int 0, .int 0, .int 0, .int 0, .int 0, .int 0, .int 0, .null, .null])), (q_1, .inl (cA_2, 64, .inl (upd (upd (upd f_14 61 306) 62 307) 63 308))), (q_15, .inl (cA_16, 64, .inl (fun _ => 0)))] := hD
  have hK : va_K (dC, dI) vcl [(cA_2, .int), (cA_16, .int)] s := hK
  refine W.widen (k := 2) (n := 128) (by decide) (by decide) ?_
  refine lv_dup hx hb d_mLines_init_442 rfl ?_
  refine lv_iconst (v := 0) hx hb d_mLines_init_443 (by decide) ?_
  refine lv_sipush (v := 1079) hx hb d_mLines_init_444 (by decide) ?_
  refine va_iast hx hb hK hP hD hS 2 1 rfl rfl (show ¬ ((0 : Int32) < 0 ∨ 64 ≤ (0 : Int32).toNatClampNeg) by decide) d_mLines_init_447 (fun H locs hP hD hS => ?_)
  rw [show (0 : Int32).toNatClampNeg = 0 by decide] at hP hD
  have hP : va_P (dC, dI) vcl [(h0, .inr (14, [.ref q_1, .null, .null, .null, .null, .null, .int 0, .null, .null, .null, .long 0, .null, .int 0, .int 0, .int 0, .int 0, .int 0, .int 0, .int 0, .null, .null])), (q_1, .inl (cA_2, 64, .inl (upd (upd (upd f_14 61 306) 62 307) 63 308))), (q_15, .inl (cA_16, 64, .inl (upd (fun _ => 0) 0 1079)))] H := hP
  have hD : va_D A [(h0, .inr (14, [.ref q_1, .null, .null, .null, .null, .null, .int 0, .null, .null, .null, .long 0, .null, .int 0, .int 0, .int 0, .int 0, .int 0, .int 0, .int 0, .null, .null])), (q_1, .inl (cA_2, 64, .inl (upd (upd (upd f_14 61 306) 62 307) 63 308))), (q_15, .inl (cA_16, 64, .inl (upd (fun _ => 0) 0 1079)))] := hD
  refine lv_dup hx hb d_mLines_init_448 rfl ?_
  refine lv_iconst (v := 1) hx hb d_mLines_init_449 (by decide) ?_
  refine lv_bipush (v := 10) hx hb d_mLines_init_450 (by decide) ?_
  refine va_iast hx hb hK hP hD hS 2 1 rfl rfl (show ¬ ((1 : Int32) < 0 ∨ 64 ≤ (1 : Int32).toNatClampNeg) by decide) d_mLines_init_452 (fun H locs hP hD hS => ?_)
  rw [show (1 : Int32).toNatClampNeg = 1 by decide] at hP hD
  have hP : va_P (dC, dI) vcl [(h0, .inr (14, [.ref q_1, .null, .null, .null, .null, .null, .int 0, .null, .null, .null, .long 0, .null, .int 0, .int 0, .int 0, .int 0, .int 0, .int 0, .int 0, .null, .null])), (q_1, .inl (cA_2, 64, .inl (upd (upd (upd f_14 61 306) 62 307) 63 308))), (q_15, .inl (cA_16, 64, .inl (upd (upd (fun _ => 0) 0 1079) 1 10)))] H := hP
  have hD : va_D A [(h0, .inr (14, [.ref q_1, .null, .null, .null, .null, .null, .int 0, .null, .null, .null, .long 0, .null, .int 0, .int 0, .int 0, .int 0, .int 0, .int 0, .int 0, .null, .null])), (q_1, .inl (cA_2, 64, .inl (upd (upd (upd f_14 61 306) 62 307) 63 308))), (q_15, .inl (cA_16, 64, .inl (upd (upd (fun _ => 0) 0 1079) 1 10)))] := hD
  refine lv_dup hx hb d_mLines_init_453 rfl ?_
  refine lv_iconst (v := 2) hx hb d_mLines_init_454 (by decide) ?_
  refine lv_bipush (v := 7) hx hb d_mLines_init_455 (by decide) ?_
  refine va_iast hx hb hK hP hD hS 2 1 rfl rfl (show ¬ ((2 : Int32) < 0 ∨ 64 ≤ (2 : Int32).toNatClampNeg) by decide) d_mLines_init_457 (fun H locs hP hD hS => ?_)
  rw [show (2 : Int32).toNatClampNeg = 2 by decide] at hP hD
  have hP : va_P (dC, dI) vcl [(h0, .inr (14, [.ref q_1, .null, .null, .null, .null, .null, .int 0, .null, .null, .null, .long 0, .null, .int 0, .int 0, .int 0, .int 0, .int 0, .int 0, .int 0, .null, .null])), (q_1, .inl (cA_2, 64, .inl (upd (upd (upd f_14 61 306) 62 307) 63 308))), (q_15, .inl (cA_16, 64, .inl (upd (upd (upd (fun _ => 0) 0 1079) 1 10) 2 7)))] H := hP
  have hD : va_D A [(h0, .inr (14, [.ref q_1, .null, .null, .null, .null, .null, .int 0, .null, .null, .null, .long 0, .null, .int 0, .int 0, .int 0, .int 0, .int 0, .int 0, .int 0, .null, .null])), (q_1, .inl (cA_2, 64, .inl (upd (upd (upd f_14 61 306) 62 307) 63 308))), (q_15, .inl (cA_16, 64, .inl (upd (upd (upd (fun _ => 0) 0 1079) 1 10) 2 7)))] := hD
  refine lv_dup hx hb d_mLines_init_458 rfl ?_
  refine lv_iconst (v := 3) hx hb d_mLines_init_459 (by decide) ?_
  refine lv_bipush (v := 6) hx hb d_mLines_init_460 (by decide) ?_
  refine va_iast hx hb hK hP hD hS 2 1 rfl rfl (show ¬ ((3 : Int32) < 0 ∨ 64 ≤ (3 : Int32).toNatClampNeg) by decide) d_mLines_init_462 (fun H locs hP hD hS => ?_)
  rw [show (3 : Int32).toNatClampNeg = 3 by decide] at hP hD
  have hP : va_P (dC, dI) vcl [(h0, .inr (14, [.ref q_1, .null, .null, .null, .null, .null, .int 0, .null, .null, .null, .long 0, .null, .int 0, .int 0, .int 0, .int 0, .int 0, .int 0, .int 0, .null, .null])), (q_1, .inl (cA_2, 64, .inl (upd (upd (upd f_14 61 306) 62 307) 63 308))), (q_15, .inl (cA_16, 64, .inl (upd (upd (upd (upd (fun _ => 0) 0 1079) 1 10) 2 7) 3 6)))] H := hP
  have hD : va_D A [(h0, .inr (14, [.ref q_1, .null, .null, .null, .null, .null, .int 0, .null, .null, .null, .long 0, .null, .int 0, .int 0, .int 0, .int 0, .int 0, .int 0, .int 0, .null, .null])), (q_1, .inl (cA_2, 64, .inl (upd (upd (upd f_14 61 306) 62 307) 63 308))), (q_15, .inl (cA_16, 64, .inl (upd (upd (upd (upd (fun _ => 0) 0 1079) 1 10) 2 7) 3 6)))] := hD
  refine lv_dup hx hb d_mLines_init_463 rfl ?_
  refine lv_iconst (v := 4) hx hb d_mLines_init_464 (by decide) ?_
  refine lv_bipush (v := 11) hx hb d_mLines_init_465 (by decide) ?_
  refine va_iast hx hb hK hP hD hS 2 1 rfl rfl (show ¬ ((4 : Int32) < 0 ∨ 64 ≤ (4 : Int32).toNatClampNeg) by decide) d_mLines_init_467 (fun H locs hP hD hS => ?_)
  rw [show (4 : Int32).toNatClampNeg = 4 by decide] at hP hD
  obtain ⟨f_17, ef_17⟩ : ∃ y : Nat → Int32, y = upd (upd (upd (upd (upd (fun _ => 0) 0 1079) 1 10) 2 7) 3 6) 4 11 := ⟨_, rfl⟩
  have hP : va_P (dC, dI) vcl [(h0, .inr (14, [.ref q_1, .null, .null, .null, .null, .null, .int 0, .null, .null, .null, .long 0, .null, .int 0, .int 0, .int 0, .int 0, .int 0, .int 0, .int 0, .null, .null])), (q_1, .inl (cA_2, 64, .inl (upd (upd (upd f_14 61 306) 62 307) 63 308))), (q_15, .inl (cA_16, 64, .inl (upd (upd (upd (upd (upd (fun _ => 0) 0 1079) 1 10) 2 7) 3 6) 4 11)))] H := hP
  have hD : va_D A [(h0, .inr (14, [.ref q_1, .null, .null, .null, .null, .null, .int 0, .null, .null, .null, .long 0, .null, .int 0, .int 0, .int 0, .int 0, .int 0, .int 0, .int 0, .null, .null])), (q_1, .inl (cA_2, 64, .inl (upd (upd (upd f_14 61 306) 62 307) 63 308))), (q_15, .inl (cA_16, 64, .inl (upd (upd (upd (upd (upd (fun _ => 0) 0 1079) 1 10) 2 7) 3 6) 4 11)))] := hD
  rw [← ef_17] at hP hD
  have hP : va_P (dC, dI) vcl [(h0, .inr (14, [.ref q_1, .null, .null, .null, .null, .null, .int 0, .null, .null, .null, .long 0, .null, .int 0, .int 0, .int 0, .int 0, .int 0, .int 0, .int 0, .null, .null])), (q_1, .inl (cA_2, 64, .inl (upd (upd (upd f_14 61 306) 62 307) 63 308))), (q_15, .inl (cA_16, 64, .inl f_17))] H := hP
  have hD : va_D A [(h0, .inr (14, [.ref q_1, .null, .null, .null, .null, .null, .int 0, .null, .null, .null, .long 0, .null, .int 0, .int 0, .int 0, .int 0, .int 0, .int 0, .int 0, .null, .null])), (q_1, .inl (cA_2, 64, .inl (upd (upd (upd f_14 61 306) 62 307) 63 308))), (q_15, .inl (cA_16, 64, .inl f_17))] := hD
  refine lv_dup hx hb d_mLines_init_468 rfl ?_
  refine lv_iconst (v := 5) hx hb d_mLines_init_469 (by decide) ?_
  refine lv_bipush (v := 19) hx hb d_mLines_init_470 (by decide) ?_
  refine va_iast hx hb hK hP hD hS 2 1 rfl rfl (show ¬ ((5 : Int32) < 0 ∨ 64 ≤ (5 : Int32).toNatClampNeg) by decide) d_mLines_init_472 (fun H locs hP hD hS => ?_)
  rw [show (5 : Int32).toNatClampNeg = 5 by decide] at hP hD
  have hP : va_P (dC, dI) vcl [(h0, .inr (14, [.ref q_1, .null, .null, .null, .null, .null, .int 0, .null, .null, .null, .long 0, .null, .int 0, .int 0, .int 0, .int 0, .int 0, .int 0, .int 0, .null, .null])), (q_1, .inl (cA_2, 64, .inl (upd (upd (upd f_14 61 306) 62 307) 63 308))), (q_15, .inl (cA_16, 64, .inl (upd f_17 5 19)))] H := hP
  have hD : va_D A [(h0, .inr (14, [.ref q_1, .null, .null, .null, .null, .null, .int 0, .null, .null, .null, .long 0, .null, .int 0, .int 0, .int 0, .int 0, .int 0, .int 0, .int 0, .null, .null])), (q_1, .inl (cA_2, 64, .inl (upd (upd (upd f_14 61 306) 62 307) 63 308))), (q_15, .inl (cA_16, 64, .inl (upd f_17 5 19)))] := hD
  refine lv_dup hx hb d_mLines_init_473 rfl ?_
  refine lv_bipush (v := 6) hx hb d_mLines_init_474 (by decide) ?_
  refine lv_bipush (v := 18) hx hb d_mLines_init_476 (by decide) ?_
  refine va_iast hx hb hK hP hD hS 2 1 rfl rfl (show ¬ ((6 : Int32) < 0 ∨ 64 ≤ (6 : Int32).toNatClampNeg) by decide) d_mLines_init_478 (fun H locs hP hD hS => ?_)
  rw [show (6 : Int32).toNatClampNeg = 6 by decide] at hP hD
  have hP : va_P (dC, dI) vcl [(h0, .inr (14, [.ref q_1, .null, .null, .null, .null, .null, .int 0, .null, .null, .null, .long 0, .null, .int 0, .int 0, .int 0, .int 0, .int 0, .int 0, .int 0, .null, .null])), (q_1, .inl (cA_2, 64, .inl (upd (upd (upd f_14 61 306) 62 307) 63 308))), (q_15, .inl (cA_16, 64, .inl (upd (upd f_17 5 19) 6 18)))] H := hP
  have hD : va_D A [(h0, .inr (14, [.ref q_1, .null, .null, .null, .null, .null, .int 0, .null, .null, .null, .long 0, .null, .int 0, .int 0, .int 0, .int 0, .int 0, .int 0, .int 0, .null, .null])), (q_1, .inl (cA_2, 64, .inl (upd (upd (upd f_14 61 306) 62 307) 63 308))), (q_15, .inl (cA_16, 64, .inl (upd (upd f_17 5 19) 6 18)))] := hD
  refine lv_dup hx hb d_mLines_init_479 rfl ?_
  refine lv_bipush (v := 7) hx hb d_mLines_init_480 (by decide) ?_
  refine lv_bipush (v := 35) hx hb d_mLines_init_482 (by decide) ?_
  refine va_iast hx hb hK hP hD hS 2 1 rfl rfl (show ¬ ((7 : Int32) < 0 ∨ 64 ≤ (7 : Int32).toNatClampNeg) by decide) d_mLines_init_484 (fun H locs hP hD hS => ?_)
  rw [show (7 : Int32).toNatClampNeg = 7 by decide] at hP hD
  have hP : va_P (dC, dI) vcl [(h0, .inr (14, [.ref q_1, .null, .null, .null, .null, .null, .int 0, .null, .null, .null, .long 0, .null, .int 0, .int 0, .int 0, .int 0, .int 0, .int 0, .int 0, .null, .null])), (q_1, .inl (cA_2, 64, .inl (upd (upd (upd f_14 61 306) 62 307) 63 308))), (q_15, .inl (cA_16, 64, .inl (upd (upd (upd f_17 5 19) 6 18) 7 35)))] H := hP
  have hD : va_D A [(h0, .inr (14, [.ref q_1, .null, .null, .null, .null, .null, .int 0, .null, .null, .null, .long 0, .null, .int 0, .int 0, .int 0, .int 0, .int 0, .int 0, .int 0, .null, .null])), (q_1, .inl (cA_2, 64, .inl (upd (upd (upd f_14 61 306) 62 307) 63 308))), (q_15, .inl (cA_16, 64, .inl (upd (upd (upd f_17 5 19) 6 18) 7 35)))] := hD
  refine lv_dup hx hb d_mLines_init_485 rfl ?_
  refine lv_bipush (v := 8) hx hb d_mLines_init_486 (by decide) ?_
  refine lv_bipush (v := 69) hx hb d_mLines_init_488 (by decide) ?_
  refine va_iast hx hb hK hP hD hS 2 1 rfl rfl (show ¬ ((8 : Int32) < 0 ∨ 64 ≤ (8 : Int32).toNatClampNeg) by decide) d_mLines_init_490 (fun H locs hP hD hS => ?_)
  rw [show (8 : Int32).toNatClampNeg = 8 by decide] at hP hD
  have hP : va_P (dC, dI) vcl [(h0, .inr (14, [.ref q_1, .null, .null, .null, .null, .null, .int 0, .null, .null, .null, .long 0, .null, .int 0, .int 0, .int 0, .int 0, .int 0, .int 0, .int 0, .null, .null])), (q_1, .inl (cA_2, 64, .inl (upd (upd (upd f_14 61 306) 62 307) 63 308))), (q_15, .inl (cA_16, 64, .inl (upd (upd (upd (upd f_17 5 19) 6 18) 7 35) 8 69)))] H := hP
  have hD : va_D A [(h0, .inr (14, [.ref q_1, .null, .null, .null, .null, .null, .int 0, .null, .null, .null, .long 0, .null, .int 0, .int 0, .int 0, .int 0, .int 0, .int 0, .int 0, .null, .null])), (q_1, .inl (cA_2, 64, .inl (upd (upd (upd f_14 61 306) 62 307) 63 308))), (q_15, .inl (cA_16, 64, .inl (upd (upd (upd (upd f_17 5 19) 6 18) 7 35) 8 69)))] := hD
  refine lv_dup hx hb d_mLines_init_491 rfl ?_
  refine lv_bipush (v := 9) hx hb d_mLines_init_492 (by decide) ?_
  refine lv_bipush (v := 68) hx hb d_mLines_init_494 (by decide) ?_
  refine va_iast hx hb hK hP hD hS 2 1 rfl rfl (show ¬ ((9 : Int32) < 0 ∨ 64 ≤ (9 : Int32).toNatClampNeg) by decide) d_mLines_init_496 (fun H locs hP hD hS => ?_)
  rw [show (9 : Int32).toNatClampNeg = 9 by decide] at hP hD
  have hP : va_P (dC, dI) vcl [(h0, .inr (14, [.ref q_1, .null, .null, .null, .null, .null, .int 0, .null, .null, .null, .long 0, .null, .int 0, .int 0, .int 0, .int 0, .int 0, .int 0, .int 0, .null, .null])), (q_1, .inl (cA_2, 64, .inl (upd (upd (upd f_14 61 306) 62 307) 63 308))), (q_15, .inl (cA_16, 64, .inl (upd (upd (upd (upd (upd f_17 5 19) 6 18) 7 35) 8 69) 9 68)))] H := hP
  have hD : va_D A [(h0, .inr (14, [.ref q_1, .null, .null, .null, .null, .null, .int 0, .null, .null, .null, .long 0, .null, .int 0, .int 0, .int 0, .int 0, .int 0, .int 0, .int 0, .null, .null])), (q_1, .inl (cA_2, 64, .inl (upd (upd (upd f_14 61 306) 62 307) 63 308))), (q_15, .inl (cA_16, 64, .inl (upd (upd (upd (upd (upd f_17 5 19) 6 18) 7 35) 8 69) 9 68)))] := hD
  refine lv_dup hx hb d_mLines_init_497 rfl ?_
  refine lv_bipush (v := 10) hx hb d_mLines_init_498 (by decide) ?_
  refine lv_sipush (v := 132) hx hb d_mLines_init_500 (by decide) ?_
  refine va_iast hx hb hK hP hD hS 2 1 rfl rfl (show ¬ ((10 : Int32) < 0 ∨ 64 ≤ (10 : Int32).toNatClampNeg) by decide) d_mLines_init_503 (fun H locs hP hD hS => ?_)
  rw [show (10 : Int32).toNatClampNeg = 10 by decide] at hP hD
  obtain ⟨f_18, ef_18⟩ : ∃ y : Nat → Int32, y = upd (upd (upd (upd (upd (upd f_17 5 19) 6 18) 7 35) 8 69) 9 68) 10 132 := ⟨_, rfl⟩
  have hP : va_P (dC, dI) vcl [(h0, .inr (14, [.ref q_1, .null, .null, .null, .null, .null, .int 0, .null, .null, .null, .long 0, .null, .int 0, .int 0, .int 0, .int 0, .int 0, .int 0, .int 0, .null, .null])), (q_1, .inl (cA_2, 64, .inl (upd (upd (upd f_14 61 306) 62 307) 63 308))), (q_15, .inl (cA_16, 64, .inl (upd (upd (upd (upd (upd (upd f_17 5 19) 6 18) 7 35) 8 69) 9 68) 10 132)))] H := hP
  have hD : va_D A [(h0, .inr (14, [.ref q_1, .null, .null, .null, .null, .null, .int 0, .null, .null, .null, .long 0, .null, .int 0, .int 0, .int 0, .int 0, .int 0, .int 0, .int 0, .null, .null])), (q_1, .inl (cA_2, 64, .inl (upd (upd (upd f_14 61 306) 62 307) 63 308))), (q_15, .inl (cA_16, 64, .inl (upd (upd (upd (upd (upd (upd f_17 5 19) 6 18) 7 35) 8 69) 9 68) 10 132)))] := hD
  rw [← ef_18] at hP hD
  have hP : va_P (dC, dI) vcl [(h0, .inr (14, [.ref q_1, .null, .null, .null, .null, .null, .int 0, .null, .null, .null, .long 0, .null, .int 0, .int 0, .int 0, .int 0, .int 0, .int 0, .int 0, .null, .null])), (q_1, .inl (cA_2, 64, .inl (upd (upd (upd f_14 61 306) 62 307) 63 308))), (q_15, .inl (cA_16, 64, .inl f_18))] H := hP
  have hD : va_D A [(h0, .inr (14, [.ref q_1, .null, .null, .null, .null, .null, .int 0, .null, .null, .null, .long 0, .null, .int 0, .int 0, .int 0, .int 0, .int 0, .int 0, .int 0, .null, .null])), (q_1, .inl (cA_2, 64, .inl (upd (upd (upd f_14 61 306) 62 307) 63 308))), (q_15, .inl (cA_16, 64, .inl f_18))] := hD
  refine lv_dup hx hb d_mLines_init_504 rfl ?_
  refine lv_bipush (v := 11) hx hb d_mLines_init_505 (by decide) ?_
  refine lv_sipush (v := 133) hx hb d_mLines_init_507 (by decide) ?_
  refine va_iast hx hb hK hP hD hS 2 1 rfl rfl (show ¬ ((11 : Int32) < 0 ∨ 64 ≤ (11 : Int32).toNatClampNeg) by decide) d_mLines_init_510 (fun H locs hP hD hS => ?_)
  rw [show (11 : Int32).toNatClampNeg = 11 by decide] at hP hD
  have hP : va_P (dC, dI) vcl [(h0, .inr (14, [.ref q_1, .null, .null, .null, .null, .null, .int 0, .null, .null, .null, .long 0, .null, .int 0, .int 0, .int 0, .int 0, .int 0, .int 0, .int 0, .null, .null])), (q_1, .inl (cA_2, 64, .inl (upd (upd (upd f_14 61 306) 62 307) 63 308))), (q_15, .inl (cA_16, 64, .inl (upd f_18 11 133)))] H := hP
  have hD : va_D A [(h0, .inr (14, [.ref q_1, .null, .null, .null, .null, .null, .int 0, .null, .null, .null, .long 0, .null, .int 0, .int 0, .int 0, .int 0, .int 0, .int 0, .int 0, .null, .null])), (q_1, .inl (cA_2, 64, .inl (upd (upd (upd f_14 61 306) 62 307) 63 308))), (q_15, .inl (cA_16, 64, .inl (upd f_18 11 133)))] := hD
  refine lv_dup hx hb d_mLines_init_511 rfl ?_
  refine lv_bipush (v := 12) hx hb d_mLines_init_512 (by decide) ?_
  refine lv_sipush (v := 135) hx hb d_mLines_init_514 (by decide) ?_
  refine va_iast hx hb hK hP hD hS 2 1 rfl rfl (show ¬ ((12 : Int32) < 0 ∨ 64 ≤ (12 : Int32).toNatClampNeg) by decide) d_mLines_init_517 (fun H locs hP hD hS => ?_)
  rw [show (12 : Int32).toNatClampNeg = 12 by decide] at hP hD
  have hP : va_P (dC, dI) vcl [(h0, .inr (14, [.ref q_1, .null, .null, .null, .null, .null, .int 0, .null, .null, .null, .long 0, .null, .int 0, .int 0, .int 0, .int 0, .int 0, .int 0, .int 0, .null, .null])), (q_1, .inl (cA_2, 64, .inl (upd (upd (upd f_14 61 306) 62 307) 63 308))), (q_15, .inl (cA_16, 64, .inl (upd (upd f_18 11 133) 12 135)))] H := hP
  have hD : va_D A [(h0, .inr (14, [.ref q_1, .null, .null, .null, .null, .null, .int 0, .null, .null, .null, .long 0, .null, .int 0, .int 0, .int 0, .int 0, .int 0, .int 0, .int 0, .null, .null])), (q_1, .inl (cA_2, 64, .inl (upd (upd (upd f_14 61 306) 62 307) 63 308))), (q_15, .inl (cA_16, 64, .inl (upd (upd f_18 11 133) 12 135)))] := hD
  refine lv_dup hx hb d_mLines_init_518 rfl ?_
  refine lv_bipush (v := 13) hx hb d_mLines_init_519 (by decide) ?_
  refine lv_sipush (v := 260) hx hb d_mLines_init_521 (by decide) ?_
  refine va_iast hx hb hK hP hD hS 2 1 rfl rfl (show ¬ ((13 : Int32) < 0 ∨ 64 ≤ (13 : Int32).toNatClampNeg) by decide) d_mLines_init_524 (fun H locs hP hD hS => ?_)
  rw [show (13 : Int32).toNatClampNeg = 13 by decide] at hP hD
  have hP : va_P (dC, dI) vcl [(h0, .inr (14, [.ref q_1, .null, .null, .null, .null, .null, .int 0, .null, .null, .null, .long 0, .null, .int 0, .int 0, .int 0, .int 0, .int 0, .int 0, .int 0, .null, .null])), (q_1, .inl (cA_2, 64, .inl (upd (upd (upd f_14 61 306) 62 307) 63 308))), (q_15, .inl (cA_16, 64, .inl (upd (upd (upd f_18 11 133) 12 135) 13 260)))] H := hP
  have hD : va_D A [(h0, .inr (14, [.ref q_1, .null, .null, .null, .null, .null, .int 0, .null, .null, .null, .long 0, .null, .int 0, .int 0, .int 0, .int 0, .int 0, .int 0, .int 0, .null, .null])), (q_1, .inl (cA_2, 64, .inl (upd (upd (upd f_14 61 306) 62 307) 63 308))), (q_15, .inl (cA_16, 64, .inl (upd (upd (upd f_18 11 133) 12 135) 13 260)))] := hD
  refine lv_dup hx hb d_mLines_init_525 rfl ?_
  refine lv_bipush (v := 14) hx hb d_mLines_init_526 (by decide) ?_
  refine lv_sipush (v := 263) hx hb d_mLines_init_528 (by decide) ?_
  refine va_iast hx hb hK hP hD hS 2 1 rfl rfl (show ¬ ((14 : Int32) < 0 ∨ 64 ≤ (14 : Int32).toNatClampNeg) by decide) d_mLines_init_531 (fun H locs hP hD hS => ?_)
  rw [show (14 : Int32).toNatClampNeg = 14 by decide] at hP hD
  have hP : va_P (dC, dI) vcl [(h0, .inr (14, [.ref q_1, .null, .null, .null, .null, .null, .int 0, .null, .null, .null, .long 0, .null, .int 0, .int 0, .int 0, .int 0, .int 0, .int 0, .int 0, .null, .null])), (q_1, .inl (cA_2, 64, .inl (upd (upd (upd f_14 61 306) 62 307) 63 308))), (q_15, .inl (cA_16, 64, .inl (upd (upd (upd (upd f_18 11 133) 12 135) 13 260) 14 263)))] H := hP
  have hD : va_D A [(h0, .inr (14, [.ref q_1, .null, .null, .null, .null, .null, .int 0, .null, .null, .null, .long 0, .null, .int 0, .int 0, .int 0, .int 0, .int 0, .int 0, .int 0, .null, .null])), (q_1, .inl (cA_2, 64, .inl (upd (upd (upd f_14 61 306) 62 307) 63 308))), (q_15, .inl (cA_16, 64, .inl (upd (upd (upd (upd f_18 11 133) 12 135) 13 260) 14 263)))] := hD
  refine lv_dup hx hb d_mLines_init_532 rfl ?_
  refine lv_bipush (v := 15) hx hb d_mLines_init_533 (by decide) ?_
  refine lv_sipush (v := 536) hx hb d_mLines_init_535 (by decide) ?_
  refine va_iast hx hb hK hP hD hS 2 1 rfl rfl (show ¬ ((15 : Int32) < 0 ∨ 64 ≤ (15 : Int32).toNatClampNeg) by decide) d_mLines_init_538 (fun H locs hP hD hS => ?_)
  rw [show (15 : Int32).toNatClampNeg = 15 by decide] at hP hD
  obtain ⟨f_19, ef_19⟩ : ∃ y : Nat → Int32, y = upd (upd (upd (upd (upd f_18 11 133) 12 135) 13 260) 14 263) 15 536 := ⟨_, rfl⟩
  have hP : va_P (dC, dI) vcl [(h0, .inr (14, [.ref q_1, .null, .null, .null, .null, .null, .int 0, .null, .null, .null, .long 0, .null, .int 0, .int 0, .int 0, .int 0, .int 0, .int 0, .int 0, .null, .null])), (q_1, .inl (cA_2, 64, .inl (upd (upd (upd f_14 61 306) 62 307) 63 308))), (q_15, .inl (cA_16, 64, .inl (upd (upd (upd (upd (upd f_18 11 133) 12 135) 13 260) 14 263) 15 536)))] H := hP
  have hD : va_D A [(h0, .inr (14, [.ref q_1, .null, .null, .null, .null, .null, .int 0, .null, .null, .null, .long 0, .null, .int 0, .int 0, .int 0, .int 0, .int 0, .int 0, .int 0, .null, .null])), (q_1, .inl (cA_2, 64, .inl (upd (upd (upd f_14 61 306) 62 307) 63 308))), (q_15, .inl (cA_16, 64, .inl (upd (upd (upd (upd (upd f_18 11 133) 12 135) 13 260) 14 263) 15 536)))] := hD
  rw [← ef_19] at hP hD
  have hP : va_P (dC, dI) vcl [(h0, .inr (14, [.ref q_1, .null, .null, .null, .null, .null, .int 0, .null, .null, .null, .long 0, .null, .int 0, .int 0, .int 0, .int 0, .int 0, .int 0, .int 0, .null, .null])), (q_1, .inl (cA_2, 64, .inl (upd (upd (upd f_14 61 306) 62 307) 63 308))), (q_15, .inl (cA_16, 64, .inl f_19))] H := hP
  have hD : va_D A [(h0, .inr (14, [.ref q_1, .null, .null, .null, .null, .null, .int 0, .null, .null, .null, .long 0, .null, .int 0, .int 0, .int 0, .int 0, .int 0, .int 0, .int 0, .null, .null])), (q_1, .inl (cA_2, 64, .inl (upd (upd (upd f_14 61 306) 62 307) 63 308))), (q_15, .inl (cA_16, 64, .inl f_19))] := hD
  refine lv_dup hx hb d_mLines_init_539 rfl ?_
  refine lv_bipush (v := 16) hx hb d_mLines_init_540 (by decide) ?_
  refine lv_sipush (v := 1047) hx hb d_mLines_init_542 (by decide) ?_
  refine va_iast hx hb hK hP hD hS 2 1 rfl rfl (show ¬ ((16 : Int32) < 0 ∨ 64 ≤ (16 : Int32).toNatClampNeg) by decide) d_mLines_init_545 (fun H locs hP hD hS => ?_)
  rw [show (16 : Int32).toNatClampNeg = 16 by decide] at hP hD
  have hP : va_P (dC, dI) vcl [(h0, .inr (14, [.ref q_1, .null, .null, .null, .null, .null, .int 0, .null, .null, .null, .long 0, .null, .int 0, .int 0, .int 0, .int 0, .int 0, .int 0, .int 0, .null, .null])), (q_1, .inl (cA_2, 64, .inl (upd (upd (upd f_14 61 306) 62 307) 63 308))), (q_15, .inl (cA_16, 64, .inl (upd f_19 16 1047)))] H := hP
  have hD : va_D A [(h0, .inr (14, [.ref q_1, .null, .null, .null, .null, .null, .int 0, .null, .null, .null, .long 0, .null, .int 0, .int 0, .int 0, .int 0, .int 0, .int 0, .int 0, .null, .null])), (q_1, .inl (cA_2, 64, .inl (upd (upd (upd f_14 61 306) 62 307) 63 308))), (q_15, .inl (cA_16, 64, .inl (upd f_19 16 1047)))] := hD
  refine lv_dup hx hb d_mLines_init_546 rfl ?_
  refine lv_bipush (v := 17) hx hb d_mLines_init_547 (by decide) ?_
  refine lv_sipush (v := 1048) hx hb d_mLines_init_549 (by decide) ?_
  refine va_iast hx hb hK hP hD hS 2 1 rfl rfl (show ¬ ((17 : Int32) < 0 ∨ 64 ≤ (17 : Int32).toNatClampNeg) by decide) d_mLines_init_552 (fun H locs hP hD hS => ?_)
  rw [show (17 : Int32).toNatClampNeg = 17 by decide] at hP hD
  have hP : va_P (dC, dI) vcl [(h0, .inr (14, [.ref q_1, .null, .null, .null, .null, .null, .int 0, .null, .null, .null, .long 0, .null, .int 0, .int 0, .int 0, .int 0, .int 0, .int 0, .int 0, .null, .null])), (q_1, .inl (cA_2, 64, .inl (upd (upd (upd f_14 61 306) 62 307) 63 308))), (q_15, .inl (cA_16, 64, .inl (upd (upd f_19 16 1047) 17 1048)))] H := hP
  have hD : va_D A [(h0, .inr (14, [.ref q_1, .null, .null, .null, .null, .null, .int 0, .null, .null, .null, .long 0, .null, .int 0, .int 0, .int 0, .int 0, .int 0, .int 0, .int 0, .null, .null])), (q_1, .inl (cA_2, 64, .inl (upd (upd (upd f_14 61 306) 62 307) 63 308))), (q_15, .inl (cA_16, 64, .inl (upd (upd f_19 16 1047) 17 1048)))] := hD
  refine lv_dup hx hb d_mLines_init_553 rfl ?_
  refine lv_bipush (v := 18) hx hb d_mLines_init_554 (by decide) ?_
  refine lv_sipush (v := 1032) hx hb d_mLines_init_556 (by decide) ?_
  refine va_iast hx hb hK hP hD hS 2 1 rfl rfl (show ¬ ((18 : Int32) < 0 ∨ 64 ≤ (18 : Int32).toNatClampNeg) by decide) d_mLines_init_559 (fun H locs hP hD hS => ?_)
  rw [show (18 : Int32).toNatClampNeg = 18 by decide] at hP hD
  have hP : va_P (dC, dI) vcl [(h0, .inr (14, [.ref q_1, .null, .null, .null, .null, .null, .int 0, .null, .null, .null, .long 0, .null, .int 0, .int 0, .int 0, .int 0, .int 0, .int 0, .int 0, .null, .null])), (q_1, .inl (cA_2, 64, .inl (upd (upd (upd f_14 61 306) 62 307) 63 308))), (q_15, .inl (cA_16, 64, .inl (upd (upd (upd f_19 16 1047) 17 1048) 18 1032)))] H := hP
  have hD : va_D A [(h0, .inr (14, [.ref q_1, .null, .null, .null, .null, .null, .int 0, .null, .null, .null, .long 0, .null, .int 0, .int 0, .int 0, .int 0, .int 0, .int 0, .int 0, .null, .null])), (q_1, .inl (cA_2, 64, .inl (upd (upd (upd f_14 61 306) 62 307) 63 308))), (q_15, .inl (cA_16, 64, .inl (upd (upd (upd f_19 16 1047) 17 1048) 18 1032)))] := hD
  refine lv_dup hx hb d_mLines_init_560 rfl ?_
  refine lv_bipush (v := 19) hx hb d_mLines_init_561 (by decide) ?_
  refine lv_sipush (v := 2151) hx hb d_mLines_init_563 (by decide) ?_
  refine va_iast hx hb hK hP hD hS 2 1 rfl rfl (show ¬ ((19 : Int32) < 0 ∨ 64 ≤ (19 : Int32).toNatClampNeg) by decide) d_mLines_init_566 (fun H locs hP hD hS => ?_)
  rw [show (19 : Int32).toNatClampNeg = 19 by decide] at hP hD
  have hP : va_P (dC, dI) vcl [(h0, .inr (14, [.ref q_1, .null, .null, .null, .null, .null, .int 0, .null, .null, .null, .long 0, .null, .int 0, .int 0, .int 0, .int 0, .int 0, .int 0, .int 0, .null, .null])), (q_1, .inl (cA_2, 64, .inl (upd (upd (upd f_14 61 306) 62 307) 63 308))), (q_15, .inl (cA_16, 64, .inl (upd (upd (upd (upd f_19 16 1047) 17 1048) 18 1032) 19 2151)))] H := hP
  have hD : va_D A [(h0, .inr (14, [.ref q_1, .null, .null, .null, .null, .null, .int 0, .null, .null, .null, .long 0, .null, .int 0, .int 0, .int 0, .int 0, .int 0, .int 0, .int 0, .null, .null])), (q_1, .inl (cA_2, 64, .inl (upd (upd (upd f_14 61 306) 62 307) 63 308))), (q_15, .inl (cA_16, 64, .inl (upd (upd (upd (upd f_19 16 1047) 17 1048) 18 1032) 19 2151)))] := hD
  refine lv_dup hx hb d_mLines_init_567 rfl ?_
  refine lv_bipush (v := 20) hx hb d_mLines_init_568 (by decide) ?_
  refine lv_sipush (v := 2152) hx hb d_mLines_init_570 (by decide) ?_
  refine va_iast hx hb hK hP hD hS 2 1 rfl rfl (show ¬ ((20 : Int32) < 0 ∨ 64 ≤ (20 : Int32).toNatClampNeg) by decide) d_mLines_init_573 (fun H locs hP hD hS => ?_)
  rw [show (20 : Int32).toNatClampNeg = 20 by decide] at hP hD
  obtain ⟨f_20, ef_20⟩ : ∃ y : Nat → Int32, y = upd (upd (upd (upd (upd f_19 16 1047) 17 1048) 18 1032) 19 2151) 20 2152 := ⟨_, rfl⟩
  have hP : va_P (dC, dI) vcl [(h0, .inr (14, [.ref q_1, .null, .null, .null, .null, .null, .int 0, .null, .null, .null, .long 0, .null, .int 0, .int 0, .int 0, .int 0, .int 0, .int 0, .int 0, .null, .null])), (q_1, .inl (cA_2, 64, .inl (upd (upd (upd f_14 61 306) 62 307) 63 308))), (q_15, .inl (cA_16, 64, .inl (upd (upd (upd (upd (upd f_19 16 1047) 17 1048) 18 1032) 19 2151) 20 2152)))] H := hP
  have hD : va_D A [(h0, .inr (14, [.ref q_1, .null, .null, .null, .null, .null, .int 0, .null, .null, .null, .long 0, .null, .int 0, .int 0, .int 0, .int 0, .int 0, .int 0, .int 0, .null, .null])), (q_1, .inl (cA_2, 64, .inl (upd (upd (upd f_14 61 306) 62 307) 63 308))), (q_15, .inl (cA_16, 64, .inl (upd (upd (upd (upd (upd f_19 16 1047) 17 1048) 18 1032) 19 2151) 20 2152)))] := hD
  rw [← ef_20] at hP hD
  have hP : va_P (dC, dI) vcl [(h0, .inr (14, [.ref q_1, .null, .null, .null, .null, .null, .int 0, .null, .null, .null, .long 0, .null, .int 0, .int 0, .int 0, .int 0, .int 0, .int 0, .int 0, .null, .null])), (q_1, .inl (cA_2, 64, .inl (upd (upd (upd f_14 61 306) 62 307) 63 308))), (q_15, .inl (cA_16, 64, .inl f_20))] H := hP
  have hD : va_D A [(h0, .inr (14, [.ref q_1, .null, .null, .null, .null, .null, .int 0, .null, .null, .null, .long 0, .null, .int 0, .int 0, .int 0, .int 0, .int 0, .int 0, .int 0, .null, .null])), (q_1, .inl (cA_2, 64, .inl (upd (upd (upd f_14 61 306) 62 307) 63 308))), (q_15, .inl (cA_16, 64, .inl f_20))] := hD
  refine lv_dup hx hb d_mLines_init_574 rfl ?_
  refine lv_bipush (v := 21) hx hb d_mLines_init_575 (by decide) ?_
  refine lv_sipush (v := 2156) hx hb d_mLines_init_577 (by decide) ?_
  refine va_iast hx hb hK hP hD hS 2 1 rfl rfl (show ¬ ((21 : Int32) < 0 ∨ 64 ≤ (21 : Int32).toNatClampNeg) by decide) d_mLines_init_580 (fun H locs hP hD hS => ?_)
  rw [show (21 : Int32).toNatClampNeg = 21 by decide] at hP hD
  have hP : va_P (dC, dI) vcl [(h0, .inr (14, [.ref q_1, .null, .null, .null, .null, .null, .int 0, .null, .null, .null, .long 0, .null, .int 0, .int 0, .int 0, .int 0, .int 0, .int 0, .int 0, .null, .null])), (q_1, .inl (cA_2, 64, .inl (upd (upd (upd f_14 61 306) 62 307) 63 308))), (q_15, .inl (cA_16, 64, .inl (upd f_20 21 2156)))] H := hP
  have hD : va_D A [(h0, .inr (14, [.ref q_1, .null, .null, .null, .null, .null, .int 0, .null, .null, .null, .long 0, .null, .int 0, .int 0, .int 0, .int 0, .int 0, .int 0, .int 0, .null, .null])), (q_1, .inl (cA_2, 64, .inl (upd (upd (upd f_14 61 306) 62 307) 63 308))), (q_15, .inl (cA_16, 64, .inl (upd f_20 21 2156)))] := hD
  refine lv_dup hx hb d_mLines_init_581 rfl ?_
  refine lv_bipush (v := 22) hx hb d_mLines_init_582 (by decide) ?_
  refine lv_sipush (v := 2103) hx hb d_mLines_init_584 (by decide) ?_
  refine va_iast hx hb hK hP hD hS 2 1 rfl rfl (show ¬ ((22 : Int32) < 0 ∨ 64 ≤ (22 : Int32).toNatClampNeg) by decide) d_mLines_init_587 (fun H locs hP hD hS => ?_)
  rw [show (22 : Int32).toNatClampNeg = 22 by decide] at hP hD
  have hP : va_P (dC, dI) vcl [(h0, .inr (14, [.ref q_1, .null, .null, .null, .null, .null, .int 0, .null, .null, .null, .long 0, .null, .int 0, .int 0, .int 0, .int 0, .int 0, .int 0, .int 0, .null, .null])), (q_1, .inl (cA_2, 64, .inl (upd (upd (upd f_14 61 306) 62 307) 63 308))), (q_15, .inl (cA_16, 64, .inl (upd (upd f_20 21 2156) 22 2103)))] H := hP
  have hD : va_D A [(h0, .inr (14, [.ref q_1, .null, .null, .null, .null, .null, .int 0, .null, .null, .null, .long 0, .null, .int 0, .int 0, .int 0, .int 0, .int 0, .int 0, .int 0, .null, .null])), (q_1, .inl (cA_2, 64, .inl (upd (upd (upd f_14 61 306) 62 307) 63 308))), (q_15, .inl (cA_16, 64, .inl (upd (upd f_20 21 2156) 22 2103)))] := hD
  refine lv_dup hx hb d_mLines_init_588 rfl ?_
  refine lv_bipush (v := 23) hx hb d_mLines_init_589 (by decide) ?_
  refine lv_sipush (v := 2088) hx hb d_mLines_init_591 (by decide) ?_
  refine va_iast hx hb hK hP hD hS 2 1 rfl rfl (show ¬ ((23 : Int32) < 0 ∨ 64 ≤ (23 : Int32).toNatClampNeg) by decide) d_mLines_init_594 (fun H locs hP hD hS => ?_)
  rw [show (23 : Int32).toNatClampNeg = 23 by decide] at hP hD
  have hP : va_P (dC, dI) vcl [(h0, .inr (14, [.ref q_1, .null, .null, .null, .null, .null, .int 0, .null, .null, .null, .long 0, .null, .int 0, .int 0, .int 0, .int 0, .int 0, .int 0, .int 0, .null, .null])), (q_1, .inl (cA_2, 64, .inl (upd (upd (upd f_14 61 306) 62 307) 63 308))), (q_15, .inl (cA_16, 64, .inl (upd (upd (upd f_20 21 2156) 22 2103) 23 2088)))] H := hP
  have hD : va_D A [(h0, .inr (14, [.ref q_1, .null, .null, .null, .null, .null, .int 0, .null, .null, .null, .long 0, .null, .int 0, .int 0, .int 0, .int 0, .int 0, .int 0, .int 0, .null, .null])), (q_1, .inl (cA_2, 64, .inl (upd (upd (upd f_14 61 306) 62 307) 63 308))), (q_15, .inl (cA_16, 64, .inl (upd (upd (upd f_20 21 2156) 22 2103) 23 2088)))] := hD
  refine lv_dup hx hb d_mLines_init_595 rfl ?_
  refine lv_bipush (v := 24) hx hb d_mLines_init_596 (by decide) ?_
  refine lv_sipush (v := 2071) hx hb d_mLines_init_598 (by decide) ?_
  refine va_iast hx hb hK hP hD hS 2 1 rfl rfl (show ¬ ((24 : Int32) < 0 ∨ 64 ≤ (24 : Int32).toNatClampNeg) by decide) d_mLines_init_601 (fun H locs hP hD hS => ?_)
  rw [show (24 : Int32).toNatClampNeg = 24 by decide] at hP hD
  have hP : va_P (dC, dI) vcl [(h0, .inr (14, [.ref q_1, .null, .null, .null, .null, .null, .int 0, .null, .null, .null, .long 0, .null, .int 0, .int 0, .int 0, .int 0, .int 0, .int 0, .int 0, .null, .null])), (q_1, .inl (cA_2, 64, .inl (upd (upd (upd f_14 61 306) 62 307) 63 308))), (q_15, .inl (cA_16, 64, .inl (upd (upd (upd (upd f_20 21 2156) 22 2103) 23 2088) 24 2071)))] H := hP
  have hD : va_D A [(h0, .inr (14, [.ref q_1, .null, .null, .null, .null, .null, .int 0, .null, .null, .null, .long 0, .null, .int 0, .int 0, .int 0, .int 0, .int 0, .int 0, .int 0, .null, .null])), (q_1, .inl (cA_2, 64, .inl (upd (upd (upd f_14 61 306) 62 307) 63 308))), (q_15, .inl (cA_16, 64, .inl (upd (upd (upd (upd f_20 21 2156) 22 2103) 23 2088) 24 2071)))] := hD
  refine lv_dup hx hb d_mLines_init_602 rfl ?_
  refine lv_bipush (v := 25) hx hb d_mLines_init_603 (by decide) ?_
  refine lv_sipush (v := 2072) hx hb d_mLines_init_605 (by decide) ?_
  refine va_iast hx hb hK hP hD hS 2 1 rfl rfl (show ¬ ((25 : Int32) < 0 ∨ 64 ≤ (25 : Int32).toNatClampNeg) by decide) d_mLines_init_608 (fun H locs hP hD hS => ?_)
  rw [show (25 : Int32).toNatClampNeg = 25 by decide] at hP hD
  obtain ⟨f_21, ef_21⟩ : ∃ y : Nat → Int32, y = upd (upd (upd (upd (upd f_20 21 2156) 22 2103) 23 2088) 24 2071) 25 2072 := ⟨_, rfl⟩
  have hP : va_P (dC, dI) vcl [(h0, .inr (14, [.ref q_1, .null, .null, .null, .null, .null, .int 0, .null, .null, .null, .long 0, .null, .int 0, .int 0, .int 0, .int 0, .int 0, .int 0, .int 0, .null, .null])), (q_1, .inl (cA_2, 64, .inl (upd (upd (upd f_14 61 306) 62 307) 63 308))), (q_15, .inl (cA_16, 64, .inl (upd (upd (upd (upd (upd f_20 21 2156) 22 2103) 23 2088) 24 2071) 25 2072)))] H := hP
  have hD : va_D A [(h0, .inr (14, [.ref q_1, .null, .null, .null, .null, .null, .int 0, .null, .null, .null, .long 0, .null, .int 0, .int 0, .int 0, .int 0, .int 0, .int 0, .int 0, .null, .null])), (q_1, .inl (cA_2, 64, .inl (upd (upd (upd f_14 61 306) 62 307) 63 308))), (q_15, .inl (cA_16, 64, .inl (upd (upd (upd (upd (upd f_20 21 2156) 22 2103) 23 2088) 24 2071) 25 2072)))] := hD
  rw [← ef_21] at hP hD
  have hP : va_P (dC, dI) vcl [(h0, .inr (14, [.ref q_1, .null, .null, .null, .null, .null, .int 0, .null, .null, .null, .long 0, .null, .int 0, .int 0, .int 0, .int 0, .int 0, .int 0, .int 0, .null, .null])), (q_1, .inl (cA_2, 64, .inl (upd (upd (upd f_14 61 306) 62 307) 63 308))), (q_15, .inl (cA_16, 64, .inl f_21))] H := hP
  have hD : va_D A [(h0, .inr (14, [.ref q_1, .null, .null, .null, .null, .null, .int 0, .null, .null, .null, .long 0, .null, .int 0, .int 0, .int 0, .int 0, .int 0, .int 0, .int 0, .null, .null])), (q_1, .inl (cA_2, 64, .inl (upd (upd (upd f_14 61 306) 62 307) 63 308))), (q_15, .inl (cA_16, 64, .inl f_21))] := hD
  refine lv_dup hx hb d_mLines_init_609 rfl ?_
  refine lv_bipush (v := 26) hx hb d_mLines_init_610 (by decide) ?_
  refine lv_sipush (v := 4298) hx hb d_mLines_init_612 (by decide) ?_
  refine va_iast hx hb hK hP hD hS 2 1 rfl rfl (show ¬ ((26 : Int32) < 0 ∨ 64 ≤ (26 : Int32).toNatClampNeg) by decide) d_mLines_init_615 (fun H locs hP hD hS => ?_)
  rw [show (26 : Int32).toNatClampNeg = 26 by decide] at hP hD
  have hP : va_P (dC, dI) vcl [(h0, .inr (14, [.ref q_1, .null, .null, .null, .null, .null, .int 0, .null, .null, .null, .long 0, .null, .int 0, .int 0, .int 0, .int 0, .int 0, .int 0, .int 0, .null, .null])), (q_1, .inl (cA_2, 64, .inl (upd (upd (upd f_14 61 306) 62 307) 63 308))), (q_15, .inl (cA_16, 64, .inl (upd f_21 26 4298)))] H := hP
  have hD : va_D A [(h0, .inr (14, [.ref q_1, .null, .null, .null, .null, .null, .int 0, .null, .null, .null, .long 0, .null, .int 0, .int 0, .int 0, .int 0, .int 0, .int 0, .int 0, .null, .null])), (q_1, .inl (cA_2, 64, .inl (upd (upd (upd f_14 61 306) 62 307) 63 308))), (q_15, .inl (cA_16, 64, .inl (upd f_21 26 4298)))] := hD
  refine lv_dup hx hb d_mLines_init_616 rfl ?_
  refine lv_bipush (v := 27) hx hb d_mLines_init_617 (by decide) ?_
  refine lv_sipush (v := 4299) hx hb d_mLines_init_619 (by decide) ?_
  refine va_iast hx hb hK hP hD hS 2 1 rfl rfl (show ¬ ((27 : Int32) < 0 ∨ 64 ≤ (27 : Int32).toNatClampNeg) by decide) d_mLines_init_622 (fun H locs hP hD hS => ?_)
  rw [show (27 : Int32).toNatClampNeg = 27 by decide] at hP hD
  have hP : va_P (dC, dI) vcl [(h0, .inr (14, [.ref q_1, .null, .null, .null, .null, .null, .int 0, .null, .null, .null, .long 0, .null, .int 0, .int 0, .int 0, .int 0, .int 0, .int 0, .int 0, .null, .null])), (q_1, .inl (cA_2, 64, .inl (upd (upd (upd f_14 61 306) 62 307) 63 308))), (q_15, .inl (cA_16, 64, .inl (upd (upd f_21 26 4298) 27 4299)))] H := hP
  have hD : va_D A [(h0, .inr (14, [.ref q_1, .null, .null, .null, .null, .null, .int 0, .null, .null, .null, .long 0, .null, .int 0, .int 0, .int 0, .int 0, .int 0, .int 0, .int 0, .null, .null])), (q_1, .inl (cA_2, 64, .inl (upd (upd (upd f_14 61 306) 62 307) 63 308))), (q_15, .inl (cA_16, 64, .inl (upd (upd f_21 26 4298) 27 4299)))] := hD
  refine lv_dup hx hb d_mLines_init_623 rfl ?_
  refine lv_bipush (v := 28) hx hb d_mLines_init_624 (by decide) ?_
  refine lv_sipush (v := 4300) hx hb d_mLines_init_626 (by decide) ?_
  refine va_iast hx hb hK hP hD hS 2 1 rfl rfl (show ¬ ((28 : Int32) < 0 ∨ 64 ≤ (28 : Int32).toNatClampNeg) by decide) d_mLines_init_629 (fun H locs hP hD hS => ?_)
  rw [show (28 : Int32).toNatClampNeg = 28 by decide] at hP hD
  have hP : va_P (dC, dI) vcl [(h0, .inr (14, [.ref q_1, .null, .null, .null, .null, .null, .int 0, .null, .null, .null, .long 0, .null, .int 0, .int 0, .int 0, .int 0, .int 0, .int 0, .int 0, .null, .null])), (q_1, .inl (cA_2, 64, .inl (upd (upd (upd f_14 61 306) 62 307) 63 308))), (q_15, .inl (cA_16, 64, .inl (upd (upd (upd f_21 26 4298) 27 4299) 28 4300)))] H := hP
  have hD : va_D A [(h0, .inr (14, [.ref q_1, .null, .null, .null, .null, .null, .int 0, .null, .null, .null, .long 0, .null, .int 0, .int 0, .int 0, .int 0, .int 0, .int 0, .int 0, .null, .null])), (q_1, .inl (cA_2, 64, .inl (upd (upd (upd f_14 61 306) 62 307) 63 308))), (q_15, .inl (cA_16, 64, .inl (upd (upd (upd f_21 26 4298) 27 4299) 28 4300)))] := hD
  refine lv_dup hx hb d_mLines_init_630 rfl ?_
  refine lv_bipush (v := 29) hx hb d_mLines_init_631 (by decide) ?_
  refine lv_sipush (v := 4301) hx hb d_mLines_init_633 (by decide) ?_
  refine va_iast hx hb hK hP hD hS 2 1 rfl rfl (show ¬ ((29 : Int32) < 0 ∨ 64 ≤ (29 : Int32).toNatClampNeg) by decide) d_mLines_init_636 (fun H locs hP hD hS => ?_)
  rw [show (29 : Int32).toNatClampNeg = 29 by decide] at hP hD
  have hP : va_P (dC, dI) vcl [(h0, .inr (14, [.ref q_1, .null, .null, .null, .null, .null, .int 0, .null, .null, .null, .long 0, .null, .int 0, .int 0, .int 0, .int 0, .int 0, .int 0, .int 0, .null, .null])), (q_1, .inl (cA_2, 64, .inl (upd (upd (upd f_14 61 306) 62 307) 63 308))), (q_15, .inl (cA_16, 64, .inl (upd (upd (upd (upd f_21 26 4298) 27 4299) 28 4300) 29 4301)))] H := hP
  have hD : va_D A [(h0, .inr (14, [.ref q_1, .null, .null, .null, .null, .null, .int 0, .null, .null, .null, .long 0, .null, .int 0, .int 0, .int 0, .int 0, .int 0, .int 0, .int 0, .null, .null])), (q_1, .inl (cA_2, 64, .inl (upd (upd (upd f_14 61 306) 62 307) 63 308))), (q_15, .inl (cA_16, 64, .inl (upd (upd (upd (upd f_21 26 4298) 27 4299) 28 4300) 29 4301)))] := hD
  refine lv_dup hx hb d_mLines_init_637 rfl ?_
  refine lv_bipush (v := 30) hx hb d_mLines_init_638 (by decide) ?_
  refine lv_sipush (v := 4200) hx hb d_mLines_init_640 (by decide) ?_
  refine va_iast hx hb hK hP hD hS 2 1 rfl rfl (show ¬ ((30 : Int32) < 0 ∨ 64 ≤ (30 : Int32).toNatClampNeg) by decide) d_mLines_init_643 (fun H locs hP hD hS => ?_)
  rw [show (30 : Int32).toNatClampNeg = 30 by decide] at hP hD
  obtain ⟨f_22, ef_22⟩ : ∃ y : Nat → Int32, y = upd (upd (upd (upd (upd f_21 26 4298) 27 4299) 28 4300) 29 4301) 30 4200 := ⟨_, rfl⟩
  have hP : va_P (dC, dI) vcl [(h0, .inr (14, [.ref q_1, .null, .null, .null, .null, .null, .int 0, .null, .null, .null, .long 0, .null, .int 0, .int 0, .int 0, .int 0, .int 0, .int 0, .int 0, .null, .null])), (q_1, .inl (cA_2, 64, .inl (upd (upd (upd f_14 61 306) 62 307) 63 308))), (q_15, .inl (cA_16, 64, .inl (upd (upd (upd (upd (upd f_21 26 4298) 27 4299) 28 4300) 29 4301) 30 4200)))] H := hP
  have hD : va_D A [(h0, .inr (14, [.ref q_1, .null, .null, .null, .null, .null, .int 0, .null, .null, .null, .long 0, .null, .int 0, .int 0, .int 0, .int 0, .int 0, .int 0, .int 0, .null, .null])), (q_1, .inl (cA_2, 64, .inl (upd (upd (upd f_14 61 306) 62 307) 63 308))), (q_15, .inl (cA_16, 64, .inl (upd (upd (upd (upd (upd f_21 26 4298) 27 4299) 28 4300) 29 4301) 30 4200)))] := hD
  rw [← ef_22] at hP hD
  have hP : va_P (dC, dI) vcl [(h0, .inr (14, [.ref q_1, .null, .null, .null, .null, .null, .int 0, .null, .null, .null, .long 0, .null, .int 0, .int 0, .int 0, .int 0, .int 0, .int 0, .int 0, .null, .null])), (q_1, .inl (cA_2, 64, .inl (upd (upd (upd f_14 61 306) 62 307) 63 308))), (q_15, .inl (cA_16, 64, .inl f_22))] H := hP
  have hD : va_D A [(h0, .inr (14, [.ref q_1, .null, .null, .null, .null, .null, .int 0, .null, .null, .null, .long 0, .null, .int 0, .int 0, .int 0, .int 0, .int 0, .int 0, .int 0, .null, .null])), (q_1, .inl (cA_2, 64, .inl (upd (upd (upd f_14 61 306) 62 307) 63 308))), (q_15, .inl (cA_16, 64, .inl f_22))] := hD
  refine lv_dup hx hb d_mLines_init_644 rfl ?_
  refine lv_bipush (v := 31) hx hb d_mLines_init_645 (by decide) ?_
  refine lv_sipush (v := 4201) hx hb d_mLines_init_647 (by decide) ?_
  refine va_iast hx hb hK hP hD hS 2 1 rfl rfl (show ¬ ((31 : Int32) < 0 ∨ 64 ≤ (31 : Int32).toNatClampNeg) by decide) d_mLines_init_650 (fun H locs hP hD hS => ?_)
  rw [show (31 : Int32).toNatClampNeg = 31 by decide] at hP hD
  have hP : va_P (dC, dI) vcl [(h0, .inr (14, [.ref q_1, .null, .null, .null, .null, .null, .int 0, .null, .null, .null, .long 0, .null, .int 0, .int 0, .int 0, .int 0, .int 0, .int 0, .int 0, .null, .null])), (q_1, .inl (cA_2, 64, .inl (upd (upd (upd f_14 61 306) 62 307) 63 308))), (q_15, .inl (cA_16, 64, .inl (upd f_22 31 4201)))] H := hP
  have hD : va_D A [(h0, .inr (14, [.ref q_1, .null, .null, .null, .null, .null, .int 0, .null, .null, .null, .long 0, .null, .int 0, .int 0, .int 0, .int 0, .int 0, .int 0, .int 0, .null, .null])), (q_1, .inl (cA_2, 64, .inl (upd (upd (upd f_14 61 306) 62 307) 63 308))), (q_15, .inl (cA_16, 64, .inl (upd f_22 31 4201)))] := hD
  refine lv_dup hx hb d_mLines_init_651 rfl ?_
  refine lv_bipush (v := 32) hx hb d_mLines_init_652 (by decide) ?_
  refine lv_sipush (v := 4202) hx hb d_mLines_init_654 (by decide) ?_
  refine va_iast hx hb hK hP hD hS 2 1 rfl rfl (show ¬ ((32 : Int32) < 0 ∨ 64 ≤ (32 : Int32).toNatClampNeg) by decide) d_mLines_init_657 (fun H locs hP hD hS => ?_)
  rw [show (32 : Int32).toNatClampNeg = 32 by decide] at hP hD
  have hP : va_P (dC, dI) vcl [(h0, .inr (14, [.ref q_1, .null, .null, .null, .null, .null, .int 0, .null, .null, .null, .long 0, .null, .int 0, .int 0, .int 0, .int 0, .int 0, .int 0, .int 0, .null, .null])), (q_1, .inl (cA_2, 64, .inl (upd (upd (upd f_14 61 306) 62 307) 63 308))), (q_15, .inl (cA_16, 64, .inl (upd (upd f_22 31 4201) 32 4202)))] H := hP
  have hD : va_D A [(h0, .inr (14, [.ref q_1, .null, .null, .null, .null, .null, .int 0, .null, .null, .null, .long 0, .null, .int 0, .int 0, .int 0, .int 0, .int 0, .int 0, .int 0, .null, .null])), (q_1, .inl (cA_2, 64, .inl (upd (upd (upd f_14 61 306) 62 307) 63 308))), (q_15, .inl (cA_16, 64, .inl (upd (upd f_22 31 4201) 32 4202)))] := hD
  refine lv_dup hx hb d_mLines_init_658 rfl ?_
  refine lv_bipush (v := 33) hx hb d_mLines_init_659 (by decide) ?_
  refine lv_sipush (v := 4203) hx hb d_mLines_init_661 (by decide) ?_
  refine va_iast hx hb hK hP hD hS 2 1 rfl rfl (show ¬ ((33 : Int32) < 0 ∨ 64 ≤ (33 : Int32).toNatClampNeg) by decide) d_mLines_init_664 (fun H locs hP hD hS => ?_)
  rw [show (33 : Int32).toNatClampNeg = 33 by decide] at hP hD
  have hP : va_P (dC, dI) vcl [(h0, .inr (14, [.ref q_1, .null, .null, .null, .null, .null, .int 0, .null, .null, .null, .long 0, .null, .int 0, .int 0, .int 0, .int 0, .int 0, .int 0, .int 0, .null, .null])), (q_1, .inl (cA_2, 64, .inl (upd (upd (upd f_14 61 306) 62 307) 63 308))), (q_15, .inl (cA_16, 64, .inl (upd (upd (upd f_22 31 4201) 32 4202) 33 4203)))] H := hP
  have hD : va_D A [(h0, .inr (14, [.ref q_1, .null, .null, .null, .null, .null, .int 0, .null, .null, .null, .long 0, .null, .int 0, .int 0, .int 0, .int 0, .int 0, .int 0, .int 0, .null, .null])), (q_1, .inl (cA_2, 64, .inl (upd (upd (upd f_14 61 306) 62 307) 63 308))), (q_15, .inl (cA_16, 64, .inl (upd (upd (upd f_22 31 4201) 32 4202) 33 4203)))] := hD
  refine lv_dup hx hb d_mLines_init_665 rfl ?_
  refine lv_bipush (v := 34) hx hb d_mLines_init_666 (by decide) ?_
  refine lv_sipush (v := 4306) hx hb d_mLines_init_668 (by decide) ?_
  refine va_iast hx hb hK hP hD hS 2 1 rfl rfl (show ¬ ((34 : Int32) < 0 ∨ 64 ≤ (34 : Int32).toNatClampNeg) by decide) d_mLines_init_671 (fun H locs hP hD hS => ?_)
  rw [show (34 : Int32).toNatClampNeg = 34 by decide] at hP hD
  have hP : va_P (dC, dI) vcl [(h0, .inr (14, [.ref q_1, .null, .null, .null, .null, .null, .int 0, .null, .null, .null, .long 0, .null, .int 0, .int 0, .int 0, .int 0, .int 0, .int 0, .int 0, .null, .null])), (q_1, .inl (cA_2, 64, .inl (upd (upd (upd f_14 61 306) 62 307) 63 308))), (q_15, .inl (cA_16, 64, .inl (upd (upd (upd (upd f_22 31 4201) 32 4202) 33 4203) 34 4306)))] H := hP
  have hD : va_D A [(h0, .inr (14, [.ref q_1, .null, .null, .null, .null, .null, .int 0, .null, .null, .null, .long 0, .null, .int 0, .int 0, .int 0, .int 0, .int 0, .int 0, .int 0, .null, .null])), (q_1, .inl (cA_2, 64, .inl (upd (upd (upd f_14 61 306) 62 307) 63 308))), (q_15, .inl (cA_16, 64, .inl (upd (upd (upd (upd f_22 31 4201) 32 4202) 33 4203) 34 4306)))] := hD
  refine lv_dup hx hb d_mLines_init_672 rfl ?_
  refine lv_bipush (v := 35) hx hb d_mLines_init_673 (by decide) ?_
  refine lv_sipush (v := 4307) hx hb d_mLines_init_675 (by decide) ?_
  refine va_iast hx hb hK hP hD hS 2 1 rfl rfl (show ¬ ((35 : Int32) < 0 ∨ 64 ≤ (35 : Int32).toNatClampNeg) by decide) d_mLines_init_678 (fun H locs hP hD hS => ?_)
  rw [show (35 : Int32).toNatClampNeg = 35 by decide] at hP hD
  obtain ⟨f_23, ef_23⟩ : ∃ y : Nat → Int32, y = upd (upd (upd (upd (upd f_22 31 4201) 32 4202) 33 4203) 34 4306) 35 4307 := ⟨_, rfl⟩
  have hP : va_P (dC, dI) vcl [(h0, .inr (14, [.ref q_1, .null, .null, .null, .null, .null, .int 0, .null, .null, .null, .long 0, .null, .int 0, .int 0, .int 0, .int 0, .int 0, .int 0, .int 0, .null, .null])), (q_1, .inl (cA_2, 64, .inl (upd (upd (upd f_14 61 306) 62 307) 63 308))), (q_15, .inl (cA_16, 64, .inl (upd (upd (upd (upd (upd f_22 31 4201) 32 4202) 33 4203) 34 4306) 35 4307)))] H := hP
  have hD : va_D A [(h0, .inr (14, [.ref q_1, .null, .null, .null, .null, .null, .int 0, .null, .null, .null, .long 0, .null, .int 0, .int 0, .int 0, .int 0, .int 0, .int 0, .int 0, .null, .null])), (q_1, .inl (cA_2, 64, .inl (upd (upd (upd f_14 61 306) 62 307) 63 308))), (q_15, .inl (cA_16, 64, .inl (upd (upd (upd (upd (upd f_22 31 4201) 32 4202) 33 4203) 34 4306) 35 4307)))] := hD
  rw [← ef_23] at hP hD
  have hP : va_P (dC, dI) vcl [(h0, .inr (14, [.ref q_1, .null, .null, .null, .null, .null, .int 0, .null, .null, .null, .long 0, .null, .int 0, .int 0, .int 0, .int 0, .int 0, .int 0, .int 0, .null, .null])), (q_1, .inl (cA_2, 64, .inl (upd (upd (upd f_14 61 306) 62 307) 63 308))), (q_15, .inl (cA_16, 64, .inl f_23))] H := hP
  have hD : va_D A [(h0, .inr (14, [.ref q_1, .null, .null, .null, .null, .null, .int 0, .null, .null, .null, .long 0, .null, .int 0, .int 0, .int 0, .int 0, .int 0, .int 0, .int 0, .null, .null])), (q_1, .inl (cA_2, 64, .inl (upd (upd (upd f_14 61 306) 62 307) 63 308))), (q_15, .inl (cA_16, 64, .inl f_23))] := hD
  refine lv_dup hx hb d_mLines_init_679 rfl ?_
  refine lv_bipush (v := 36) hx hb d_mLines_init_680 (by decide) ?_
  refine lv_sipush (v := 4308) hx hb d_mLines_init_682 (by decide) ?_
  refine va_iast hx hb hK hP hD hS 2 1 rfl rfl (show ¬ ((36 : Int32) < 0 ∨ 64 ≤ (36 : Int32).toNatClampNeg) by decide) d_mLines_init_685 (fun H locs hP hD hS => ?_)
  rw [show (36 : Int32).toNatClampNeg = 36 by decide] at hP hD
  have hP : va_P (dC, dI) vcl [(h0, .inr (14, [.ref q_1, .null, .null, .null, .null, .null, .int 0, .null, .null, .null, .long 0, .null, .int 0, .int 0, .int 0, .int 0, .int 0, .int 0, .int 0, .null, .null])), (q_1, .inl (cA_2, 64, .inl (upd (upd (upd f_14 61 306) 62 307) 63 308))), (q_15, .inl (cA_16, 64, .inl (upd f_23 36 4308)))] H := hP
  have hD : va_D A [(h0, .inr (14, [.ref q_1, .null, .null, .null, .null, .null, .int 0, .null, .null, .null, .long 0, .null, .int 0, .int 0, .int 0, .int 0, .int 0, .int 0, .int 0, .null, .null])), (q_1, .inl (cA_2, 64, .inl (upd (upd (upd f_14 61 306) 62 307) 63 308))), (q_15, .inl (cA_16, 64, .inl (upd f_23 36 4308)))] := hD
  refine lv_dup hx hb d_mLines_init_686 rfl ?_
  refine lv_bipush (v := 37) hx hb d_mLines_init_687 (by decide) ?_
  refine lv_sipush (v := 4309) hx hb d_mLines_init_689 (by decide) ?_
  refine va_iast hx hb hK hP hD hS 2 1 rfl rfl (show ¬ ((37 : Int32) < 0 ∨ 64 ≤ (37 : Int32).toNatClampNeg) by decide) d_mLines_init_692 (fun H locs hP hD hS => ?_)
  rw [show (37 : Int32).toNatClampNeg = 37 by decide] at hP hD
  have hP : va_P (dC, dI) vcl [(h0, .inr (14, [.ref q_1, .null, .null, .null, .null, .null, .int 0, .null, .null, .null, .long 0, .null, .int 0, .int 0, .int 0, .int 0, .int 0, .int 0, .int 0, .null, .null])), (q_1, .inl (cA_2, 64, .inl (upd (upd (upd f_14 61 306) 62 307) 63 308))), (q_15, .inl (cA_16, 64, .inl (upd (upd f_23 36 4308) 37 4309)))] H := hP
  have hD : va_D A [(h0, .inr (14, [.ref q_1, .null, .null, .null, .null, .null, .int 0, .null, .null, .null, .long 0, .null, .int 0, .int 0, .int 0, .int 0, .int 0, .int 0, .int 0, .null, .null])), (q_1, .inl (cA_2, 64, .inl (upd (upd (upd f_14 61 306) 62 307) 63 308))), (q_15, .inl (cA_16, 64, .inl (upd (upd f_23 36 4308) 37 4309)))] := hD
  refine lv_dup hx hb d_mLines_init_693 rfl ?_
  refine lv_bipush (v := 38) hx hb d_mLines_init_694 (by decide) ?_
  refine lv_sipush (v := 4310) hx hb d_mLines_init_696 (by decide) ?_
  refine va_iast hx hb hK hP hD hS 2 1 rfl rfl (show ¬ ((38 : Int32) < 0 ∨ 64 ≤ (38 : Int32).toNatClampNeg) by decide) d_mLines_init_699 (fun H locs hP hD hS => ?_)
  rw [show (38 : Int32).toNatClampNeg = 38 by decide] at hP hD
  have hP : va_P (dC, dI) vcl [(h0, .inr (14, [.ref q_1, .null, .null, .null, .null, .null, .int 0, .null, .null, .null, .long 0, .null, .int 0, .int 0, .int 0, .int 0, .int 0, .int 0, .int 0, .null, .null])), (q_1, .inl (cA_2, 64, .inl (upd (upd (upd f_14 61 306) 62 307) 63 308))), (q_15, .inl (cA_16, 64, .inl (upd (upd (upd f_23 36 4308) 37 4309) 38 4310)))] H := hP
  have hD : va_D A [(h0, .inr (14, [.ref q_1, .null, .null, .null, .null, .null, .int 0, .null, .null, .null, .long 0, .null, .int 0, .int 0, .int 0, .int 0, .int 0, .int 0, .int 0, .null, .null])), (q_1, .inl (cA_2, 64, .inl (upd (upd (upd f_14 61 306) 62 307) 63 308))), (q_15, .inl (cA_16, 64, .inl (upd (upd (upd f_23 36 4308) 37 4309) 38 4310)))] := hD
  refine lv_dup hx hb d_mLines_init_700 rfl ?_
  refine lv_bipush (v := 39) hx hb d_mLines_init_701 (by decide) ?_
  refine lv_sipush (v := 4311) hx hb d_mLines_init_703 (by decide) ?_
  refine va_iast hx hb hK hP hD hS 2 1 rfl rfl (show ¬ ((39 : Int32) < 0 ∨ 64 ≤ (39 : Int32).toNatClampNeg) by decide) d_mLines_init_706 (fun H locs hP hD hS => ?_)
  rw [show (39 : Int32).toNatClampNeg = 39 by decide] at hP hD
  have hP : va_P (dC, dI) vcl [(h0, .inr (14, [.ref q_1, .null, .null, .null, .null, .null, .int 0, .null, .null, .null, .long 0, .null, .int 0, .int 0, .int 0, .int 0, .int 0, .int 0, .int 0, .null, .null])), (q_1, .inl (cA_2, 64, .inl (upd (upd (upd f_14 61 306) 62 307) 63 308))), (q_15, .inl (cA_16, 64, .inl (upd (upd (upd (upd f_23 36 4308) 37 4309) 38 4310) 39 4311)))] H := hP
  have hD : va_D A [(h0, .inr (14, [.ref q_1, .null, .null, .null, .null, .null, .int 0, .null, .null, .null, .long 0, .null, .int 0, .int 0, .int 0, .int 0, .int 0, .int 0, .int 0, .null, .null])), (q_1, .inl (cA_2, 64, .inl (upd (upd (upd f_14 61 306) 62 307) 63 308))), (q_15, .inl (cA_16, 64, .inl (upd (upd (upd (upd f_23 36 4308) 37 4309) 38 4310) 39 4311)))] := hD
  refine lv_dup hx hb d_mLines_init_707 rfl ?_
  refine lv_bipush (v := 40) hx hb d_mLines_init_708 (by decide) ?_
  refine lv_sipush (v := 4204) hx hb d_mLines_init_710 (by decide) ?_
  refine va_iast hx hb hK hP hD hS 2 1 rfl rfl (show ¬ ((40 : Int32) < 0 ∨ 64 ≤ (40 : Int32).toNatClampNeg) by decide) d_mLines_init_713 (fun H locs hP hD hS => ?_)
  rw [show (40 : Int32).toNatClampNeg = 40 by decide] at hP hD
  obtain ⟨f_24, ef_24⟩ : ∃ y : Nat → Int32, y = upd (upd (upd (upd (upd f_23 36 4308) 37 4309) 38 4310) 39 4311) 40 4204 := ⟨_, rfl⟩
  have hP : va_P (dC, dI) vcl [(h0, .inr (14, [.ref q_1, .null, .null, .null, .null, .null, .int 0, .null, .null, .null, .long 0, .null, .int 0, .int 0, .int 0, .int 0, .int 0, .int 0, .int 0, .null, .null])), (q_1, .inl (cA_2, 64, .inl (upd (upd (upd f_14 61 306) 62 307) 63 308))), (q_15, .inl (cA_16, 64, .inl (upd (upd (upd (upd (upd f_23 36 4308) 37 4309) 38 4310) 39 4311) 40 4204)))] H := hP
  have hD : va_D A [(h0, .inr (14, [.ref q_1, .null, .null, .null, .null, .null, .int 0, .null, .null, .null, .long 0, .null, .int 0, .int 0, .int 0, .int 0, .int 0, .int 0, .int 0, .null, .null])), (q_1, .inl (cA_2, 64, .inl (upd (upd (upd f_14 61 306) 62 307) 63 308))), (q_15, .inl (cA_16, 64, .inl (upd (upd (upd (upd (upd f_23 36 4308) 37 4309) 38 4310) 39 4311) 40 4204)))] := hD
  rw [← ef_24] at hP hD
  have hP : va_P (dC, dI) vcl [(h0, .inr (14, [.ref q_1, .null, .null, .null, .null, .null, .int 0, .null, .null, .null, .long 0, .null, .int 0, .int 0, .int 0, .int 0, .int 0, .int 0, .int 0, .null, .null])), (q_1, .inl (cA_2, 64, .inl (upd (upd (upd f_14 61 306) 62 307) 63 308))), (q_15, .inl (cA_16, 64, .inl f_24))] H := hP
  have hD : va_D A [(h0, .inr (14, [.ref q_1, .null, .null, .null, .null, .null, .int 0, .null, .null, .null, .long 0, .null, .int 0, .int 0, .int 0, .int 0, .int 0, .int 0, .int 0, .null, .null])), (q_1, .inl (cA_2, 64, .inl (upd (upd (upd f_14 61 306) 62 307) 63 308))), (q_15, .inl (cA_16, 64, .inl f_24))] := hD
  refine lv_dup hx hb d_mLines_init_714 rfl ?_
  refine lv_bipush (v := 41) hx hb d_mLines_init_715 (by decide) ?_
  refine lv_sipush (v := 4205) hx hb d_mLines_init_717 (by decide) ?_
  refine va_iast hx hb hK hP hD hS 2 1 rfl rfl (show ¬ ((41 : Int32) < 0 ∨ 64 ≤ (41 : Int32).toNatClampNeg) by decide) d_mLines_init_720 (fun H locs hP hD hS => ?_)
  rw [show (41 : Int32).toNatClampNeg = 41 by decide] at hP hD
  have hP : va_P (dC, dI) vcl [(h0, .inr (14, [.ref q_1, .null, .null, .null, .null, .null, .int 0, .null, .null, .null, .long 0, .null, .int 0, .int 0, .int 0, .int 0, .int 0, .int 0, .int 0, .null, .null])), (q_1, .inl (cA_2, 64, .inl (upd (upd (upd f_14 61 306) 62 307) 63 308))), (q_15, .inl (cA_16, 64, .inl (upd f_24 41 4205)))] H := hP
  have hD : va_D A [(h0, .inr (14, [.ref q_1, .null, .null, .null, .null, .null, .int 0, .null, .null, .null, .long 0, .null, .int 0, .int 0, .int 0, .int 0, .int 0, .int 0, .int 0, .null, .null])), (q_1, .inl (cA_2, 64, .inl (upd (upd (upd f_14 61 306) 62 307) 63 308))), (q_15, .inl (cA_16, 64, .inl (upd f_24 41 4205)))] := hD
  refine lv_dup hx hb d_mLines_init_721 rfl ?_
  refine lv_bipush (v := 42) hx hb d_mLines_init_722 (by decide) ?_
  refine lv_sipush (v := 4314) hx hb d_mLines_init_724 (by decide) ?_
  refine va_iast hx hb hK hP hD hS 2 1 rfl rfl (show ¬ ((42 : Int32) < 0 ∨ 64 ≤ (42 : Int32).toNatClampNeg) by decide) d_mLines_init_727 (fun H locs hP hD hS => ?_)
  rw [show (42 : Int32).toNatClampNeg = 42 by decide] at hP hD
  have hP : va_P (dC, dI) vcl [(h0, .inr (14, [.ref q_1, .null, .null, .null, .null, .null, .int 0, .null, .null, .null, .long 0, .null, .int 0, .int 0, .int 0, .int 0, .int 0, .int 0, .int 0, .null, .null])), (q_1, .inl (cA_2, 64, .inl (upd (upd (upd f_14 61 306) 62 307) 63 308))), (q_15, .inl (cA_16, 64, .inl (upd (upd f_24 41 4205) 42 4314)))] H := hP
  have hD : va_D A [(h0, .inr (14, [.ref q_1, .null, .null, .null, .null, .null, .int 0, .null, .null, .null, .long 0, .null, .int 0, .int 0, .int 0, .int 0, .int 0, .int 0, .int 0, .null, .null])), (q_1, .inl (cA_2, 64, .inl (upd (upd (upd f_14 61 306) 62 307) 63 308))), (q_15, .inl (cA_16, 64, .inl (upd (upd f_24 41 4205) 42 4314)))] := hD
  refine lv_dup hx hb d_mLines_init_728 rfl ?_
  refine lv_bipush (v := 43) hx hb d_mLines_init_729 (by decide) ?_
  refine lv_sipush (v := 4315) hx hb d_mLines_init_731 (by decide) ?_
  refine va_iast hx hb hK hP hD hS 2 1 rfl rfl (show ¬ ((43 : Int32) < 0 ∨ 64 ≤ (43 : Int32).toNatClampNeg) by decide) d_mLines_init_734 (fun H locs hP hD hS => ?_)
  rw [show (43 : Int32).toNatClampNeg = 43 by decide] at hP hD
  have hP : va_P (dC, dI) vcl [(h0, .inr (14, [.ref q_1, .null, .null, .null, .null, .null, .int 0, .null, .null, .null, .long 0, .null, .int 0, .int 0, .int 0, .int 0, .int 0, .int 0, .int 0, .null, .null])), (q_1, .inl (cA_2, 64, .inl (upd (upd (upd f_14 61 306) 62 307) 63 308))), (q_15, .inl (cA_16, 64, .inl (upd (upd (upd f_24 41 4205) 42 4314) 43 4315)))] H := hP
  have hD : va_D A [(h0, .inr (14, [.ref q_1, .null, .null, .null, .null, .null, .int 0, .null, .null, .null, .long 0, .null, .int 0, .int 0, .int 0, .int 0, .int 0, .int 0, .int 0, .null, .null])), (q_1, .inl (cA_2, 64, .inl (upd (upd (upd f_14 61 306) 62 307) 63 308))), (q_15, .inl (cA_16, 64, .inl (upd (upd (upd f_24 41 4205) 42 4314) 43 4315)))] := hD
  refine lv_dup hx hb d_mLines_init_735 rfl ?_
  refine lv_bipush (v := 44) hx hb d_mLines_init_736 (by decide) ?_
  refine lv_sipush (v := 4180) hx hb d_mLines_init_738 (by decide) ?_
  refine va_iast hx hb hK hP hD hS 2 1 rfl rfl (show ¬ ((44 : Int32) < 0 ∨ 64 ≤ (44 : Int32).toNatClampNeg) by decide) d_mLines_init_741 (fun H locs hP hD hS => ?_)
  rw [show (44 : Int32).toNatClampNeg = 44 by decide] at hP hD
  have hP : va_P (dC, dI) vcl [(h0, .inr (14, [.ref q_1, .null, .null, .null, .null, .null, .int 0, .null, .null, .null, .long 0, .null, .int 0, .int 0, .int 0, .int 0, .int 0, .int 0, .int 0, .null, .null])), (q_1, .inl (cA_2, 64, .inl (upd (upd (upd f_14 61 306) 62 307) 63 308))), (q_15, .inl (cA_16, 64, .inl (upd (upd (upd (upd f_24 41 4205) 42 4314) 43 4315) 44 4180)))] H := hP
  have hD : va_D A [(h0, .inr (14, [.ref q_1, .null, .null, .null, .null, .null, .int 0, .null, .null, .null, .long 0, .null, .int 0, .int 0, .int 0, .int 0, .int 0, .int 0, .int 0, .null, .null])), (q_1, .inl (cA_2, 64, .inl (upd (upd (upd f_14 61 306) 62 307) 63 308))), (q_15, .inl (cA_16, 64, .inl (upd (upd (upd (upd f_24 41 4205) 42 4314) 43 4315) 44 4180)))] := hD
  refine lv_dup hx hb d_mLines_init_742 rfl ?_
  refine lv_bipush (v := 45) hx hb d_mLines_init_743 (by decide) ?_
  refine lv_sipush (v := 4181) hx hb d_mLines_init_745 (by decide) ?_
  refine va_iast hx hb hK hP hD hS 2 1 rfl rfl (show ¬ ((45 : Int32) < 0 ∨ 64 ≤ (45 : Int32).toNatClampNeg) by decide) d_mLines_init_748 (fun H locs hP hD hS => ?_)
  rw [show (45 : Int32).toNatClampNeg = 45 by decide] at hP hD
  obtain ⟨f_25, ef_25⟩ : ∃ y : Nat → Int32, y = upd (upd (upd (upd (upd f_24 41 4205) 42 4314) 43 4315) 44 4180) 45 4181 := ⟨_, rfl⟩
  have hP : va_P (dC, dI) vcl [(h0, .inr (14, [.ref q_1, .null, .null, .null, .null, .null, .int 0, .null, .null, .null, .long 0, .null, .int 0, .int 0, .int 0, .int 0, .int 0, .int 0, .int 0, .null, .null])), (q_1, .inl (cA_2, 64, .inl (upd (upd (upd f_14 61 306) 62 307) 63 308))), (q_15, .inl (cA_16, 64, .inl (upd (upd (upd (upd (upd f_24 41 4205) 42 4314) 43 4315) 44 4180) 45 4181)))] H := hP
  have hD : va_D A [(h0, .inr (14, [.ref q_1, .null, .null, .null, .null, .null, .int 0, .null, .null, .null, .long 0, .null, .int 0, .int 0, .int 0, .int 0, .int 0, .int 0, .int 0, .null, .null])), (q_1, .inl (cA_2, 64, .inl (upd (upd (upd f_14 61 306) 62 307) 63 308))), (q_15, .inl (cA_16, 64, .inl (upd (upd (upd (upd (upd f_24 41 4205) 42 4314) 43 4315) 44 4180) 45 4181)))] := hD
  rw [← ef_25] at hP hD
  have hP : va_P (dC, dI) vcl [(h0, .inr (14, [.ref q_1, .null, .null, .null, .null, .null, .int 0, .null, .null, .null, .long 0, .null, .int 0, .int 0, .int 0, .int 0, .int 0, .int 0, .int 0, .null, .null])), (q_1, .inl (cA_2, 64, .inl (upd (upd (upd f_14 61 306) 62 307) 63 308))), (q_15, .inl (cA_16, 64, .inl f_25))] H := hP
  have hD : va_D A [(h0, .inr (14, [.ref q_1, .null, .null, .null, .null, .null, .int 0, .null, .null, .null, .long 0, .null, .int 0, .int 0, .int 0, .int 0, .int 0, .int 0, .int 0, .null, .null])), (q_1, .inl (cA_2, 64, .inl (upd (upd (upd f_14 61 306) 62 307) 63 308))), (q_15, .inl (cA_16, 64, .inl f_25))] := hD
  refine lv_dup hx hb d_mLines_init_749 rfl ?_
  refine lv_bipush (v := 46) hx hb d_mLines_init_750 (by decide) ?_
  refine lv_sipush (v := 4182) hx hb d_mLines_init_752 (by decide) ?_
  refine va_iast hx hb hK hP hD hS 2 1 rfl rfl (show ¬ ((46 : Int32) < 0 ∨ 64 ≤ (46 : Int32).toNatClampNeg) by decide) d_mLines_init_755 (fun H locs hP hD hS => ?_)
  rw [show (46 : Int32).toNatClampNeg = 46 by decide] at hP hD
  have hP : va_P (dC, dI) vcl [(h0, .inr (14, [.ref q_1, .null, .null, .null, .null, .null, .int 0, .null, .null, .null, .long 0, .null, .int 0, .int 0, .int 0, .int 0, .int 0, .int 0, .int 0, .null, .null])), (q_1, .inl (cA_2, 64, .inl (upd (upd (upd f_14 61 306) 62 307) 63 308))), (q_15, .inl (cA_16, 64, .inl (upd f_25 46 4182)))] H := hP
  have hD : va_D A [(h0, .inr (14, [.ref q_1, .null, .null, .null, .null, .null, .int 0, .null, .null, .null, .long 0, .null, .int 0, .int 0, .int 0, .int 0, .int 0, .int 0, .int 0, .null, .null])), (q_1, .inl (cA_2, 64, .inl (upd (upd (upd f_14 61 306) 62 307) 63 308))), (q_15, .inl (cA_16, 64, .inl (upd f_25 46 4182)))] := hD
  refine lv_dup hx hb d_mLines_init_756 rfl ?_
  refine lv_bipush (v := 47) hx hb d_mLines_init_757 (by decide) ?_
  refine lv_sipush (v := 4183) hx hb d_mLines_init_759 (by decide) ?_
  refine va_iast hx hb hK hP hD hS 2 1 rfl rfl (show ¬ ((47 : Int32) < 0 ∨ 64 ≤ (47 : Int32).toNatClampNeg) by decide) d_mLines_init_762 (fun H locs hP hD hS => ?_)
  rw [show (47 : Int32).toNatClampNeg = 47 by decide] at hP hD
  have hP : va_P (dC, dI) vcl [(h0, .inr (14, [.ref q_1, .null, .null, .null, .null, .null, .int 0, .null, .null, .null, .long 0, .null, .int 0, .int 0, .int 0, .int 0, .int 0, .int 0, .int 0, .null, .null])), (q_1, .inl (cA_2, 64, .inl (upd (upd (upd f_14 61 306) 62 307) 63 308))), (q_15, .inl (cA_16, 64, .inl (upd (upd f_25 46 4182) 47 4183)))] H := hP
  have hD : va_D A [(h0, .inr (14, [.ref q_1, .null, .null, .null, .null, .null, .int 0, .null, .null, .null, .long 0, .null, .int 0, .int 0, .int 0, .int 0, .int 0, .int 0, .int 0, .null, .null])), (q_1, .inl (cA_2, 64, .inl (upd (upd (upd f_14 61 306) 62 307) 63 308))), (q_15, .inl (cA_16, 64, .inl (upd (upd f_25 46 4182) 47 4183)))] := hD
  refine lv_dup hx hb d_mLines_init_763 rfl ?_
  refine lv_bipush (v := 48) hx hb d_mLines_init_764 (by decide) ?_
  refine lv_sipush (v := 4196) hx hb d_mLines_init_766 (by decide) ?_
  refine va_iast hx hb hK hP hD hS 2 1 rfl rfl (show ¬ ((48 : Int32) < 0 ∨ 64 ≤ (48 : Int32).toNatClampNeg) by decide) d_mLines_init_769 (fun H locs hP hD hS => ?_)
  rw [show (48 : Int32).toNatClampNeg = 48 by decide] at hP hD
  have hP : va_P (dC, dI) vcl [(h0, .inr (14, [.ref q_1, .null, .null, .null, .null, .null, .int 0, .null, .null, .null, .long 0, .null, .int 0, .int 0, .int 0, .int 0, .int 0, .int 0, .int 0, .null, .null])), (q_1, .inl (cA_2, 64, .inl (upd (upd (upd f_14 61 306) 62 307) 63 308))), (q_15, .inl (cA_16, 64, .inl (upd (upd (upd f_25 46 4182) 47 4183) 48 4196)))] H := hP
  have hD : va_D A [(h0, .inr (14, [.ref q_1, .null, .null, .null, .null, .null, .int 0, .null, .null, .null, .long 0, .null, .int 0, .int 0, .int 0, .int 0, .int 0, .int 0, .int 0, .null, .null])), (q_1, .inl (cA_2, 64, .inl (upd (upd (upd f_14 61 306) 62 307) 63 308))), (q_15, .inl (cA_16, 64, .inl (upd (upd (upd f_25 46 4182) 47 4183) 48 4196)))] := hD
  refine lv_dup hx hb d_mLines_init_770 rfl ?_
  refine lv_bipush (v := 49) hx hb d_mLines_init_771 (by decide) ?_
  refine lv_sipush (v := 4197) hx hb d_mLines_init_773 (by decide) ?_
  refine va_iast hx hb hK hP hD hS 2 1 rfl rfl (show ¬ ((49 : Int32) < 0 ∨ 64 ≤ (49 : Int32).toNatClampNeg) by decide) d_mLines_init_776 (fun H locs hP hD hS => ?_)
  rw [show (49 : Int32).toNatClampNeg = 49 by decide] at hP hD
  have hP : va_P (dC, dI) vcl [(h0, .inr (14, [.ref q_1, .null, .null, .null, .null, .null, .int 0, .null, .null, .null, .long 0, .null, .int 0, .int 0, .int 0, .int 0, .int 0, .int 0, .int 0, .null, .null])), (q_1, .inl (cA_2, 64, .inl (upd (upd (upd f_14 61 306) 62 307) 63 308))), (q_15, .inl (cA_16, 64, .inl (upd (upd (upd (upd f_25 46 4182) 47 4183) 48 4196) 49 4197)))] H := hP
  have hD : va_D A [(h0, .inr (14, [.ref q_1, .null, .null, .null, .null, .null, .int 0, .null, .null, .null, .long 0, .null, .int 0, .int 0, .int 0, .int 0, .int 0, .int 0, .int 0, .null, .null])), (q_1, .inl (cA_2, 64, .inl (upd (upd (upd f_14 61 306) 62 307) 63 308))), (q_15, .inl (cA_16, 64, .inl (upd (upd (upd (upd f_25 46 4182) 47 4183) 48 4196) 49 4197)))] := hD
  refine lv_dup hx hb d_mLines_init_777 rfl ?_
  refine lv_bipush (v := 50) hx hb d_mLines_init_778 (by decide) ?_
  refine lv_sipush (v := 4178) hx hb d_mLines_init_780 (by decide) ?_
  refine va_iast hx hb hK hP hD hS 2 1 rfl rfl (show ¬ ((50 : Int32) < 0 ∨ 64 ≤ (50 : Int32).toNatClampNeg) by decide) d_mLines_init_783 (fun H locs hP hD hS => ?_)
  rw [show (50 : Int32).toNatClampNeg = 50 by decide] at hP hD
  obtain ⟨f_26, ef_26⟩ : ∃ y : Nat → Int32, y = upd (upd (upd (upd (upd f_25 46 4182) 47 4183) 48 4196) 49 4197) 50 4178 := ⟨_, rfl⟩
  have hP : va_P (dC, dI) vcl [(h0, .inr (14, [.ref q_1, .null, .null, .null, .null, .null, .int 0, .null, .null, .null, .long 0, .null, .int 0, .int 0, .int 0, .int 0, .int 0, .int 0, .int 0, .null, .null])), (q_1, .inl (cA_2, 64, .inl (upd (upd (upd f_14 61 306) 62 307) 63 308))), (q_15, .inl (cA_16, 64, .inl (upd (upd (upd (upd (upd f_25 46 4182) 47 4183) 48 4196) 49 4197) 50 4178)))] H := hP
  have hD : va_D A [(h0, .inr (14, [.ref q_1, .null, .null, .null, .null, .null, .int 0, .null, .null, .null, .long 0, .null, .int 0, .int 0, .int 0, .int 0, .int 0, .int 0, .int 0, .null, .null])), (q_1, .inl (cA_2, 64, .inl (upd (upd (upd f_14 61 306) 62 307) 63 308))), (q_15, .inl (cA_16, 64, .inl (upd (upd (upd (upd (upd f_25 46 4182) 47 4183) 48 4196) 49 4197) 50 4178)))] := hD
  rw [← ef_26] at hP hD
  have hP : va_P (dC, dI) vcl [(h0, .inr (14, [.ref q_1, .null, .null, .null, .null, .null, .int 0, .null, .null, .null, .long 0, .null, .int 0, .int 0, .int 0, .int 0, .int 0, .int 0, .int 0, .null, .null])), (q_1, .inl (cA_2, 64, .inl (upd (upd (upd f_14 61 306) 62 307) 63 308))), (q_15, .inl (cA_16, 64, .inl f_26))] H := hP
  have hD : va_D A [(h0, .inr (14, [.ref q_1, .null, .null, .null, .null, .null, .int 0, .null, .null, .null, .long 0, .null, .int 0, .int 0, .int 0, .int 0, .int 0, .int 0, .int 0, .null, .null])), (q_1, .inl (cA_2, 64, .inl (upd (upd (upd f_14 61 306) 62 307) 63 308))), (q_15, .inl (cA_16, 64, .inl f_26))] := hD
  refine lv_dup hx hb d_mLines_init_784 rfl ?_
  refine lv_bipush (v := 51) hx hb d_mLines_init_785 (by decide) ?_
  refine lv_sipush (v := 4179) hx hb d_mLines_init_787 (by decide) ?_
  refine va_iast hx hb hK hP hD hS 2 1 rfl rfl (show ¬ ((51 : Int32) < 0 ∨ 64 ≤ (51 : Int32).toNatClampNeg) by decide) d_mLines_init_790 (fun H locs hP hD hS => ?_)
  rw [show (51 : Int32).toNatClampNeg = 51 by decide] at hP hD
  have hP : va_P (dC, dI) vcl [(h0, .inr (14, [.ref q_1, .null, .null, .null, .null, .null, .int 0, .null, .null, .null, .long 0, .null, .int 0, .int 0, .int 0, .int 0, .int 0, .int 0, .int 0, .null, .null])), (q_1, .inl (cA_2, 64, .inl (upd (upd (upd f_14 61 306) 62 307) 63 308))), (q_15, .inl (cA_16, 64, .inl (upd f_26 51 4179)))] H := hP
  have hD : va_D A [(h0, .inr (14, [.ref q_1, .null, .null, .null, .null, .null, .int 0, .null, .null, .null, .long 0, .null, .int 0, .int 0, .int 0, .int 0, .int 0, .int 0, .int 0, .null, .null])), (q_1, .inl (cA_2, 64, .inl (upd (upd (upd f_14 61 306) 62 307) 63 308))), (q_15, .inl (cA_16, 64, .inl (upd f_26 51 4179)))] := hD
  refine lv_dup hx hb d_mLines_init_791 rfl ?_
  refine lv_bipush (v := 52) hx hb d_mLines_init_792 (by decide) ?_
  refine lv_sipush (v := 4132) hx hb d_mLines_init_794 (by decide) ?_
  refine va_iast hx hb hK hP hD hS 2 1 rfl rfl (show ¬ ((52 : Int32) < 0 ∨ 64 ≤ (52 : Int32).toNatClampNeg) by decide) d_mLines_init_797 (fun H locs hP hD hS => ?_)
  rw [show (52 : Int32).toNatClampNeg = 52 by decide] at hP hD
  have hP : va_P (dC, dI) vcl [(h0, .inr (14, [.ref q_1, .null, .null, .null, .null, .null, .int 0, .null, .null, .null, .long 0, .null, .int 0, .int 0, .int 0, .int 0, .int 0, .int 0, .int 0, .null, .null])), (q_1, .inl (cA_2, 64, .inl (upd (upd (upd f_14 61 306) 62 307) 63 308))), (q_15, .inl (cA_16, 64, .inl (upd (upd f_26 51 4179) 52 4132)))] H := hP
  have hD : va_D A [(h0, .inr (14, [.ref q_1, .null, .null, .null, .null, .null, .int 0, .null, .null, .null, .long 0, .null, .int 0, .int 0, .int 0, .int 0, .int 0, .int 0, .int 0, .null, .null])), (q_1, .inl (cA_2, 64, .inl (upd (upd (upd f_14 61 306) 62 307) 63 308))), (q_15, .inl (cA_16, 64, .inl (upd (upd f_26 51 4179) 52 4132)))] := hD
  refine lv_dup hx hb d_mLines_init_798 rfl ?_
  refine lv_bipush (v := 53) hx hb d_mLines_init_799 (by decide) ?_
  refine lv_sipush (v := 4151) hx hb d_mLines_init_801 (by decide) ?_
  refine va_iast hx hb hK hP hD hS 2 1 rfl rfl (show ¬ ((53 : Int32) < 0 ∨ 64 ≤ (53 : Int32).toNatClampNeg) by decide) d_mLines_init_804 (fun H locs hP hD hS => ?_)
  rw [show (53 : Int32).toNatClampNeg = 53 by decide] at hP hD
  have hP : va_P (dC, dI) vcl [(h0, .inr (14, [.ref q_1, .null, .null, .null, .null, .null, .int 0, .null, .null, .null, .long 0, .null, .int 0, .int 0, .int 0, .int 0, .int 0, .int 0, .int 0, .null, .null])), (q_1, .inl (cA_2, 64, .inl (upd (upd (upd f_14 61 306) 62 307) 63 308))), (q_15, .inl (cA_16, 64, .inl (upd (upd (upd f_26 51 4179) 52 4132) 53 4151)))] H := hP
  have hD : va_D A [(h0, .inr (14, [.ref q_1, .null, .null, .null, .null, .null, .int 0, .null, .null, .null, .long 0, .null, .int 0, .int 0, .int 0, .int 0, .int 0, .int 0, .int 0, .null, .null])), (q_1, .inl (cA_2, 64, .inl (upd (upd (upd f_14 61 306) 62 307) 63 308))), (q_15, .inl (cA_16, 64, .inl (upd (upd (upd f_26 51 4179) 52 4132) 53 4151)))] := hD
  refine lv_dup hx hb d_mLines_init_805 rfl ?_
  refine lv_bipush (v := 54) hx hb d_mLines_init_806 (by decide) ?_
  refine lv_sipush (v := 4152) hx hb d_mLines_init_808 (by decide) ?_
  refine va_iast hx hb hK hP hD hS 2 1 rfl rfl (show ¬ ((54 : Int32) < 0 ∨ 64 ≤ (54 : Int32).toNatClampNeg) by decide) d_mLines_init_811 (fun H locs hP hD hS => ?_)
  rw [show (54 : Int32).toNatClampNeg = 54 by decide] at hP hD
  have hP : va_P (dC, dI) vcl [(h0, .inr (14, [.ref q_1, .null, .null, .null, .null, .null, .int 0, .null, .null, .null, .long 0, .null, .int 0, .int 0, .int 0, .int 0, .int 0, .int 0, .int 0, .null, .null])), (q_1, .inl (cA_2, 64, .inl (upd (upd (upd f_14 61 306) 62 307) 63 308))), (q_15, .inl (cA_16, 64, .inl (upd (upd (upd (upd f_26 51 4179) 52 4132) 53 4151) 54 4152)))] H := hP
  have hD : va_D A [(h0, .inr (14, [.ref q_1, .null, .null, .null, .null, .null, .int 0, .null, .null, .null, .long 0, .null, .int 0, .int 0, .int 0, .int 0, .int 0, .int 0, .int 0, .null, .null])), (q_1, .inl (cA_2, 64, .inl (upd (upd (upd f_14 61 306) 62 307) 63 308))), (q_15, .inl (cA_16, 64, .inl (upd (upd (upd (upd f_26 51 4179) 52 4132) 53 4151) 54 4152)))] := hD
  refine lv_dup hx hb d_mLines_init_812 rfl ?_
  refine lv_bipush (v := 55) hx hb d_mLines_init_813 (by decide) ?_
  refine lv_sipush (v := 4135) hx hb d_mLines_init_815 (by decide) ?_
  refine va_iast hx hb hK hP hD hS 2 1 rfl rfl (show ¬ ((55 : Int32) < 0 ∨ 64 ≤ (55 : Int32).toNatClampNeg) by decide) d_mLines_init_818 (fun H locs hP hD hS => ?_)
  rw [show (55 : Int32).toNatClampNeg = 55 by decide] at hP hD
  obtain ⟨f_27, ef_27⟩ : ∃ y : Nat → Int32, y = upd (upd (upd (upd (upd f_26 51 4179) 52 4132) 53 4151) 54 4152) 55 4135 := ⟨_, rfl⟩
  have hP : va_P (dC, dI) vcl [(h0, .inr (14, [.ref q_1, .null, .null, .null, .null, .null, .int 0, .null, .null, .null, .long 0, .null, .int 0, .int 0, .int 0, .int 0, .int 0, .int 0, .int 0, .null, .null])), (q_1, .inl (cA_2, 64, .inl (upd (upd (upd f_14 61 306) 62 307) 63 308))), (q_15, .inl (cA_16, 64, .inl (upd (upd (upd (upd (upd f_26 51 4179) 52 4132) 53 4151) 54 4152) 55 4135)))] H := hP
  have hD : va_D A [(h0, .inr (14, [.ref q_1, .null, .null, .null, .null, .null, .int 0, .null, .null, .null, .long 0, .null, .int 0, .int 0, .int 0, .int 0, .int 0, .int 0, .int 0, .null, .null])), (q_1, .inl (cA_2, 64, .inl (upd (upd (upd f_14 61 306) 62 307) 63 308))), (q_15, .inl (cA_16, 64, .inl (upd (upd (upd (upd (upd f_26 51 4179) 52 4132) 53 4151) 54 4152) 55 4135)))] := hD
  rw [← ef_27] at hP hD
  have hP : va_P (dC, dI) vcl [(h0, .inr (14, [.ref q_1, .null, .null, .null, .null, .null, .int 0, .null, .null, .null, .long 0, .null, .int 0, .int 0, .int 0, .int 0, .int 0, .int 0, .int 0, .null, .null])), (q_1, .inl (cA_2, 64, .inl (upd (upd (upd f_14 61 306) 62 307) 63 308))), (q_15, .inl (cA_16, 64, .inl f_27))] H := hP
  have hD : va_D A [(h0, .inr (14, [.ref q_1, .null, .null, .null, .null, .null, .int 0, .null, .null, .null, .long 0, .null, .int 0, .int 0, .int 0, .int 0, .int 0, .int 0, .int 0, .null, .null])), (q_1, .inl (cA_2, 64, .inl (upd (upd (upd f_14 61 306) 62 307) 63 308))), (q_15, .inl (cA_16, 64, .inl f_27))] := hD
  refine lv_dup hx hb d_mLines_init_819 rfl ?_
  refine lv_bipush (v := 56) hx hb d_mLines_init_820 (by decide) ?_
  refine lv_sipush (v := 4136) hx hb d_mLines_init_822 (by decide) ?_
  refine va_iast hx hb hK hP hD hS 2 1 rfl rfl (show ¬ ((56 : Int32) < 0 ∨ 64 ≤ (56 : Int32).toNatClampNeg) by decide) d_mLines_init_825 (fun H locs hP hD hS => ?_)
  rw [show (56 : Int32).toNatClampNeg = 56 by decide] at hP hD
  have hP : va_P (dC, dI) vcl [(h0, .inr (14, [.ref q_1, .null, .null, .null, .null, .null, .int 0, .null, .null, .null, .long 0, .null, .int 0, .int 0, .int 0, .int 0, .int 0, .int 0, .int 0, .null, .null])), (q_1, .inl (cA_2, 64, .inl (upd (upd (upd f_14 61 306) 62 307) 63 308))), (q_15, .inl (cA_16, 64, .inl (upd f_27 56 4136)))] H := hP
  have hD : va_D A [(h0, .inr (14, [.ref q_1, .null, .null, .null, .null, .null, .int 0, .null, .null, .null, .long 0, .null, .int 0, .int 0, .int 0, .int 0, .int 0, .int 0, .int 0, .null, .null])), (q_1, .inl (cA_2, 64, .inl (upd (upd (upd f_14 61 306) 62 307) 63 308))), (q_15, .inl (cA_16, 64, .inl (upd f_27 56 4136)))] := hD
  refine lv_dup hx hb d_mLines_init_826 rfl ?_
  refine lv_bipush (v := 57) hx hb d_mLines_init_827 (by decide) ?_
  refine lv_sipush (v := 4184) hx hb d_mLines_init_829 (by decide) ?_
  refine va_iast hx hb hK hP hD hS 2 1 rfl rfl (show ¬ ((57 : Int32) < 0 ∨ 64 ≤ (57 : Int32).toNatClampNeg) by decide) d_mLines_init_832 (fun H locs hP hD hS => ?_)
  rw [show (57 : Int32).toNatClampNeg = 57 by decide] at hP hD
  have hP : va_P (dC, dI) vcl [(h0, .inr (14, [.ref q_1, .null, .null, .null, .null, .null, .int 0, .null, .null, .null, .long 0, .null, .int 0, .int 0, .int 0, .int 0, .int 0, .int 0, .int 0, .null, .null])), (q_1, .inl (cA_2, 64, .inl (upd (upd (upd f_14 61 306) 62 307) 63 308))), (q_15, .inl (cA_16, 64, .inl (upd (upd f_27 56 4136) 57 4184)))] H := hP
  have hD : va_D A [(h0, .inr (14, [.ref q_1, .null, .null, .null, .null, .null, .int 0, .null, .null, .null, .long 0, .null, .int 0, .int 0, .int 0, .int 0, .int 0, .int 0, .int 0, .null, .null])), (q_1, .inl (cA_2, 64, .inl (upd (upd (upd f_14 61 306) 62 307) 63 308))), (q_15, .inl (cA_16, 64, .inl (upd (upd f_27 56 4136) 57 4184)))] := hD
  refine lv_dup hx hb d_mLines_init_833 rfl ?_
  refine lv_bipush (v := 58) hx hb d_mLines_init_834 (by decide) ?_
  refine lv_sipush (v := 4185) hx hb d_mLines_init_836 (by decide) ?_
  refine va_iast hx hb hK hP hD hS 2 1 rfl rfl (show ¬ ((58 : Int32) < 0 ∨ 64 ≤ (58 : Int32).toNatClampNeg) by decide) d_mLines_init_839 (fun H locs hP hD hS => ?_)
  rw [show (58 : Int32).toNatClampNeg = 58 by decide] at hP hD
  have hP : va_P (dC, dI) vcl [(h0, .inr (14, [.ref q_1, .null, .null, .null, .null, .null, .int 0, .null, .null, .null, .long 0, .null, .int 0, .int 0, .int 0, .int 0, .int 0, .int 0, .int 0, .null, .null])), (q_1, .inl (cA_2, 64, .inl (upd (upd (upd f_14 61 306) 62 307) 63 308))), (q_15, .inl (cA_16, 64, .inl (upd (upd (upd f_27 56 4136) 57 4184) 58 4185)))] H := hP
  have hD : va_D A [(h0, .inr (14, [.ref q_1, .null, .null, .null, .null, .null, .int 0, .null, .null, .null, .long 0, .null, .int 0, .int 0, .int 0, .int 0, .int 0, .int 0, .int 0, .null, .null])), (q_1, .inl (cA_2, 64, .inl (upd (upd (upd f_14 61 306) 62 307) 63 308))), (q_15, .inl (cA_16, 64, .inl (upd (upd (upd f_27 56 4136) 57 4184) 58 4185)))] := hD
  refine lv_dup hx hb d_mLines_init_840 rfl ?_
  refine lv_bipush (v := 59) hx hb d_mLines_init_841 (by decide) ?_
  refine lv_sipush (v := 4139) hx hb d_mLines_init_843 (by decide) ?_
  refine va_iast hx hb hK hP hD hS 2 1 rfl rfl (show ¬ ((59 : Int32) < 0 ∨ 64 ≤ (59 : Int32).toNatClampNeg) by decide) d_mLines_init_846 (fun H locs hP hD hS => ?_)
  rw [show (59 : Int32).toNatClampNeg = 59 by decide] at hP hD
  have hP : va_P (dC, dI) vcl [(h0, .inr (14, [.ref q_1, .null, .null, .null, .null, .null, .int 0, .null, .null, .null, .long 0, .null, .int 0, .int 0, .int 0, .int 0, .int 0, .int 0, .int 0, .null, .null])), (q_1, .inl (cA_2, 64, .inl (upd (upd (upd f_14 61 306) 62 307) 63 308))), (q_15, .inl (cA_16, 64, .inl (upd (upd (upd (upd f_27 56 4136) 57 4184) 58 4185) 59 4139)))] H := hP
  have hD : va_D A [(h0, .inr (14, [.ref q_1, .null, .null, .null, .null, .null, .int 0, .null, .null, .null, .long 0, .null, .int 0, .int 0, .int 0, .int 0, .int 0, .int 0, .int 0, .null, .null])), (q_1, .inl (cA_2, 64, .inl (upd (upd (upd f_14 61 306) 62 307) 63 308))), (q_15, .inl (cA_16, 64, .inl (upd (upd (upd (upd f_27 56 4136) 57 4184) 58 4185) 59 4139)))] := hD
  refine lv_dup hx hb d_mLines_init_847 rfl ?_
  refine lv_bipush (v := 60) hx hb d_mLines_init_848 (by decide) ?_
  refine lv_sipush (v := 4140) hx hb d_mLines_init_850 (by decide) ?_
  refine va_iast hx hb hK hP hD hS 2 1 rfl rfl (show ¬ ((60 : Int32) < 0 ∨ 64 ≤ (60 : Int32).toNatClampNeg) by decide) d_mLines_init_853 (fun H locs hP hD hS => ?_)
  rw [show (60 : Int32).toNatClampNeg = 60 by decide] at hP hD
  obtain ⟨f_28, ef_28⟩ : ∃ y : Nat → Int32, y = upd (upd (upd (upd (upd f_27 56 4136) 57 4184) 58 4185) 59 4139) 60 4140 := ⟨_, rfl⟩
  have hP : va_P (dC, dI) vcl [(h0, .inr (14, [.ref q_1, .null, .null, .null, .null, .null, .int 0, .null, .null, .null, .long 0, .null, .int 0, .int 0, .int 0, .int 0, .int 0, .int 0, .int 0, .null, .null])), (q_1, .inl (cA_2, 64, .inl (upd (upd (upd f_14 61 306) 62 307) 63 308))), (q_15, .inl (cA_16, 64, .inl (upd (upd (upd (upd (upd f_27 56 4136) 57 4184) 58 4185) 59 4139) 60 4140)))] H := hP
  have hD : va_D A [(h0, .inr (14, [.ref q_1, .null, .null, .null, .null, .null, .int 0, .null, .null, .null, .long 0, .null, .int 0, .int 0, .int 0, .int 0, .int 0, .int 0, .int 0, .null, .null])), (q_1, .inl (cA_2, 64, .inl (upd (upd (upd f_14 61 306) 62 307) 63 308))), (q_15, .inl (cA_16, 64, .inl (upd (upd (upd (upd (upd f_27 56 4136) 57 4184) 58 4185) 59 4139) 60 4140)))] := hD
  rw [← ef_28] at hP hD
  have hP : va_P (dC, dI) vcl [(h0, .inr (14, [.ref q_1, .null, .null, .null, .null, .null, .int 0, .null, .null, .null, .long 0, .null, .int 0, .int 0, .int 0, .int 0, .int 0, .int 0, .int 0, .null, .null])), (q_1, .inl (cA_2, 64, .inl (upd (upd (upd f_14 61 306) 62 307) 63 308))), (q_15, .inl (cA_16, 64, .inl f_28))] H := hP
  have hD : va_D A [(h0, .inr (14, [.ref q_1, .null, .null, .null, .null, .null, .int 0, .null, .null, .null, .long 0, .null, .int 0, .int 0, .int 0, .int 0, .int 0, .int 0, .int 0, .null, .null])), (q_1, .inl (cA_2, 64, .inl (upd (upd (upd f_14 61 306) 62 307) 63 308))), (q_15, .inl (cA_16, 64, .inl f_28))] := hD
  refine lv_dup hx hb d_mLines_init_854 rfl ?_
  refine lv_bipush (v := 61) hx hb d_mLines_init_855 (by decide) ?_
  refine lv_sipush (v := 4186) hx hb d_mLines_init_857 (by decide) ?_
  refine va_iast hx hb hK hP hD hS 2 1 rfl rfl (show ¬ ((61 : Int32) < 0 ∨ 64 ≤ (61 : Int32).toNatClampNeg) by decide) d_mLines_init_860 (fun H locs hP hD hS => ?_)
  rw [show (61 : Int32).toNatClampNeg = 61 by decide] at hP hD
  have hP : va_P (dC, dI) vcl [(h0, .inr (14, [.ref q_1, .null, .null, .null, .null, .null, .int 0, .null, .null, .null, .long 0, .null, .int 0, .int 0, .int 0, .int 0, .int 0, .int 0, .int 0, .null, .null])), (q_1, .inl (cA_2, 64, .inl (upd (upd (upd f_14 61 306) 62 307) 63 308))), (q_15, .inl (cA_16, 64, .inl (upd f_28 61 4186)))] H := hP
  have hD : va_D A [(h0, .inr (14, [.ref q_1, .null, .null, .null, .null, .null, .int 0, .null, .null, .null, .long 0, .null, .int 0, .int 0, .int 0, .int 0, .int 0, .int 0, .int 0, .null, .null])), (q_1, .inl (cA_2, 64, .inl (upd (upd (upd f_14 61 306) 62 307) 63 308))), (q_15, .inl (cA_16, 64, .inl (upd f_28 61 4186)))] := hD
  refine lv_dup hx hb d_mLines_init_861 rfl ?_
  refine lv_bipush (v := 62) hx hb d_mLines_init_862 (by decide) ?_
  refine lv_sipush (v := 4198) hx hb d_mLines_init_864 (by decide) ?_
  refine va_iast hx hb hK hP hD hS 2 1 rfl rfl (show ¬ ((62 : Int32) < 0 ∨ 64 ≤ (62 : Int32).toNatClampNeg) by decide) d_mLines_init_867 (fun H locs hP hD hS => ?_)
  rw [show (62 : Int32).toNatClampNeg = 62 by decide] at hP hD
  have hP : va_P (dC, dI) vcl [(h0, .inr (14, [.ref q_1, .null, .null, .null, .null, .null, .int 0, .null, .null, .null, .long 0, .null, .int 0, .int 0, .int 0, .int 0, .int 0, .int 0, .int 0, .null, .null])), (q_1, .inl (cA_2, 64, .inl (upd (upd (upd f_14 61 306) 62 307) 63 308))), (q_15, .inl (cA_16, 64, .inl (upd (upd f_28 61 4186) 62 4198)))] H := hP
  have hD : va_D A [(h0, .inr (14, [.ref q_1, .null, .null, .null, .null, .null, .int 0, .null, .null, .null, .long 0, .null, .int 0, .int 0, .int 0, .int 0, .int 0, .int 0, .int 0, .null, .null])), (q_1, .inl (cA_2, 64, .inl (upd (upd (upd f_14 61 306) 62 307) 63 308))), (q_15, .inl (cA_16, 64, .inl (upd (upd f_28 61 4186) 62 4198)))] := hD
  refine lv_dup hx hb d_mLines_init_868 rfl ?_
  refine lv_bipush (v := 63) hx hb d_mLines_init_869 (by decide) ?_
  refine lv_sipush (v := 4199) hx hb d_mLines_init_871 (by decide) ?_
  refine va_iast hx hb hK hP hD hS 2 1 rfl rfl (show ¬ ((63 : Int32) < 0 ∨ 64 ≤ (63 : Int32).toNatClampNeg) by decide) d_mLines_init_874 (fun H locs hP hD hS => ?_)
  rw [show (63 : Int32).toNatClampNeg = 63 by decide] at hP hD
  have hP : va_P (dC, dI) vcl [(h0, .inr (14, [.ref q_1, .null, .null, .null, .null, .null, .int 0, .null, .null, .null, .long 0, .null, .int 0, .int 0, .int 0, .int 0, .int 0, .int 0, .int 0, .null, .null])), (q_1, .inl (cA_2, 64, .inl (upd (upd (upd f_14 61 306) 62 307) 63 308))), (q_15, .inl (cA_16, 64, .inl (upd (upd (upd f_28 61 4186) 62 4198) 63 4199)))] H := hP
  have hD : va_D A [(h0, .inr (14, [.ref q_1, .null, .null, .null, .null, .null, .int 0, .null, .null, .null, .long 0, .null, .int 0, .int 0, .int 0, .int 0, .int 0, .int 0, .int 0, .null, .null])), (q_1, .inl (cA_2, 64, .inl (upd (upd (upd f_14 61 306) 62 307) 63 308))), (q_15, .inl (cA_16, 64, .inl (upd (upd (upd f_28 61 4186) 62 4198) 63 4199)))] := hD
  refine va_putF (D := (dC, dI)) (ci := 14) (v := .ref q_15) (ty := (.array .int)) (C := R_mLines) (T := F_mLines) (N := 21) hx hb hwd i_mLines t_mLines to_mLines no_mLines hown hK hP hD hS 0 rfl rfl 1 (by decide) (hwd _ wd_10_84) (fun _ h9 => h9) rfl hin rfl (by decide +kernel) rfl rfl (Nat.le_of_ble_eq_true rfl) d_mLines_init_875 (fun H locs hP hD hS => ?_)
  have hP : va_P (dC, dI) vcl [(h0, .inr (14, [.ref q_1, .ref q_15, .null, .null, .null, .null, .int 0, .null, .null, .null, .long 0, .null, .int 0, .int 0, .int 0, .int 0, .int 0, .int 0, .int 0, .null, .null])), (q_1, .inl (cA_2, 64, .inl (upd (upd (upd f_14 61 306) 62 307) 63 308))), (q_15, .inl (cA_16, 64, .inl (upd (upd (upd f_28 61 4186) 62 4198) 63 4199)))] H := hP
  have hD : va_D A [(h0, .inr (14, [.ref q_1, .ref q_15, .null, .null, .null, .null, .int 0, .null, .null, .null, .long 0, .null, .int 0, .int 0, .int 0, .int 0, .int 0, .int 0, .int 0, .null, .null])), (q_1, .inl (cA_2, 64, .inl (upd (upd (upd f_14 61 306) 62 307) 63 308))), (q_15, .inl (cA_16, 64, .inl (upd (upd (upd f_28 61 4186) 62 4198) 63 4199)))] := hD
  refine lv_aload_n hx hb d_mLines_init_878 rfl (lv_at hl 0 rfl) ?_
  refine lv_bipush (v := 27) hx hb d_mLines_init_879 (by decide) ?_
  refine va_newa (atype := .int) (N' := 27) (a0 := (27, .inl (fun _ => 0))) (ty := .int) (n := 27) hx hb (hwd _ wd_1_167) rfl hK hP hD hS hA (fun _ => rfl) (by decide) (by decide) (by decide) (Nat.le_of_ble_eq_true rfl) (Nat.le_of_ble_eq_true rfl) d_mLines_init_881 (fun q_29 cA_30 H hK hP hD hS => ?_)
  have hP : va_P (dC, dI) vcl [(h0, .inr (14, [.ref q_1, .ref q_15, .null, .null, .null, .null, .int 0, .null, .null, .null, .long 0, .null, .int 0, .int 0, .int 0, .int 0, .int 0, .int 0, .int 0, .null, .null])), (q_1, .inl (cA_2, 64, .inl (upd (upd (upd f_14 61 306) 62 307) 63 308))), (q_15, .inl (cA_16, 64, .inl (upd (upd (upd f_28 61 4186) 62 4198) 63 4199))), (q_29, .inl (cA_30, 27, .inl (fun _ => 0)))] H := hP
  have hD : va_D A [(h0, .inr (14, [.ref q_1, .ref q_15, .null, .null, .null, .null, .int 0, .null, .null, .null, .long 0, .null, .int 0, .int 0, .int 0, .int 0, .int 0, .int 0, .int 0, .null, .null])), (q_1, .inl (cA_2, 64, .inl (upd (upd (upd f_14 61 306) 62 307) 63 308))), (q_15, .inl (cA_16, 64, .inl (upd (upd (upd f_28 61 4186) 62 4198) 63 4199))), (q_29, .inl (cA_30, 27, .inl (fun _ => 0)))] := hD
  have hK : va_K (dC, dI) vcl [(cA_2, .int), (cA_16, .int), (cA_30, .int)] s := hK
  refine W.widen (k := 3) (n := 155) (by decide) (by decide) ?_
  refine lv_dup hx hb d_mLines_init_883 rfl ?_
  refine lv_iconst (v := 0) hx hb d_mLines_init_884 (by decide) ?_
  refine lv_bipush (v := 59) hx hb d_mLines_init_885 (by decide) ?_
  refine va_iast hx hb hK hP hD hS 3 2 rfl rfl (show ¬ ((0 : Int32) < 0 ∨ 27 ≤ (0 : Int32).toNatClampNeg) by decide) d_mLines_init_887 (fun H locs hP hD hS => ?_)
  rw [show (0 : Int32).toNatClampNeg = 0 by decide] at hP hD
  have hP : va_P (dC, dI) vcl [(h0, .inr (14, [.ref q_1, .ref q_15, .null, .null, .null, .null, .int 0, .null, .null, .null, .long 0, .null, .int 0, .int 0, .int 0, .int 0, .int 0, .int 0, .int 0, .null, .null])), (q_1, .inl (cA_2, 64, .inl (upd (upd (upd f_14 61 306) 62 307) 63 308))), (q_15, .inl (cA_16, 64, .inl (upd (upd (upd f_28 61 4186) 62 4198) 63 4199))), (q_29, .inl (cA_30, 27, .inl (upd (fun _ => 0) 0 59)))] H := hP
  have hD : va_D A [(h0, .inr (14, [.ref q_1, .ref q_15, .null, .null, .null, .null, .int 0, .null, .null, .null, .long 0, .null, .int 0, .int 0, .int 0, .int 0, .int 0, .int 0, .int 0, .null, .null])), (q_1, .inl (cA_2, 64, .inl (upd (upd (upd f_14 61 306) 62 307) 63 308))), (q_15, .inl (cA_16, 64, .inl (upd (upd (upd f_28 61 4186) 62 4198) 63 4199))), (q_29, .inl (cA_30, 27, .inl (upd (fun _ => 0) 0 59)))] := hD
  refine lv_dup hx hb d_mLines_init_888 rfl ?_
  refine lv_iconst (v := 1) hx hb d_mLines_init_889 (by decide) ?_
  refine lv_bipush (v := 50) hx hb d_mLines_init_890 (by decide) ?_
  refine va_iast hx hb hK hP hD hS 3 2 rfl rfl (show ¬ ((1 : Int32) < 0 ∨ 27 ≤ (1 : Int32).toNatClampNeg) by decide) d_mLines_init_892 (fun H locs hP hD hS => ?_)
  rw [show (1 : Int32).toNatClampNeg = 1 by decide] at hP hD
  have hP : va_P (dC, dI) vcl [(h0, .inr (14, [.ref q_1, .ref q_15, .null, .null, .null, .null, .int 0, .null, .null, .null, .long 0, .null, .int 0, .int 0, .int 0, .int 0, .int 0, .int 0, .int 0, .null, .null])), (q_1, .inl (cA_2, 64, .inl (upd (upd (upd f_14 61 306) 62 307) 63 308))), (q_15, .inl (cA_16, 64, .inl (upd (upd (upd f_28 61 4186) 62 4198) 63 4199))), (q_29, .inl (cA_30, 27, .inl (upd (upd (fun _ => 0) 0 59) 1 50)))] H := hP
  have hD : va_D A [(h0, .inr (14, [.ref q_1, .ref q_15, .null, .null, .null, .null, .int 0, .null, .null, .null, .long 0, .null, .int 0, .int 0, .int 0, .int 0, .int 0, .int 0, .int 0, .null, .null])), (q_1, .inl (cA_2, 64, .inl (upd (upd (upd f_14 61 306) 62 307) 63 308))), (q_15, .inl (cA_16, 64, .inl (upd (upd (upd f_28 61 4186) 62 4198) 63 4199))), (q_29, .inl (cA_30, 27, .inl (upd (upd (fun _ => 0) 0 59) 1 50)))] := hD
  refine lv_dup hx hb d_mLines_init_893 rfl ?_
  refine lv_iconst (v := 2) hx hb d_mLines_init_894 (by decide) ?_
  refine lv_bipush (v := 87) hx hb d_mLines_init_895 (by decide) ?_
  refine va_iast hx hb hK hP hD hS 3 2 rfl rfl (show ¬ ((2 : Int32) < 0 ∨ 27 ≤ (2 : Int32).toNatClampNeg) by decide) d_mLines_init_897 (fun H locs hP hD hS => ?_)
  rw [show (2 : Int32).toNatClampNeg = 2 by decide] at hP hD
  have hP : va_P (dC, dI) vcl [(h0, .inr (14, [.ref q_1, .ref q_15, .null, .null, .null, .null, .int 0, .null, .null, .null, .long 0, .null, .int 0, .int 0, .int 0, .int 0, .int 0, .int 0, .int 0, .null, .null])), (q_1, .inl (cA_2, 64, .inl (upd (upd (upd f_14 61 306) 62 307) 63 308))), (q_15, .inl (cA_16, 64, .inl (upd (upd (upd f_28 61 4186) 62 4198) 63 4199))), (q_29, .inl (cA_30, 27, .inl (upd (upd (upd (fun _ => 0) 0 59) 1 50) 2 87)))] H := hP
  have hD : va_D A [(h0, .inr (14, [.ref q_1, .ref q_15, .null, .null, .null, .null, .int 0, .null, .null, .null, .long 0, .null, .int 0, .int 0, .int 0, .int 0, .int 0, .int 0, .int 0, .null, .null])), (q_1, .inl (cA_2, 64, .inl (upd (upd (upd f_14 61 306) 62 307) 63 308))), (q_15, .inl (cA_16, 64, .inl (upd (upd (upd f_28 61 4186) 62 4198) 63 4199))), (q_29, .inl (cA_30, 27, .inl (upd (upd (upd (fun _ => 0) 0 59) 1 50) 2 87)))] := hD
  refine lv_dup hx hb d_mLines_init_898 rfl ?_
  refine lv_iconst (v := 3) hx hb d_mLines_init_899 (by decide) ?_
  refine lv_sipush (v := 183) hx hb d_mLines_init_900 (by decide) ?_
  refine va_iast hx hb hK hP hD hS 3 2 rfl rfl (show ¬ ((3 : Int32) < 0 ∨ 27 ≤ (3 : Int32).toNatClampNeg) by decide) d_mLines_init_903 (fun H locs hP hD hS => ?_)
  rw [show (3 : Int32).toNatClampNeg = 3 by decide] at hP hD
  have hP : va_P (dC, dI) vcl [(h0, .inr (14, [.ref q_1, .ref q_15, .null, .null, .null, .null, .int 0, .null, .null, .null, .long 0, .null, .int 0, .int 0, .int 0, .int 0, .int 0, .int 0, .int 0, .null, .null])), (q_1, .inl (cA_2, 64, .inl (upd (upd (upd f_14 61 306) 62 307) 63 308))), (q_15, .inl (cA_16, 64, .inl (upd (upd (upd f_28 61 4186) 62 4198) 63 4199))), (q_29, .inl (cA_30, 27, .inl (upd (upd (upd (upd (fun _ => 0) 0 59) 1 50) 2 87) 3 183)))] H := hP
  have hD : va_D A [(h0, .inr (14, [.ref q_1, .ref q_15, .null, .null, .null, .null, .int 0, .null, .null, .null, .long 0, .null, .int 0, .int 0, .int 0, .int 0, .int 0, .int 0, .int 0, .null, .null])), (q_1, .inl (cA_2, 64, .inl (upd (upd (upd f_14 61 306) 62 307) 63 308))), (q_15, .inl (cA_16, 64, .inl (upd (upd (upd f_28 61 4186) 62 4198) 63 4199))), (q_29, .inl (cA_30, 27, .inl (upd (upd (upd (upd (fun _ => 0) 0 59) 1 50) 2 87) 3 183)))] := hD
  refine lv_dup hx hb d_mLines_init_904 rfl ?_
  refine lv_iconst (v := 4) hx hb d_mLines_init_905 (by decide) ?_
  refine lv_sipush (v := 310) hx hb d_mLines_init_906 (by decide) ?_
  refine va_iast hx hb hK hP hD hS 3 2 rfl rfl (show ¬ ((4 : Int32) < 0 ∨ 27 ≤ (4 : Int32).toNatClampNeg) by decide) d_mLines_init_909 (fun H locs hP hD hS => ?_)
  rw [show (4 : Int32).toNatClampNeg = 4 by decide] at hP hD
  obtain ⟨f_31, ef_31⟩ : ∃ y : Nat → Int32, y = upd (upd (upd (upd (upd (fun _ => 0) 0 59) 1 50) 2 87) 3 183) 4 310 := ⟨_, rfl⟩
  have hP : va_P (dC, dI) vcl [(h0, .inr (14, [.ref q_1, .ref q_15, .null, .null, .null, .null, .int 0, .null, .null, .null, .long 0, .null, .int 0, .int 0, .int 0, .int 0, .int 0, .int 0, .int 0, .null, .null])), (q_1, .inl (cA_2, 64, .inl (upd (upd (upd f_14 61 306) 62 307) 63 308))), (q_15, .inl (cA_16, 64, .inl (upd (upd (upd f_28 61 4186) 62 4198) 63 4199))), (q_29, .inl (cA_30, 27, .inl (upd (upd (upd (upd (upd (fun _ => 0) 0 59) 1 50) 2 87) 3 183) 4 310)))] H := hP
  have hD : va_D A [(h0, .inr (14, [.ref q_1, .ref q_15, .null, .null, .null, .null, .int 0, .null, .null, .null, .long 0, .null, .int 0, .int 0, .int 0, .int 0, .int 0, .int 0, .int 0, .null, .null])), (q_1, .inl (cA_2, 64, .inl (upd (upd (upd f_14 61 306) 62 307) 63 308))), (q_15, .inl (cA_16, 64, .inl (upd (upd (upd f_28 61 4186) 62 4198) 63 4199))), (q_29, .inl (cA_30, 27, .inl (upd (upd (upd (upd (upd (fun _ => 0) 0 59) 1 50) 2 87) 3 183) 4 310)))] := hD
  rw [← ef_31] at hP hD
  have hP : va_P (dC, dI) vcl [(h0, .inr (14, [.ref q_1, .ref q_15, .null, .null, .null, .null, .int 0, .null, .null, .null, .long 0, .null, .int 0, .int 0, .int 0, .int 0, .int 0, .int 0, .int 0, .null, .null])), (q_1, .inl (cA_2, 64, .inl (upd (upd (upd f_14 61 306) 62 307) 63 308))), (q_15, .inl (cA_16, 64, .inl (upd (upd (upd f_28 61 4186) 62 4198) 63 4199))), (q_29, .inl (cA_30, 27, .inl f_31))] H := hP
  have hD : va_D A [(h0, .inr (14, [.ref q_1, .ref q_15, .null, .null, .null, .null, .int 0, .null, .null, .null, .long 0, .null, .int 0, .int 0, .int 0, .int 0, .int 0, .int 0, .int 0, .null, .null])), (q_1, .inl (cA_2, 64, .inl (upd (upd (upd f_14 61 306) 62 307) 63 308))), (q_15, .inl (cA_16, 64, .inl (upd (upd (upd f_28 61 4186) 62 4198) 63 4199))), (q_29, .inl (cA_30, 27, .inl f_31))] := hD
  refine lv_dup hx hb d_mLines_init_910 rfl ?_
  refine lv_iconst (v := 5) hx hb d_mLines_init_911 (by decide) ?_
  refine lv_sipush (v := 311) hx hb d_mLines_init_912 (by decide) ?_
  refine va_iast hx hb hK hP hD hS 3 2 rfl rfl (show ¬ ((5 : Int32) < 0 ∨ 27 ≤ (5 : Int32).toNatClampNeg) by decide) d_mLines_init_915 (fun H locs hP hD hS => ?_)
  rw [show (5 : Int32).toNatClampNeg = 5 by decide] at hP hD
  have hP : va_P (dC, dI) vcl [(h0, .inr (14, [.ref q_1, .ref q_15, .null, .null, .null, .null, .int 0, .null, .null, .null, .long 0, .null, .int 0, .int 0, .int 0, .int 0, .int 0, .int 0, .int 0, .null, .null])), (q_1, .inl (cA_2, 64, .inl (upd (upd (upd f_14 61 306) 62 307) 63 308))), (q_15, .inl (cA_16, 64, .inl (upd (upd (upd f_28 61 4186) 62 4198) 63 4199))), (q_29, .inl (cA_30, 27, .inl (upd f_31 5 311)))] H := hP
  have hD : va_D A [(h0, .inr (14, [.ref q_1, .ref q_15, .null, .null, .null, .null, .int 0, .null, .null, .null, .long 0, .null, .int 0, .int 0, .int 0, .int 0, .int 0, .int 0, .int 0, .null, .null])), (q_1, .inl (cA_2, 64, .inl (upd (upd (upd f_14 61 306) 62 307) 63 308))), (q_15, .inl (cA_16, 64, .inl (upd (upd (upd f_28 61 4186) 62 4198) 63 4199))), (q_29, .inl (cA_30, 27, .inl (upd f_31 5 311)))] := hD
  refine lv_dup hx hb d_mLines_init_916 rfl ?_
  refine lv_bipush (v := 6) hx hb d_mLines_init_917 (by decide) ?_
  refine lv_sipush (v := 356) hx hb d_mLines_init_919 (by decide) ?_
  refine va_iast hx hb hK hP hD hS 3 2 rfl rfl (show ¬ ((6 : Int32) < 0 ∨ 27 ≤ (6 : Int32).toNatClampNeg) by decide) d_mLines_init_922 (fun H locs hP hD hS => ?_)
  rw [show (6 : Int32).toNatClampNeg = 6 by decide] at hP hD
  have hP : va_P (dC, dI) vcl [(h0, .inr (14, [.ref q_1, .ref q_15, .null, .null, .null, .null, .int 0, .null, .null, .null, .long 0, .null, .int 0, .int 0, .int 0, .int 0, .int 0, .int 0, .int 0, .null, .null])), (q_1, .inl (cA_2, 64, .inl (upd (upd (upd f_14 61 306) 62 307) 63 308))), (q_15, .inl (cA_16, 64, .inl (upd (upd (upd f_28 61 4186) 62 4198) 63 4199))), (q_29, .inl (cA_30, 27, .inl (upd (upd f_31 5 311) 6 356)))] H := hP
  have hD : va_D A [(h0, .inr (14, [.ref q_1, .ref q_15, .null, .null, .null, .null, .int 0, .null, .null, .null, .long 0, .null, .int 0, .int 0, .int 0, .int 0, .int 0, .int 0, .int 0, .null, .null])), (q_1, .inl (cA_2, 64, .inl (upd (upd (upd f_14 61 306) 62 307) 63 308))), (q_15, .inl (cA_16, 64, .inl (upd (upd (upd f_28 61 4186) 62 4198) 63 4199))), (q_29, .inl (cA_30, 27, .inl (upd (upd f_31 5 311) 6 356)))] := hD
  refine lv_dup hx hb d_mLines_init_923 rfl ?_
  refine lv_bipush (v := 7) hx hb d_mLines_init_924 (by decide) ?_
  refine lv_sipush (v := 357) hx hb d_mLines_init_926 (by decide) ?_
  refine va_iast hx hb hK hP hD hS 3 2 rfl rfl (show ¬ ((7 : Int32) < 0 ∨ 27 ≤ (7 : Int32).toNatClampNeg) by decide) d_mLines_init_929 (fun H locs hP hD hS => ?_)
  rw [show (7 : Int32).toNatClampNeg = 7 by decide] at hP hD
  have hP : va_P (dC, dI) vcl [(h0, .inr (14, [.ref q_1, .ref q_15, .null, .null, .null, .null, .int 0, .null, .null, .null, .long 0, .null, .int 0, .int 0, .int 0, .int 0, .int 0, .int 0, .int 0, .null, .null])), (q_1, .inl (cA_2, 64, .inl (upd (upd (upd f_14 61 306) 62 307) 63 308))), (q_15, .inl (cA_16, 64, .inl (upd (upd (upd f_28 61 4186) 62 4198) 63 4199))), (q_29, .inl (cA_30, 27, .inl (upd (upd (upd f_31 5 311) 6 356) 7 357)))] H := hP
  have hD : va_D A [(h0, .inr (14, [.ref q_1, .ref q_15, .null, .null, .null, .null, .int 0, .null, .null, .null, .long 0, .null, .int 0, .int 0, .int 0, .int 0, .int 0, .int 0, .int 0, .null, .null])), (q_1, .inl (cA_2, 64, .inl (upd (upd (upd f_14 61 306) 62 307) 63 308))), (q_15, .inl (cA_16, 64, .inl (upd (upd (upd f_28 61 4186) 62 4198) 63 4199))), (q_29, .inl (cA_30, 27, .inl (upd (upd (upd f_31 5 311) 6 356) 7 357)))] := hD
  refine lv_dup hx hb d_mLines_init_930 rfl ?_
  refine lv_bipush (v := 8) hx hb d_mLines_init_931 (by decide) ?_
  refine lv_sipush (v := 360) hx hb d_mLines_init_933 (by decide) ?_
  refine va_iast hx hb hK hP hD hS 3 2 rfl rfl (show ¬ ((8 : Int32) < 0 ∨ 27 ≤ (8 : Int32).toNatClampNeg) by decide) d_mLines_init_936 (fun H locs hP hD hS => ?_)
  rw [show (8 : Int32).toNatClampNeg = 8 by decide] at hP hD
  have hP : va_P (dC, dI) vcl [(h0, .inr (14, [.ref q_1, .ref q_15, .null, .null, .null, .null, .int 0, .null, .null, .null, .long 0, .null, .int 0, .int 0, .int 0, .int 0, .int 0, .int 0, .int 0, .null, .null])), (q_1, .inl (cA_2, 64, .inl (upd (upd (upd f_14 61 306) 62 307) 63 308))), (q_15, .inl (cA_16, 64, .inl (upd (upd (upd f_28 61 4186) 62 4198) 63 4199))), (q_29, .inl (cA_30, 27, .inl (upd (upd (upd (upd f_31 5 311) 6 356) 7 357) 8 360)))] H := hP
  have hD : va_D A [(h0, .inr (14, [.ref q_1, .ref q_15, .null, .null, .null, .null, .int 0, .null, .null, .null, .long 0, .null, .int 0, .int 0, .int 0, .int 0, .int 0, .int 0, .int 0, .null, .null])), (q_1, .inl (cA_2, 64, .inl (upd (upd (upd f_14 61 306) 62 307) 63 308))), (q_15, .inl (cA_16, 64, .inl (upd (upd (upd f_28 61 4186) 62 4198) 63 4199))), (q_29, .inl (cA_30, 27, .inl (upd (upd (upd (upd f_31 5 311) 6 356) 7 357) 8 360)))] := hD
  refine lv_dup hx hb d_mLines_init_937 rfl ?_
  refine lv_bipush (v := 9) hx hb d_mLines_init_938 (by decide) ?_
  refine lv_sipush (v := 359) hx hb d_mLines_init_940 (by decide) ?_
  refine va_iast hx hb hK hP hD hS 3 2 rfl rfl (show ¬ ((9 : Int32) < 0 ∨ 27 ≤ (9 : Int32).toNatClampNeg) by decide) d_mLines_init_943 (fun H locs hP hD hS => ?_)
  rw [show (9 : Int32).toNatClampNeg = 9 by decide] at hP hD
  obtain ⟨f_32, ef_32⟩ : ∃ y : Nat → Int32, y = upd (upd (upd (upd (upd f_31 5 311) 6 356) 7 357) 8 360) 9 359 := ⟨_, rfl⟩
  have hP : va_P (dC, dI) vcl [(h0, .inr (14, [.ref q_1, .ref q_15, .null, .null, .null, .null, .int 0, .null, .null, .null, .long 0, .null, .int 0, .int 0, .int 0, .int 0, .int 0, .int 0, .int 0, .null, .null])), (q_1, .inl (cA_2, 64, .inl (upd (upd (upd f_14 61 306) 62 307) 63 308))), (q_15, .inl (cA_16, 64, .inl (upd (upd (upd f_28 61 4186) 62 4198) 63 4199))), (q_29, .inl (cA_30, 27, .inl (upd (upd (upd (upd (upd f_31 5 311) 6 356) 7 357) 8 360) 9 359)))] H := hP
  have hD : va_D A [(h0, .inr (14, [.ref q_1, .ref q_15, .null, .null, .null, .null, .int 0, .null, .null, .null, .long 0, .null, .int 0, .int 0, .int 0, .int 0, .int 0, .int 0, .int 0, .null, .null])), (q_1, .inl (cA_2, 64, .inl (upd (upd (upd f_14 61 306) 62 307) 63 308))), (q_15, .inl (cA_16, 64, .inl (upd (upd (upd f_28 61 4186) 62 4198) 63 4199))), (q_29, .inl (cA_30, 27, .inl (upd (upd (upd (upd (upd f_31 5 311) 6 356) 7 357) 8 360) 9 359)))] := hD
  rw [← ef_32] at hP hD
  have hP : va_P (dC, dI) vcl [(h0, .inr (14, [.ref q_1, .ref q_15, .null, .null, .null, .null, .int 0, .null, .null, .null, .long 0, .null, .int 0, .int 0, .int 0, .int 0, .int 0, .int 0, .int 0, .null, .null])), (q_1, .inl (cA_2, 64, .inl (upd (upd (upd f_14 61 306) 62 307) 63 308))), (q_15, .inl (cA_16, 64, .inl (upd (upd (upd f_28 61 4186) 62 4198) 63 4199))), (q_29, .inl (cA_30, 27, .inl f_32))] H := hP
  have hD : va_D A [(h0, .inr (14, [.ref q_1, .ref q_15, .null, .null, .null, .null, .int 0, .null, .null, .null, .long 0, .null, .int 0, .int 0, .int 0, .int 0, .int 0, .int 0, .int 0, .null, .null])), (q_1, .inl (cA_2, 64, .inl (upd (upd (upd f_14 61 306) 62 307) 63 308))), (q_15, .inl (cA_16, 64, .inl (upd (upd (upd f_28 61 4186) 62 4198) 63 4199))), (q_29, .inl (cA_30, 27, .inl f_32))] := hD
  refine lv_dup hx hb d_mLines_init_944 rfl ?_
  refine lv_bipush (v := 10) hx hb d_mLines_init_945 (by decide) ?_
  refine lv_sipush (v := 716) hx hb d_mLines_init_947 (by decide) ?_
  refine va_iast hx hb hK hP hD hS 3 2 rfl rfl (show ¬ ((10 : Int32) < 0 ∨ 27 ≤ (10 : Int32).toNatClampNeg) by decide) d_mLines_init_950 (fun H locs hP hD hS => ?_)
  rw [show (10 : Int32).toNatClampNeg = 10 by decide] at hP hD
  have hP : va_P (dC, dI) vcl [(h0, .inr (14, [.ref q_1, .ref q_15, .null, .null, .null, .null, .int 0, .null, .null, .null, .long 0, .null, .int 0, .int 0, .int 0, .int 0, .int 0, .int 0, .int 0, .null, .null])), (q_1, .inl (cA_2, 64, .inl (upd (upd (upd f_14 61 306) 62 307) 63 308))), (q_15, .inl (cA_16, 64, .inl (upd (upd (upd f_28 61 4186) 62 4198) 63 4199))), (q_29, .inl (cA_30, 27, .inl (upd f_32 10 716)))] H := hP
  have hD : va_D A [(h0, .inr (14, [.ref q_1, .ref q_15, .null, .null, .null, .null, .int 0, .null, .null, .null, .long 0, .null, .int 0, .int 0, .int 0, .int 0, .int 0, .int 0, .int 0, .null, .null])), (q_1, .inl (cA_2, 64, .inl (upd (upd (upd f_14 61 306) 62 307) 63 308))), (q_15, .inl (cA_16, 64, .inl (upd (upd (upd f_28 61 4186) 62 4198) 63 4199))), (q_29, .inl (cA_30, 27, .inl (upd f_32 10 716)))] := hD
  refine lv_dup hx hb d_mLines_init_951 rfl ?_
  refine lv_bipush (v := 11) hx hb d_mLines_init_952 (by decide) ?_
  refine lv_sipush (v := 717) hx hb d_mLines_init_954 (by decide) ?_
  refine va_iast hx hb hK hP hD hS 3 2 rfl rfl (show ¬ ((11 : Int32) < 0 ∨ 27 ≤ (11 : Int32).toNatClampNeg) by decide) d_mLines_init_957 (fun H locs hP hD hS => ?_)
  rw [show (11 : Int32).toNatClampNeg = 11 by decide] at hP hD
  have hP : va_P (dC, dI) vcl [(h0, .inr (14, [.ref q_1, .ref q_15, .null, .null, .null, .null, .int 0, .null, .null, .null, .long 0, .null, .int 0, .int 0, .int 0, .int 0, .int 0, .int 0, .int 0, .null, .null])), (q_1, .inl (cA_2, 64, .inl (upd (upd (upd f_14 61 306) 62 307) 63 308))), (q_15, .inl (cA_16, 64, .inl (upd (upd (upd f_28 61 4186) 62 4198) 63 4199))), (q_29, .inl (cA_30, 27, .inl (upd (upd f_32 10 716) 11 717)))] H := hP
  have hD : va_D A [(h0, .inr (14, [.ref q_1, .ref q_15, .null, .null, .null, .null, .int 0, .null, .null, .null, .long 0, .null, .int 0, .int 0, .int 0, .int 0, .int 0, .int 0, .int 0, .null, .null])), (q_1, .inl (cA_2, 64, .inl (upd (upd (upd f_14 61 306) 62 307) 63 308))), (q_15, .inl (cA_16, 64, .inl (upd (upd (upd f_28 61 4186) 62 4198) 63 4199))), (q_29, .inl (cA_30, 27, .inl (upd (upd f_32 10 716) 11 717)))] := hD
  refine lv_dup hx hb d_mLines_init_958 rfl ?_
  refine lv_bipush (v := 12) hx hb d_mLines_init_959 (by decide) ?_
  refine lv_sipush (v := 722) hx hb d_mLines_init_961 (by decide) ?_
  refine va_iast hx hb hK hP hD hS 3 2 rfl rfl (show ¬ ((12 : Int32) < 0 ∨ 27 ≤ (12 : Int32).toNatClampNeg) by decide) d_mLines_init_964 (fun H locs hP hD hS => ?_)
  rw [show (12 : Int32).toNatClampNeg = 12 by decide] at hP hD
  have hP : va_P (dC, dI) vcl [(h0, .inr (14, [.ref q_1, .ref q_15, .null, .null, .null, .null, .int 0, .null, .null, .null, .long 0, .null, .int 0, .int 0, .int 0, .int 0, .int 0, .int 0, .int 0, .null, .null])), (q_1, .inl (cA_2, 64, .inl (upd (upd (upd f_14 61 306) 62 307) 63 308))), (q_15, .inl (cA_16, 64, .inl (upd (upd (upd f_28 61 4186) 62 4198) 63 4199))), (q_29, .inl (cA_30, 27, .inl (upd (upd (upd f_32 10 716) 11 717) 12 722)))] H := hP
  have hD : va_D A [(h0, .inr (14, [.ref q_1, .ref q_15, .null, .null, .null, .null, .int 0, .null, .null, .null, .long 0, .null, .int 0, .int 0, .int 0, .int 0, .int 0, .int 0, .int 0, .null, .null])), (q_1, .inl (cA_2, 64, .inl (upd (upd (upd f_14 61 306) 62 307) 63 308))), (q_15, .inl (cA_16, 64, .inl (upd (upd (upd f_28 61 4186) 62 4198) 63 4199))), (q_29, .inl (cA_30, 27, .inl (upd (upd (upd f_32 10 716) 11 717) 12 722)))] := hD
  refine lv_dup hx hb d_mLines_init_965 rfl ?_
  refine lv_bipush (v := 13) hx hb d_mLines_init_966 (by decide) ?_
  refine lv_sipush (v := 723) hx hb d_mLines_init_968 (by decide) ?_
  refine va_iast hx hb hK hP hD hS 3 2 rfl rfl (show ¬ ((13 : Int32) < 0 ∨ 27 ≤ (13 : Int32).toNatClampNeg) by decide) d_mLines_init_971 (fun H locs hP hD hS => ?_)
  rw [show (13 : Int32).toNatClampNeg = 13 by decide] at hP hD
  have hP : va_P (dC, dI) vcl [(h0, .inr (14, [.ref q_1, .ref q_15, .null, .null, .null, .null, .int 0, .null, .null, .null, .long 0, .null, .int 0, .int 0, .int 0, .int 0, .int 0, .int 0, .int 0, .null, .null])), (q_1, .inl (cA_2, 64, .inl (upd (upd (upd f_14 61 306) 62 307) 63 308))), (q_15, .inl (cA_16, 64, .inl (upd (upd (upd f_28 61 4186) 62 4198) 63 4199))), (q_29, .inl (cA_30, 27, .inl (upd (upd (upd (upd f_32 10 716) 11 717) 12 722) 13 723)))] H := hP
  have hD : va_D A [(h0, .inr (14, [.ref q_1, .ref q_15, .null, .null, .null, .null, .int 0, .null, .null, .null, .long 0, .null, .int 0, .int 0, .int 0, .int 0, .int 0, .int 0, .int 0, .null, .null])), (q_1, .inl (cA_2, 64, .inl (upd (upd (upd f_14 61 306) 62 307) 63 308))), (q_15, .inl (cA_16, 64, .inl (upd (upd (upd f_28 61 4186) 62 4198) 63 4199))), (q_29, .inl (cA_30, 27, .inl (upd (upd (upd (upd f_32 10 716) 11 717) 12 722) 13 723)))] := hD
  refine lv_dup hx hb d_mLines_init_972 rfl ?_
  refine lv_bipush (v := 14) hx hb d_mLines_init_973 (by decide) ?_
  refine lv_sipush (v := 724) hx hb d_mLines_init_975 (by decide) ?_
  refine va_iast hx hb hK hP hD hS 3 2 rfl rfl (show ¬ ((14 : Int32) < 0 ∨ 27 ≤ (14 : Int32).toNatClampNeg) by decide) d_mLines_init_978 (fun H locs hP hD hS => ?_)
  rw [show (14 : Int32).toNatClampNeg = 14 by decide] at hP hD
  obtain ⟨f_33, ef_33⟩ : ∃ y : Nat → Int32, y = upd (upd (upd (upd (upd f_32 10 716) 11 717) 12 722) 13 723) 14 724 := ⟨_, rfl⟩
  have hP : va_P (dC, dI) vcl [(h0, .inr (14, [.ref q_1, .ref q_15, .null, .null, .null, .null, .int 0, .null, .null, .null, .long 0, .null, .int 0, .int 0, .int 0, .int 0, .int 0, .int 0, .int 0, .null, .null])), (q_1, .inl (cA_2, 64, .inl (upd (upd (upd f_14 61 306) 62 307) 63 308))), (q_15, .inl (cA_16, 64, .inl (upd (upd (upd f_28 61 4186) 62 4198) 63 4199))), (q_29, .inl (cA_30, 27, .inl (upd (upd (upd (upd (upd f_32 10 716) 11 717) 12 722) 13 723) 14 724)))] H := hP
  have hD : va_D A [(h0, .inr (14, [.ref q_1, .ref q_15, .null, .null, .null, .null, .int 0, .null, .null, .null, .long 0, .null, .int 0, .int 0, .int 0, .int 0, .int 0, .int 0, .int 0, .null, .null])), (q_1, .inl (cA_2, 64, .inl (upd (upd (upd f_14 61 306) 62 307) 63 308))), (q_15, .inl (cA_16, 64, .inl (upd (upd (upd f_28 61 4186) 62 4198) 63 4199))), (q_29, .inl (cA_30, 27, .inl (upd (upd (upd (upd (upd f_32 10 716) 11 717) 12 722) 13 723) 14 724)))] := hD
  rw [← ef_33] at hP hD
  have hP : va_P (dC, dI) vcl [(h0, .inr (14, [.ref q_1, .ref q_15, .null, .null, .null, .null, .int 0, .null, .null, .null, .long 0, .null, .int 0, .int 0, .int 0, .int 0, .int 0, .int 0, .int 0, .null, .null])), (q_1, .inl (cA_2, 64, .inl (upd (upd (upd f_14 61 306) 62 307) 63 308))), (q_15, .inl (cA_16, 64, .inl (upd (upd (upd f_28 61 4186) 62 4198) 63 4199))), (q_29, .inl (cA_30, 27, .inl f_33))] H := hP
  have hD : va_D A [(h0, .inr (14, [.ref q_1, .ref q_15, .null, .null, .null, .null, .int 0, .null, .null, .null, .long 0, .null, .int 0, .int 0, .int 0, .int 0, .int 0, .int 0, .int 0, .null, .null])), (q_1, .inl (cA_2, 64, .inl (upd (upd (upd f_14 61 306) 62 307) 63 308))), (q_15, .inl (cA_16, 64, .inl (upd (upd (upd f_28 61 4186) 62 4198) 63 4199))), (q_29, .inl (cA_30, 27, .inl f_33))] := hD
  refine lv_dup hx hb d_mLines_init_979 rfl ?_
  refine lv_bipush (v := 15) hx hb d_mLines_init_980 (by decide) ?_
  refine lv_sipush (v := 725) hx hb d_mLines_init_982 (by decide) ?_
  refine va_iast hx hb hK hP hD hS 3 2 rfl rfl (show ¬ ((15 : Int32) < 0 ∨ 27 ≤ (15 : Int32).toNatClampNeg) by decide) d_mLines_init_985 (fun H locs hP hD hS => ?_)
  rw [show (15 : Int32).toNatClampNeg = 15 by decide] at hP hD
  have hP : va_P (dC, dI) vcl [(h0, .inr (14, [.ref q_1, .ref q_15, .null, .null, .null, .null, .int 0, .null, .null, .null, .long 0, .null, .int 0, .int 0, .int 0, .int 0, .int 0, .int 0, .int 0, .null, .null])), (q_1, .inl (cA_2, 64, .inl (upd (upd (upd f_14 61 306) 62 307) 63 308))), (q_15, .inl (cA_16, 64, .inl (upd (upd (upd f_28 61 4186) 62 4198) 63 4199))), (q_29, .inl (cA_30, 27, .inl (upd f_33 15 725)))] H := hP
  have hD : va_D A [(h0, .inr (14, [.ref q_1, .ref q_15, .null, .null, .null, .null, .int 0, .null, .null, .null, .long 0, .null, .int 0, .int 0, .int 0, .int 0, .int 0, .int 0, .int 0, .null, .null])), (q_1, .inl (cA_2, 64, .inl (upd (upd (upd f_14 61 306) 62 307) 63 308))), (q_15, .inl (cA_16, 64, .inl (upd (upd (upd f_28 61 4186) 62 4198) 63 4199))), (q_29, .inl (cA_30, 27, .inl (upd f_33 15 725)))] := hD
  refine lv_dup hx hb d_mLines_init_986 rfl ?_
  refine lv_bipush (v := 16) hx hb d_mLines_init_987 (by decide) ?_
  refine lv_sipush (v := 726) hx hb d_mLines_init_989 (by decide) ?_
  refine va_iast hx hb hK hP hD hS 3 2 rfl rfl (show ¬ ((16 : Int32) < 0 ∨ 27 ≤ (16 : Int32).toNatClampNeg) by decide) d_mLines_init_992 (fun H locs hP hD hS => ?_)
  rw [show (16 : Int32).toNatClampNeg = 16 by decide] at hP hD
  have hP : va_P (dC, dI) vcl [(h0, .inr (14, [.ref q_1, .ref q_15, .null, .null, .null, .null, .int 0, .null, .null, .null, .long 0, .null, .int 0, .int 0, .int 0, .int 0, .int 0, .int 0, .int 0, .null, .null])), (q_1, .inl (cA_2, 64, .inl (upd (upd (upd f_14 61 306) 62 307) 63 308))), (q_15, .inl (cA_16, 64, .inl (upd (upd (upd f_28 61 4186) 62 4198) 63 4199))), (q_29, .inl (cA_30, 27, .inl (upd (upd f_33 15 725) 16 726)))] H := hP
  have hD : va_D A [(h0, .inr (14, [.ref q_1, .ref q_15, .null, .null, .null, .null, .int 0, .null, .null, .null, .long 0, .null, .int 0, .int 0, .int 0, .int 0, .int 0, .int 0, .int 0, .null, .null])), (q_1, .inl (cA_2, 64, .inl (upd (upd (upd f_14 61 306) 62 307) 63 308))), (q_15, .inl (cA_16, 64, .inl (upd (upd (upd f_28 61 4186) 62 4198) 63 4199))), (q_29, .inl (cA_30, 27, .inl (upd (upd f_33 15 725) 16 726)))] := hD
  refine lv_dup hx hb d_mLines_init_993 rfl ?_
  refine lv_bipush (v := 17) hx hb d_mLines_init_994 (by decide) ?_
  refine lv_sipush (v := 727) hx hb d_mLines_init_996 (by decide) ?_
  refine va_iast hx hb hK hP hD hS 3 2 rfl rfl (show ¬ ((17 : Int32) < 0 ∨ 27 ≤ (17 : Int32).toNatClampNeg) by decide) d_mLines_init_999 (fun H locs hP hD hS => ?_)
  rw [show (17 : Int32).toNatClampNeg = 17 by decide] at hP hD
  have hP : va_P (dC, dI) vcl [(h0, .inr (14, [.ref q_1, .ref q_15, .null, .null, .null, .null, .int 0, .null, .null, .null, .long 0, .null, .int 0, .int 0, .int 0, .int 0, .int 0, .int 0, .int 0, .null, .null])), (q_1, .inl (cA_2, 64, .inl (upd (upd (upd f_14 61 306) 62 307) 63 308))), (q_15, .inl (cA_16, 64, .inl (upd (upd (upd f_28 61 4186) 62 4198) 63 4199))), (q_29, .inl (cA_30, 27, .inl (upd (upd (upd f_33 15 725) 16 726) 17 727)))] H := hP
  have hD : va_D A [(h0, .inr (14, [.ref q_1, .ref q_15, .null, .null, .null, .null, .int 0, .null, .null, .null, .long 0, .null, .int 0, .int 0, .int 0, .int 0, .int 0, .int 0, .int 0, .null, .null])), (q_1, .inl (cA_2, 64, .inl (upd (upd (upd f_14 61 306) 62 307) 63 308))), (q_15, .inl (cA_16, 64, .inl (upd (upd (upd f_28 61 4186) 62 4198) 63 4199))), (q_29, .inl (cA_30, 27, .inl (upd (upd (upd f_33 15 725) 16 726) 17 727)))] := hD
  refine lv_dup hx hb d_mLines_init_1000 rfl ?_
  refine lv_bipush (v := 18) hx hb d_mLines_init_1001 (by decide) ?_
  refine lv_sipush (v := 728) hx hb d_mLines_init_1003 (by decide) ?_
  refine va_iast hx hb hK hP hD hS 3 2 rfl rfl (show ¬ ((18 : Int32) < 0 ∨ 27 ≤ (18 : Int32).toNatClampNeg) by decide) d_mLines_init_1006 (fun H locs hP hD hS => ?_)
  rw [show (18 : Int32).toNatClampNeg = 18 by decide] at hP hD
  have hP : va_P (dC, dI) vcl [(h0, .inr (14, [.ref q_1, .ref q_15, .null, .null, .null, .null, .int 0, .null, .null, .null, .long 0, .null, .int 0, .int 0, .int 0, .int 0, .int 0, .int 0, .int 0, .null, .null])), (q_1, .inl (cA_2, 64, .inl (upd (upd (upd f_14 61 306) 62 307) 63 308))), (q_15, .inl (cA_16, 64, .inl (upd (upd (upd f_28 61 4186) 62 4198) 63 4199))), (q_29, .inl (cA_30, 27, .inl (upd (upd (upd (upd f_33 15 725) 16 726) 17 727) 18 728)))] H := hP
  have hD : va_D A [(h0, .inr (14, [.ref q_1, .ref q_15, .null, .null, .null, .null, .int 0, .null, .null, .null, .long 0, .null, .int 0, .int 0, .int 0, .int 0, .int 0, .int 0, .int 0, .null, .null])), (q_1, .inl (cA_2, 64, .inl (upd (upd (upd f_14 61 306) 62 307) 63 308))), (q_15, .inl (cA_16, 64, .inl (upd (upd (upd f_28 61 4186) 62 4198) 63 4199))), (q_29, .inl (cA_30, 27, .inl (upd (upd (upd (upd f_33 15 725) 16 726) 17 727) 18 728)))] := hD
  refine lv_dup hx hb d_mLines_init_1007 rfl ?_
  refine lv_bipush (v := 19) hx hb d_mLines_init_1008 (by decide) ?_
  refine lv_sipush (v := 729) hx hb d_mLines_init_1010 (by decide) ?_
  refine va_iast hx hb hK hP hD hS 3 2 rfl rfl (show ¬ ((19 : Int32) < 0 ∨ 27 ≤ (19 : Int32).toNatClampNeg) by decide) d_mLines_init_1013 (fun H locs hP hD hS => ?_)
  rw [show (19 : Int32).toNatClampNeg = 19 by decide] at hP hD
  obtain ⟨f_34, ef_34⟩ : ∃ y : Nat → Int32, y = upd (upd (upd (upd (upd f_33 15 725) 16 726) 17 727) 18 728) 19 729 := ⟨_, rfl⟩
  have hP : va_P (dC, dI) vcl [(h0, .inr (14, [.ref q_1, .ref q_15, .null, .null, .null, .null, .int 0, .null, .null, .null, .long 0, .null, .int 0, .int 0, .int 0, .int 0, .int 0, .int 0, .int 0, .null, .null])), (q_1, .inl (cA_2, 64, .inl (upd (upd (upd f_14 61 306) 62 307) 63 308))), (q_15, .inl (cA_16, 64, .inl (upd (upd (upd f_28 61 4186) 62 4198) 63 4199))), (q_29, .inl (cA_30, 27, .inl (upd (upd (upd (upd (upd f_33 15 725) 16 726) 17 727) 18 728) 19 729)))] H := hP
  have hD : va_D A [(h0, .inr (14, [.ref q_1, .ref q_15, .null, .null, .null, .null, .int 0, .null, .null, .null, .long 0, .null, .int 0, .int 0, .int 0, .int 0, .int 0, .int 0, .int 0, .null, .null])), (q_1, .inl (cA_2, 64, .inl (upd (upd (upd f_14 61 306) 62 307) 63 308))), (q_15, .inl (cA_16, 64, .inl (upd (upd (upd f_28 61 4186) 62 4198) 63 4199))), (q_29, .inl (cA_30, 27, .inl (upd (upd (upd (upd (upd f_33 15 725) 16 726) 17 727) 18 728) 19 729)))] := hD
  rw [← ef_34] at hP hD
  have hP : va_P (dC, dI) vcl [(h0, .inr (14, [.ref q_1, .ref q_15, .null, .null, .null, .null, .int 0, .null, .null, .null, .long 0, .null, .int 0, .int 0, .int 0, .int 0, .int 0, .int 0, .int 0, .null, .null])), (q_1, .inl (cA_2, 64, .inl (upd (upd (upd f_14 61 306) 62 307) 63 308))), (q_15, .inl (cA_16, 64, .inl (upd (upd (upd f_28 61 4186) 62 4198) 63 4199))), (q_29, .inl (cA_30, 27, .inl f_34))] H := hP
  have hD : va_D A [(h0, .inr (14, [.ref q_1, .ref q_15, .null, .null, .null, .null, .int 0, .null, .null, .null, .long 0, .null, .int 0, .int 0, .int 0, .int 0, .int 0, .int 0, .int 0, .null, .null])), (q_1, .inl (cA_2, 64, .inl (upd (upd (upd f_14 61 306) 62 307) 63 308))), (q_15, .inl (cA_16, 64, .inl (upd (upd (upd f_28 61 4186) 62 4198) 63 4199))), (q_29, .inl (cA_30, 27, .inl f_34))] := hD
  refine lv_dup hx hb d_mLines_init_1014 rfl ?_
  refine lv_bipush (v := 20) hx hb d_mLines_init_1015 (by decide) ?_
  refine lv_sipush (v := 730) hx hb d_mLines_init_1017 (by decide) ?_
  refine va_iast hx hb hK hP hD hS 3 2 rfl rfl (show ¬ ((20 : Int32) < 0 ∨ 27 ≤ (20 : Int32).toNatClampNeg) by decide) d_mLines_init_1020 (fun H locs hP hD hS => ?_)
  rw [show (20 : Int32).toNatClampNeg = 20 by decide] at hP hD
  have hP : va_P (dC, dI) vcl [(h0, .inr (14, [.ref q_1, .ref q_15, .null, .null, .null, .null, .int 0, .null, .null, .null, .long 0, .null, .int 0, .int 0, .int 0, .int 0, .int 0, .int 0, .int 0, .null, .null])), (q_1, .inl (cA_2, 64, .inl (upd (upd (upd f_14 61 306) 62 307) 63 308))), (q_15, .inl (cA_16, 64, .inl (upd (upd (upd f_28 61 4186) 62 4198) 63 4199))), (q_29, .inl (cA_30, 27, .inl (upd f_34 20 730)))] H := hP
  have hD : va_D A [(h0, .inr (14, [.ref q_1, .ref q_15, .null, .null, .null, .null, .int 0, .null, .null, .null, .long 0, .null, .int 0, .int 0, .int 0, .int 0, .int 0, .int 0, .int 0, .null, .null])), (q_1, .inl (cA_2, 64, .inl (upd (upd (upd f_14 61 306) 62 307) 63 308))), (q_15, .inl (cA_16, 64, .inl (upd (upd (upd f_28 61 4186) 62 4198) 63 4199))), (q_29, .inl (cA_30, 27, .inl (upd f_34 20 730)))] := hD
  refine lv_dup hx hb d_mLines_init_1021 rfl ?_
  refine lv_bipush (v := 21) hx hb d_mLines_init_1022 (by decide) ?_
  refine lv_sipush (v := 731) hx hb d_mLines_init_1024 (by decide) ?_
  refine va_iast hx hb hK hP hD hS 3 2 rfl rfl (show ¬ ((21 : Int32) < 0 ∨ 27 ≤ (21 : Int32).toNatClampNeg) by decide) d_mLines_init_1027 (fun H locs hP hD hS => ?_)
  rw [show (21 : Int32).toNatClampNeg = 21 by decide] at hP hD
  have hP : va_P (dC, dI) vcl [(h0, .inr (14, [.ref q_1, .ref q_15, .null, .null, .null, .null, .int 0, .null, .null, .null, .long 0, .null, .int 0, .int 0, .int 0, .int 0, .int 0, .int 0, .int 0, .null, .null])), (q_1, .inl (cA_2, 64, .inl (upd (upd (upd f_14 61 306) 62 307) 63 308))), (q_15, .inl (cA_16, 64, .inl (upd (upd (upd f_28 61 4186) 62 4198) 63 4199))), (q_29, .inl (cA_30, 27, .inl (upd (upd f_34 20 730) 21 731)))] H := hP
  have hD : va_D A [(h0, .inr (14, [.ref q_1, .ref q_15, .null, .null, .null, .null, .int 0, .null, .null, .null, .long 0, .null, .int 0, .int 0, .int 0, .int 0, .int 0, .int 0, .int 0, .null, .null])), (q_1, .inl (cA_2, 64, .inl (upd (upd (upd f_14 61 306) 62 307) 63 308))), (q_15, .inl (cA_16, 64, .inl (upd (upd (upd f_28 61 4186) 62 4198) 63 4199))), (q_29, .inl (cA_30, 27, .inl (upd (upd f_34 20 730) 21 731)))] := hD
  refine lv_dup hx hb d_mLines_init_1028 rfl ?_
  refine lv_bipush (v := 22) hx hb d_mLines_init_1029 (by decide) ?_
  refine lv_sipush (v := 664) hx hb d_mLines_init_1031 (by decide) ?_
  refine va_iast hx hb hK hP hD hS 3 2 rfl rfl (show ¬ ((22 : Int32) < 0 ∨ 27 ≤ (22 : Int32).toNatClampNeg) by decide) d_mLines_init_1034 (fun H locs hP hD hS => ?_)
  rw [show (22 : Int32).toNatClampNeg = 22 by decide] at hP hD
  have hP : va_P (dC, dI) vcl [(h0, .inr (14, [.ref q_1, .ref q_15, .null, .null, .null, .null, .int 0, .null, .null, .null, .long 0, .null, .int 0, .int 0, .int 0, .int 0, .int 0, .int 0, .int 0, .null, .null])), (q_1, .inl (cA_2, 64, .inl (upd (upd (upd f_14 61 306) 62 307) 63 308))), (q_15, .inl (cA_16, 64, .inl (upd (upd (upd f_28 61 4186) 62 4198) 63 4199))), (q_29, .inl (cA_30, 27, .inl (upd (upd (upd f_34 20 730) 21 731) 22 664)))] H := hP
  have hD : va_D A [(h0, .inr (14, [.ref q_1, .ref q_15, .null, .null, .null, .null, .int 0, .null, .null, .null, .long 0, .null, .int 0, .int 0, .int 0, .int 0, .int 0, .int 0, .int 0, .null, .null])), (q_1, .inl (cA_2, 64, .inl (upd (upd (upd f_14 61 306) 62 307) 63 308))), (q_15, .inl (cA_16, 64, .inl (upd (upd (upd f_28 61 4186) 62 4198) 63 4199))), (q_29, .inl (cA_30, 27, .inl (upd (upd (upd f_34 20 730) 21 731) 22 664)))] := hD
  refine lv_dup hx hb d_mLines_init_1035 rfl ?_
  refine lv_bipush (v := 23) hx hb d_mLines_init_1036 (by decide) ?_
  refine lv_sipush (v := 665) hx hb d_mLines_init_1038 (by decide) ?_
  refine va_iast hx hb hK hP hD hS 3 2 rfl rfl (show ¬ ((23 : Int32) < 0 ∨ 27 ≤ (23 : Int32).toNatClampNeg) by decide) d_mLines_init_1041 (fun H locs hP hD hS => ?_)
  rw [show (23 : Int32).toNatClampNeg = 23 by decide] at hP hD
  have hP : va_P (dC, dI) vcl [(h0, .inr (14, [.ref q_1, .ref q_15, .null, .null, .null, .null, .int 0, .null, .null, .null, .long 0, .null, .int 0, .int 0, .int 0, .int 0, .int 0, .int 0, .int 0, .null, .null])), (q_1, .inl (cA_2, 64, .inl (upd (upd (upd f_14 61 306) 62 307) 63 308))), (q_15, .inl (cA_16, 64, .inl (upd (upd (upd f_28 61 4186) 62 4198) 63 4199))), (q_29, .inl (cA_30, 27, .inl (upd (upd (upd (upd f_34 20 730) 21 731) 22 664) 23 665)))] H := hP
  have hD : va_D A [(h0, .inr (14, [.ref q_1, .ref q_15, .null, .null, .null, .null, .int 0, .null, .null, .null, .long 0, .null, .int 0, .int 0, .int 0, .int 0, .int 0, .int 0, .int 0, .null, .null])), (q_1, .inl (cA_2, 64, .inl (upd (upd (upd f_14 61 306) 62 307) 63 308))), (q_15, .inl (cA_16, 64, .inl (upd (upd (upd f_28 61 4186) 62 4198) 63 4199))), (q_29, .inl (cA_30, 27, .inl (upd (upd (upd (upd f_34 20 730) 21 731) 22 664) 23 665)))] := hD
  refine lv_dup hx hb d_mLines_init_1042 rfl ?_
  refine lv_bipush (v := 24) hx hb d_mLines_init_1043 (by decide) ?_
  refine lv_sipush (v := 666) hx hb d_mLines_init_1045 (by decide) ?_
  refine va_iast hx hb hK hP hD hS 3 2 rfl rfl (show ¬ ((24 : Int32) < 0 ∨ 27 ≤ (24 : Int32).toNatClampNeg) by decide) d_mLines_init_1048 (fun H locs hP hD hS => ?_)
  rw [show (24 : Int32).toNatClampNeg = 24 by decide] at hP hD
  obtain ⟨f_35, ef_35⟩ : ∃ y : Nat → Int32, y = upd (upd (upd (upd (upd f_34 20 730) 21 731) 22 664) 23 665) 24 666 := ⟨_, rfl⟩
  have hP : va_P (dC, dI) vcl [(h0, .inr (14, [.ref q_1, .ref q_15, .null, .null, .null, .null, .int 0, .null, .null, .null, .long 0, .null, .int 0, .int 0, .int 0, .int 0, .int 0, .int 0, .int 0, .null, .null])), (q_1, .inl (cA_2, 64, .inl (upd (upd (upd f_14 61 306) 62 307) 63 308))), (q_15, .inl (cA_16, 64, .inl (upd (upd (upd f_28 61 4186) 62 4198) 63 4199))), (q_29, .inl (cA_30, 27, .inl (upd (upd (upd (upd (upd f_34 20 730) 21 731) 22 664) 23 665) 24 666)))] H := hP
  have hD : va_D A [(h0, .inr (14, [.ref q_1, .ref q_15, .null, .null, .null, .null, .int 0, .null, .null, .null, .long 0, .null, .int 0, .int 0, .int 0, .int 0, .int 0, .int 0, .int 0, .null, .null])), (q_1, .inl (cA_2, 64, .inl (upd (upd (upd f_14 61 306) 62 307) 63 308))), (q_15, .inl (cA_16, 64, .inl (upd (upd (upd f_28 61 4186) 62 4198) 63 4199))), (q_29, .inl (cA_30, 27, .inl (upd (upd (upd (upd (upd f_34 20 730) 21 731) 22 664) 23 665) 24 666)))] := hD
  rw [← ef_35] at hP hD
  have hP : va_P (dC, dI) vcl [(h0, .inr (14, [.ref q_1, .ref q_15, .null, .null, .null, .null, .int 0, .null, .null, .null, .long 0, .null, .int 0, .int 0, .int 0, .int 0, .int 0, .int 0, .int 0, .null, .null])), (q_1, .inl (cA_2, 64, .inl (upd (upd (upd f_14 61 306) 62 307) 63 308))), (q_15, .inl (cA_16, 64, .inl (upd (upd (upd f_28 61 4186) 62 4198) 63 4199))), (q_29, .inl (cA_30, 27, .inl f_35))] H := hP
  have hD : va_D A [(h0, .inr (14, [.ref q_1, .ref q_15, .null, .null, .null, .null, .int 0, .null, .null, .null, .long 0, .null, .int 0, .int 0, .int 0, .int 0, .int 0, .int 0, .int 0, .null, .null])), (q_1, .inl (cA_2, 64, .inl (upd (upd (upd f_14 61 306) 62 307) 63 308))), (q_15, .inl (cA_16, 64, .inl (upd (upd (upd f_28 61 4186) 62 4198) 63 4199))), (q_29, .inl (cA_30, 27, .inl f_35))] := hD
  refine lv_dup hx hb d_mLines_init_1049 rfl ?_
  refine lv_bipush (v := 25) hx hb d_mLines_init_1050 (by decide) ?_
  refine lv_bipush (v := 88) hx hb d_mLines_init_1052 (by decide) ?_
  refine va_iast hx hb hK hP hD hS 3 2 rfl rfl (show ¬ ((25 : Int32) < 0 ∨ 27 ≤ (25 : Int32).toNatClampNeg) by decide) d_mLines_init_1054 (fun H locs hP hD hS => ?_)
  rw [show (25 : Int32).toNatClampNeg = 25 by decide] at hP hD
  have hP : va_P (dC, dI) vcl [(h0, .inr (14, [.ref q_1, .ref q_15, .null, .null, .null, .null, .int 0, .null, .null, .null, .long 0, .null, .int 0, .int 0, .int 0, .int 0, .int 0, .int 0, .int 0, .null, .null])), (q_1, .inl (cA_2, 64, .inl (upd (upd (upd f_14 61 306) 62 307) 63 308))), (q_15, .inl (cA_16, 64, .inl (upd (upd (upd f_28 61 4186) 62 4198) 63 4199))), (q_29, .inl (cA_30, 27, .inl (upd f_35 25 88)))] H := hP
  have hD : va_D A [(h0, .inr (14, [.ref q_1, .ref q_15, .null, .null, .null, .null, .int 0, .null, .null, .null, .long 0, .null, .int 0, .int 0, .int 0, .int 0, .int 0, .int 0, .int 0, .null, .null])), (q_1, .inl (cA_2, 64, .inl (upd (upd (upd f_14 61 306) 62 307) 63 308))), (q_15, .inl (cA_16, 64, .inl (upd (upd (upd f_28 61 4186) 62 4198) 63 4199))), (q_29, .inl (cA_30, 27, .inl (upd f_35 25 88)))] := hD
  refine lv_dup hx hb d_mLines_init_1055 rfl ?_
  refine lv_bipush (v := 26) hx hb d_mLines_init_1056 (by decide) ?_
  refine lv_sipush (v := 667) hx hb d_mLines_init_1058 (by decide) ?_
  refine va_iast hx hb hK hP hD hS 3 2 rfl rfl (show ¬ ((26 : Int32) < 0 ∨ 27 ≤ (26 : Int32).toNatClampNeg) by decide) d_mLines_init_1061 (fun H locs hP hD hS => ?_)
  rw [show (26 : Int32).toNatClampNeg = 26 by decide] at hP hD
  have hP : va_P (dC, dI) vcl [(h0, .inr (14, [.ref q_1, .ref q_15, .null, .null, .null, .null, .int 0, .null, .null, .null, .long 0, .null, .int 0, .int 0, .int 0, .int 0, .int 0, .int 0, .int 0, .null, .null])), (q_1, .inl (cA_2, 64, .inl (upd (upd (upd f_14 61 306) 62 307) 63 308))), (q_15, .inl (cA_16, 64, .inl (upd (upd (upd f_28 61 4186) 62 4198) 63 4199))), (q_29, .inl (cA_30, 27, .inl (upd (upd f_35 25 88) 26 667)))] H := hP
  have hD : va_D A [(h0, .inr (14, [.ref q_1, .ref q_15, .null, .null, .null, .null, .int 0, .null, .null, .null, .long 0, .null, .int 0, .int 0, .int 0, .int 0, .int 0, .int 0, .int 0, .null, .null])), (q_1, .inl (cA_2, 64, .inl (upd (upd (upd f_14 61 306) 62 307) 63 308))), (q_15, .inl (cA_16, 64, .inl (upd (upd (upd f_28 61 4186) 62 4198) 63 4199))), (q_29, .inl (cA_30, 27, .inl (upd (upd f_35 25 88) 26 667)))] := hD
  refine va_putF (D := (dC, dI)) (ci := 14) (v := .ref q_29) (ty := (.array .int)) (C := R_mLines) (T := F_mLines) (N := 21) hx hb hwd i_mLines t_mLines to_mLines no_mLines hown hK hP hD hS 0 rfl rfl 2 (by decide) (hwd _ wd_10_85) (fun _ h9 => h9) rfl hin rfl (by decide +kernel) rfl rfl (Nat.le_of_ble_eq_true rfl) d_mLines_init_1062 (fun H locs hP hD hS => ?_)
  have hP : va_P (dC, dI) vcl [(h0, .inr (14, [.ref q_1, .ref q_15, .ref q_29, .null, .null, .null, .int 0, .null, .null, .null, .long 0, .null, .int 0, .int 0, .int 0, .int 0, .int 0, .int 0, .int 0, .null, .null])), (q_1, .inl (cA_2, 64, .inl (upd (upd (upd f_14 61 306) 62 307) 63 308))), (q_15, .inl (cA_16, 64, .inl (upd (upd (upd f_28 61 4186) 62 4198) 63 4199))), (q_29, .inl (cA_30, 27, .inl (upd (upd f_35 25 88) 26 667)))] H := hP
  have hD : va_D A [(h0, .inr (14, [.ref q_1, .ref q_15, .ref q_29, .null, .null, .null, .int 0, .null, .null, .null, .long 0, .null, .int 0, .int 0, .int 0, .int 0, .int 0, .int 0, .int 0, .null, .null])), (q_1, .inl (cA_2, 64, .inl (upd (upd (upd f_14 61 306) 62 307) 63 308))), (q_15, .inl (cA_16, 64, .inl (upd (upd (upd f_28 61 4186) 62 4198) 63 4199))), (q_29, .inl (cA_30, 27, .inl (upd (upd f_35 25 88) 26 667)))] := hD
  refine lv_aload_n hx hb d_mLines_init_1065 rfl (lv_at hl 0 rfl) ?_
  refine lv_bipush (v := 27) hx hb d_mLines_init_1066 (by decide) ?_
  refine va_newa (atype := .int) (N' := 27) (a0 := (27, .inl (fun _ => 0))) (ty := .int) (n := 27) hx hb (hwd _ wd_1_167) rfl hK hP hD hS hA (fun _ => rfl) (by decide) (by decide) (by decide) (Nat.le_of_ble_eq_true rfl) (Nat.le_of_ble_eq_true rfl) d_mLines_init_1068 (fun q_36 cA_37 H hK hP hD hS => ?_)
  have hP : va_P (dC, dI) vcl [(h0, .inr (14, [.ref q_1, .ref q_15, .ref q_29, .null, .null, .null, .int 0, .null, .null, .null, .long 0, .null, .int 0, .int 0, .int 0, .int 0, .int 0, .int 0, .int 0, .null, .null])), (q_1, .inl (cA_2, 64, .inl (upd (upd (upd f_14 61 306) 62 307) 63 308))), (q_15, .inl (cA_16, 64, .inl (upd (upd (upd f_28 61 4186) 62 4198) 63 4199))), (q_29, .inl (cA_30, 27, .inl (upd (upd f_35 25 88) 26 667))), (q_36, .inl (cA_37, 27, .inl (fun _ => 0)))] H := hP
  have hD : va_D A [(h0, .inr (14, [.ref q_1, .ref q_15, .ref q_29, .null, .null, .null, .int 0, .null, .null, .null, .long 0, .null, .int 0, .int 0, .int 0, .int 0, .int 0, .int 0, .int 0, .null, .null])), (q_1, .inl (cA_2, 64, .inl (upd (upd (upd f_14 61 306) 62 307) 63 308))), (q_15, .inl (cA_16, 64, .inl (upd (upd (upd f_28 61 4186) 62 4198) 63 4199))), (q_29, .inl (cA_30, 27, .inl (upd (upd f_35 25 88) 26 667))), (q_36, .inl (cA_37, 27, .inl (fun _ => 0)))] := hD
  have hK : va_K (dC, dI) vcl [(cA_2, .int), (cA_16, .int), (cA_30, .int), (cA_37, .int)] s := hK
  refine W.widen (k := 4) (n := 182) (by decide) (by decide) ?_
  refine lv_dup hx hb d_mLines_init_1070 rfl ?_
  refine lv_iconst (v := 0) hx hb d_mLines_init_1071 (by decide) ?_
  refine lv_sipush (v := 1039) hx hb d_mLines_init_1072 (by decide) ?_
  refine va_iast hx hb hK hP hD hS 4 3 rfl rfl (show ¬ ((0 : Int32) < 0 ∨ 27 ≤ (0 : Int32).toNatClampNeg) by decide) d_mLines_init_1075 (fun H locs hP hD hS => ?_)
  rw [show (0 : Int32).toNatClampNeg = 0 by decide] at hP hD
  have hP : va_P (dC, dI) vcl [(h0, .inr (14, [.ref q_1, .ref q_15, .ref q_29, .null, .null, .null, .int 0, .null, .null, .null, .long 0, .null, .int 0, .int 0, .int 0, .int 0, .int 0, .int 0, .int 0, .null, .null])), (q_1, .inl (cA_2, 64, .inl (upd (upd (upd f_14 61 306) 62 307) 63 308))), (q_15, .inl (cA_16, 64, .inl (upd (upd (upd f_28 61 4186) 62 4198) 63 4199))), (q_29, .inl (cA_30, 27, .inl (upd (upd f_35 25 88) 26 667))), (q_36, .inl (cA_37, 27, .inl (upd (fun _ => 0) 0 1039)))] H := hP
  have hD : va_D A [(h0, .inr (14, [.ref q_1, .ref q_15, .ref q_29, .null, .null, .null, .int 0, .null, .null, .null, .long 0, .null, .int 0, .int 0, .int 0, .int 0, .int 0, .int 0, .int 0, .null, .null])), (q_1, .inl (cA_2, 64, .inl (upd (upd (upd f_14 61 306) 62 307) 63 308))), (q_15, .inl (cA_16, 64, .inl (upd (upd (upd f_28 61 4186) 62 4198) 63 4199))), (q_29, .inl (cA_30, 27, .inl (upd (upd f_35 25 88) 26 667))), (q_36, .inl (cA_37, 27, .inl (upd (fun _ => 0) 0 1039)))] := hD
  refine lv_dup hx hb d_mLines_init_1076 rfl ?_
  refine lv_iconst (v := 1) hx hb d_mLines_init_1077 (by decide) ?_
  refine lv_sipush (v := 4296) hx hb d_mLines_init_1078 (by decide) ?_
  refine va_iast hx hb hK hP hD hS 4 3 rfl rfl (show ¬ ((1 : Int32) < 0 ∨ 27 ≤ (1 : Int32).toNatClampNeg) by decide) d_mLines_init_1081 (fun H locs hP hD hS => ?_)
  rw [show (1 : Int32).toNatClampNeg = 1 by decide] at hP hD
  have hP : va_P (dC, dI) vcl [(h0, .inr (14, [.ref q_1, .ref q_15, .ref q_29, .null, .null, .null, .int 0, .null, .null, .null, .long 0, .null, .int 0, .int 0, .int 0, .int 0, .int 0, .int 0, .int 0, .null, .null])), (q_1, .inl (cA_2, 64, .inl (upd (upd (upd f_14 61 306) 62 307) 63 308))), (q_15, .inl (cA_16, 64, .inl (upd (upd (upd f_28 61 4186) 62 4198) 63 4199))), (q_29, .inl (cA_30, 27, .inl (upd (upd f_35 25 88) 26 667))), (q_36, .inl (cA_37, 27, .inl (upd (upd (fun _ => 0) 0 1039) 1 4296)))] H := hP
  have hD : va_D A [(h0, .inr (14, [.ref q_1, .ref q_15, .ref q_29, .null, .null, .null, .int 0, .null, .null, .null, .long 0, .null, .int 0, .int 0, .int 0, .int 0, .int 0, .int 0, .int 0, .null, .null])), (q_1, .inl (cA_2, 64, .inl (upd (upd (upd f_14 61 306) 62 307) 63 308))), (q_15, .inl (cA_16, 64, .inl (upd (upd (upd f_28 61 4186) 62 4198) 63 4199))), (q_29, .inl (cA_30, 27, .inl (upd (upd f_35 25 88) 26 667))), (q_36, .inl (cA_37, 27, .inl (upd (upd (fun _ => 0) 0 1039) 1 4296)))] := hD
  refine lv_dup hx hb d_mLines_init_1082 rfl ?_
  refine lv_iconst (v := 2) hx hb d_mLines_init_1083 (by decide) ?_
  refine lv_sipush (v := 4297) hx hb d_mLines_init_1084 (by decide) ?_
  refine va_iast hx hb hK hP hD hS 4 3 rfl rfl (show ¬ ((2 : Int32) < 0 ∨ 27 ≤ (2 : Int32).toNatClampNeg) by decide) d_mLines_init_1087 (fun H locs hP hD hS => ?_)
  rw [show (2 : Int32).toNatClampNeg = 2 by decide] at hP hD
  have hP : va_P (dC, dI) vcl [(h0, .inr (14, [.ref q_1, .ref q_15, .ref q_29, .null, .null, .null, .int 0, .null, .null, .null, .long 0, .null, .int 0, .int 0, .int 0, .int 0, .int 0, .int 0, .int 0, .null, .null])), (q_1, .inl (cA_2, 64, .inl (upd (upd (upd f_14 61 306) 62 307) 63 308))), (q_15, .inl (cA_16, 64, .inl (upd (upd (upd f_28 61 4186) 62 4198) 63 4199))), (q_29, .inl (cA_30, 27, .inl (upd (upd f_35 25 88) 26 667))), (q_36, .inl (cA_37, 27, .inl (upd (upd (upd (fun _ => 0) 0 1039) 1 4296) 2 4297)))] H := hP
  have hD : va_D A [(h0, .inr (14, [.ref q_1, .ref q_15, .ref q_29, .null, .null, .null, .int 0, .null, .null, .null, .long 0, .null, .int 0, .int 0, .int 0, .int 0, .int 0, .int 0, .int 0, .null, .null])), (q_1, .inl (cA_2, 64, .inl (upd (upd (upd f_14 61 306) 62 307) 63 308))), (q_15, .inl (cA_16, 64, .inl (upd (upd (upd f_28 61 4186) 62 4198) 63 4199))), (q_29, .inl (cA_30, 27, .inl (upd (upd f_35 25 88) 26 667))), (q_36, .inl (cA_37, 27, .inl (upd (upd (upd (fun _ => 0) 0 1039) 1 4296) 2 4297)))] := hD
  refine lv_dup hx hb d_mLines_init_1088 rfl ?_
  refine lv_iconst (v := 3) hx hb d_mLines_init_1089 (by decide) ?_
  refine lv_sipush (v := 4187) hx hb d_mLines_init_1090 (by decide) ?_
  refine va_iast hx hb hK hP hD hS 4 3 rfl rfl (show ¬ ((3 : Int32) < 0 ∨ 27 ≤ (3 : Int32).toNatClampNeg) by decide) d_mLines_init_1093 (fun H locs hP hD hS => ?_)
  rw [show (3 : Int32).toNatClampNeg = 3 by decide] at hP hD
  obtain ⟨f_38, ef_38⟩ : ∃ y : Nat → Int32, y = upd (upd (upd (upd (fun _ => 0) 0 1039) 1 4296) 2 4297) 3 4187 := ⟨_, rfl⟩
  have hP : va_P (dC, dI) vcl [(h0, .inr (14, [.ref q_1, .ref q_15, .ref q_29, .null, .null, .null, .int 0, .null, .null, .null, .long 0, .null, .int 0, .int 0, .int 0, .int 0, .int 0, .int 0, .int 0, .null, .null])), (q_1, .inl (cA_2, 64, .inl (upd (upd (upd f_14 61 306) 62 307) 63 308))), (q_15, .inl (cA_16, 64, .inl (upd (upd (upd f_28 61 4186) 62 4198) 63 4199))), (q_29, .inl (cA_30, 27, .inl (upd (upd f_35 25 88) 26 667))), (q_36, .inl (cA_37, 27, .inl (upd (upd (upd (upd (fun _ => 0) 0 1039) 1 4296) 2 4297) 3 4187)))] H := hP
  have hD : va_D A [(h0, .inr (14, [.ref q_1, .ref q_15, .ref q_29, .null, .null, .null, .int 0, .null, .null, .null, .long 0, .null, .int 0, .int 0, .int 0, .int 0, .int 0, .int 0, .int 0, .null, .null])), (q_1, .inl (cA_2, 64, .inl (upd (upd (upd f_14 61 306) 62 307) 63 308))), (q_15, .inl (cA_16, 64, .inl (upd (upd (upd f_28 61 4186) 62 4198) 63 4199))), (q_29, .inl (cA_30, 27, .inl (upd (upd f_35 25 88) 26 667))), (q_36, .inl (cA_37, 27, .inl (upd (upd (upd (upd (fun _ => 0) 0 1039) 1 4296) 2 4297) 3 4187)))] := hD
  rw [← ef_38] at hP hD
  have hP : va_P (dC, dI) vcl [(h0, .inr (14, [.ref q_1, .ref q_15, .ref q_29, .null, .null, .null, .int 0, .null, .null, .null, .long 0, .null, .int 0, .int 0, .int 0, .int 0, .int 0, .int 0, .int 0, .null, .null])), (q_1, .inl (cA_2, 64, .inl (upd (upd (upd f_14 61 306) 62 307) 63 308))), (q_15, .inl (cA_16, 64, .inl (upd (upd (upd f_28 61 4186) 62 4198) 63 4199))), (q_29, .inl (cA_30, 27, .inl (upd (upd f_35 25 88) 26 667))), (q_36, .inl (cA_37, 27, .inl f_38))] H := hP
  have hD : va_D A [(h0, .inr (14, [.ref q_1, .ref q_15, .ref q_29, .null, .null, .null, .int 0, .null, .null, .null, .long 0, .null, .int 0, .int 0, .int 0, .int 0, .int 0, .int 0, .int 0, .null, .null])), (q_1, .inl (cA_2, 64, .inl (upd (upd (upd f_14 61 306) 62 307) 63 308))), (q_15, .inl (cA_16, 64, .inl (upd (upd (upd f_28 61 4186) 62 4198) 63 4199))), (q_29, .inl (cA_30, 27, .inl (upd (upd f_35 25 88) 26 667))), (q_36, .inl (cA_37, 27, .inl f_38))] := hD
  refine lv_dup hx hb d_mLines_init_1094 rfl ?_
  refine lv_iconst (v := 4) hx hb d_mLines_init_1095 (by decide) ?_
  refine lv_sipush (v := 4147) hx hb d_mLines_init_1096 (by decide) ?_
  refine va_iast hx hb hK hP hD hS 4 3 rfl rfl (show ¬ ((4 : Int32) < 0 ∨ 27 ≤ (4 : Int32).toNatClampNeg) by decide) d_mLines_init_1099 (fun H locs hP hD hS => ?_)
  rw [show (4 : Int32).toNatClampNeg = 4 by decide] at hP hD
  have hP : va_P (dC, dI) vcl [(h0, .inr (14, [.ref q_1, .ref q_15, .ref q_29, .null, .null, .null, .int 0, .null, .null, .null, .long 0, .null, .int 0, .int 0, .int 0, .int 0, .int 0, .int 0, .int 0, .null, .null])), (q_1, .inl (cA_2, 64, .inl (upd (upd (upd f_14 61 306) 62 307) 63 308))), (q_15, .inl (cA_16, 64, .inl (upd (upd (upd f_28 61 4186) 62 4198) 63 4199))), (q_29, .inl (cA_30, 27, .inl (upd (upd f_35 25 88) 26 667))), (q_36, .inl (cA_37, 27, .inl (upd f_38 4 4147)))] H := hP
  have hD : va_D A [(h0, .inr (14, [.ref q_1, .ref q_15, .ref q_29, .null, .null, .null, .int 0, .null, .null, .null, .long 0, .null, .int 0, .int 0, .int 0, .int 0, .int 0, .int 0, .int 0, .null, .null])), (q_1, .inl (cA_2, 64, .inl (upd (upd (upd f_14 61 306) 62 307) 63 308))), (q_15, .inl (cA_16, 64, .inl (upd (upd (upd f_28 61 4186) 62 4198) 63 4199))), (q_29, .inl (cA_30, 27, .inl (upd (upd f_35 25 88) 26 667))), (q_36, .inl (cA_37, 27, .inl (upd f_38 4 4147)))] := hD
  refine lv_dup hx hb d_mLines_init_1100 rfl ?_
  refine lv_iconst (v := 5) hx hb d_mLines_init_1101 (by decide) ?_
  refine lv_sipush (v := 4148) hx hb d_mLines_init_1102 (by decide) ?_
  refine va_iast hx hb hK hP hD hS 4 3 rfl rfl (show ¬ ((5 : Int32) < 0 ∨ 27 ≤ (5 : Int32).toNatClampNeg) by decide) d_mLines_init_1105 (fun H locs hP hD hS => ?_)
  rw [show (5 : Int32).toNatClampNeg = 5 by decide] at hP hD
  have hP : va_P (dC, dI) vcl [(h0, .inr (14, [.ref q_1, .ref q_15, .ref q_29, .null, .null, .null, .int 0, .null, .null, .null, .long 0, .null, .int 0, .int 0, .int 0, .int 0, .int 0, .int 0, .int 0, .null, .null])), (q_1, .inl (cA_2, 64, .inl (upd (upd (upd f_14 61 306) 62 307) 63 308))), (q_15, .inl (cA_16, 64, .inl (upd (upd (upd f_28 61 4186) 62 4198) 63 4199))), (q_29, .inl (cA_30, 27, .inl (upd (upd f_35 25 88) 26 667))), (q_36, .inl (cA_37, 27, .inl (upd (upd f_38 4 4147) 5 4148)))] H := hP
  have hD : va_D A [(h0, .inr (14, [.ref q_1, .ref q_15, .ref q_29, .null, .null, .null, .int 0, .null, .null, .null, .long 0, .null, .int 0, .int 0, .int 0, .int 0, .int 0, .int 0, .int 0, .null, .null])), (q_1, .inl (cA_2, 64, .inl (upd (upd (upd f_14 61 306) 62 307) 63 308))), (q_15, .inl (cA_16, 64, .inl (upd (upd (upd f_28 61 4186) 62 4198) 63 4199))), (q_29, .inl (cA_30, 27, .inl (upd (upd f_35 25 88) 26 667))), (q_36, .inl (cA_37, 27, .inl (upd (upd f_38 4 4147) 5 4148)))] := hD
  refine lv_dup hx hb d_mLines_init_1106 rfl ?_
  refine lv_bipush (v := 6) hx hb d_mLines_init_1107 (by decide) ?_
  refine lv_sipush (v := 4149) hx hb d_mLines_init_1109 (by decide) ?_
  refine va_iast hx hb hK hP hD hS 4 3 rfl rfl (show ¬ ((6 : Int32) < 0 ∨ 27 ≤ (6 : Int32).toNatClampNeg) by decide) d_mLines_init_1112 (fun H locs hP hD hS => ?_)
  rw [show (6 : Int32).toNatClampNeg = 6 by decide] at hP hD
  have hP : va_P (dC, dI) vcl [(h0, .inr (14, [.ref q_1, .ref q_15, .ref q_29, .null, .null, .null, .int 0, .null, .null, .null, .long 0, .null, .int 0, .int 0, .int 0, .int 0, .int 0, .int 0, .int 0, .null, .null])), (q_1, .inl (cA_2, 64, .inl (upd (upd (upd f_14 61 306) 62 307) 63 308))), (q_15, .inl (cA_16, 64, .inl (upd (upd (upd f_28 61 4186) 62 4198) 63 4199))), (q_29, .inl (cA_30, 27, .inl (upd (upd f_35 25 88) 26 667))), (q_36, .inl (cA_37, 27, .inl (upd (upd (upd f_38 4 4147) 5 4148) 6 4149)))] H := hP
  have hD : va_D A [(h0, .inr (14, [.ref q_1, .ref q_15, .ref q_29, .null, .null, .null, .int 0, .null, .null, .null, .long 0, .null, .int 0, .int 0, .int 0, .int 0, .int 0, .int 0, .int 0, .null, .null])), (q_1, .inl (cA_2, 64, .inl (upd (upd (upd f_14 61 306) 62 307) 63 308))), (q_15, .inl (cA_16, 64, .inl (upd (upd (upd f_28 61 4186) 62 4198) 63 4199))), (q_29, .inl (cA_30, 27, .inl (upd (upd f_35 25 88) 26 667))), (q_36, .inl (cA_37, 27, .inl (upd (upd (upd f_38 4 4147) 5 4148) 6 4149)))] := hD
  refine lv_dup hx hb d_mLines_init_1113 rfl ?_
  refine lv_bipush (v := 7) hx hb d_mLines_init_1114 (by decide) ?_
  refine lv_sipush (v := 8300) hx hb d_mLines_init_1116 (by decide) ?_
  refine va_iast hx hb hK hP hD hS 4 3 rfl rfl (show ¬ ((7 : Int32) < 0 ∨ 27 ≤ (7 : Int32).toNatClampNeg) by decide) d_mLines_init_1119 (fun H locs hP hD hS => ?_)
  rw [show (7 : Int32).toNatClampNeg = 7 by decide] at hP hD
  have hP : va_P (dC, dI) vcl [(h0, .inr (14, [.ref q_1, .ref q_15, .ref q_29, .null, .null, .null, .int 0, .null, .null, .null, .long 0, .null, .int 0, .int 0, .int 0, .int 0, .int 0, .int 0, .int 0, .null, .null])), (q_1, .inl (cA_2, 64, .inl (upd (upd (upd f_14 61 306) 62 307) 63 308))), (q_15, .inl (cA_16, 64, .inl (upd (upd (upd f_28 61 4186) 62 4198) 63 4199))), (q_29, .inl (cA_30, 27, .inl (upd (upd f_35 25 88) 26 667))), (q_36, .inl (cA_37, 27, .inl (upd (upd (upd (upd f_38 4 4147) 5 4148) 6 4149) 7 8300)))] H := hP
  have hD : va_D A [(h0, .inr (14, [.ref q_1, .ref q_15, .ref q_29, .null, .null, .null, .int 0, .null, .null, .null, .long 0, .null, .int 0, .int 0, .int 0, .int 0, .int 0, .int 0, .int 0, .null, .null])), (q_1, .inl (cA_2, 64, .inl (upd (upd (upd f_14 61 306) 62 307) 63 308))), (q_15, .inl (cA_16, 64, .inl (upd (upd (upd f_28 61 4186) 62 4198) 63 4199))), (q_29, .inl (cA_30, 27, .inl (upd (upd f_35 25 88) 26 667))), (q_36, .inl (cA_37, 27, .inl (upd (upd (upd (upd f_38 4 4147) 5 4148) 6 4149) 7 8300)))] := hD
  refine lv_dup hx hb d_mLines_init_1120 rfl ?_
  refine lv_bipush (v := 8) hx hb d_mLines_init_1121 (by decide) ?_
  refine lv_sipush (v := 8301) hx hb d_mLines_init_1123 (by decide) ?_
  refine va_iast hx hb hK hP hD hS 4 3 rfl rfl (show ¬ ((8 : Int32) < 0 ∨ 27 ≤ (8 : Int32).toNatClampNeg) by decide) d_mLines_init_1126 (fun H locs hP hD hS => ?_)
  rw [show (8 : Int32).toNatClampNeg = 8 by decide] at hP hD
  obtain ⟨f_39, ef_39⟩ : ∃ y : Nat → Int32, y = upd (upd (upd (upd (upd f_38 4 4147) 5 4148) 6 4149) 7 8300) 8 8301 := ⟨_, rfl⟩
  have hP : va_P (dC, dI) vcl [(h0, .inr (14, [.ref q_1, .ref q_15, .ref q_29, .null, .null, .null, .int 0, .null, .null, .null, .long 0, .null, .int 0, .int 0, .int 0, .int 0, .int 0, .int 0, .int 0, .null, .null])), (q_1, .inl (cA_2, 64, .inl (upd (upd (upd f_14 61 306) 62 307) 63 308))), (q_15, .inl (cA_16, 64, .inl (upd (upd (upd f_28 61 4186) 62 4198) 63 4199))), (q_29, .inl (cA_30, 27, .inl (upd (upd f_35 25 88) 26 667))), (q_36, .inl (cA_37, 27, .inl (upd (upd (upd (upd (upd f_38 4 4147) 5 4148) 6 4149) 7 8300) 8 8301)))] H := hP
  have hD : va_D A [(h0, .inr (14, [.ref q_1, .ref q_15, .ref q_29, .null, .null, .null, .int 0, .null, .null, .null, .long 0, .null, .int 0, .int 0, .int 0, .int 0, .int 0, .int 0, .int 0, .null, .null])), (q_1, .inl (cA_2, 64, .inl (upd (upd (upd f_14 61 306) 62 307) 63 308))), (q_15, .inl (cA_16, 64, .inl (upd (upd (upd f_28 61 4186) 62 4198) 63 4199))), (q_29, .inl (cA_30, 27, .inl (upd (upd f_35 25 88) 26 667))), (q_36, .inl (cA_37, 27, .inl (upd (upd (upd (upd (upd f_38 4 4147) 5 4148) 6 4149) 7 8300) 8 8301)))] := hD
  rw [← ef_39] at hP hD
  have hP : va_P (dC, dI) vcl [(h0, .inr (14, [.ref q_1, .ref q_15, .ref q_29, .null, .null, .null, .int 0, .null, .null, .null, .long 0, .null, .int 0, .int 0, .int 0, .int 0, .int 0, .int 0, .int 0, .null, .null])), (q_1, .inl (cA_2, 64, .inl (upd (upd (upd f_14 61 306) 62 307) 63 308))), (q_15, .inl (cA_16, 64, .inl (upd (upd (upd f_28 61 4186) 62 4198) 63 4199))), (q_29, .inl (cA_30, 27, .inl (upd (upd f_35 25 88) 26 667))), (q_36, .inl (cA_37, 27, .inl f_39))] H := hP
  have hD : va_D A [(h0, .inr (14, [.ref q_1, .ref q_15, .ref q_29, .null, .null, .null, .int 0, .null, .null, .null, .long 0, .null, .int 0, .int 0, .int 0, .int 0, .int 0, .int 0, .int 0, .null, .null])), (q_1, .inl (cA_2, 64, .inl (upd (upd (upd f_14 61 306) 62 307) 63 308))), (q_15, .inl (cA_16, 64, .inl (upd (upd (upd f_28 61 4186) 62 4198) 63 4199))), (q_29, .inl (cA_30, 27, .inl (upd (upd f_35 25 88) 26 667))), (q_36, .inl (cA_37, 27, .inl f_39))] := hD
  refine lv_dup hx hb d_mLines_init_1127 rfl ?_
  refine lv_bipush (v := 9) hx hb d_mLines_init_1128 (by decide) ?_
  refine lv_sipush (v := 8266) hx hb d_mLines_init_1130 (by decide) ?_
  refine va_iast hx hb hK hP hD hS 4 3 rfl rfl (show ¬ ((9 : Int32) < 0 ∨ 27 ≤ (9 : Int32).toNatClampNeg) by decide) d_mLines_init_1133 (fun H locs hP hD hS => ?_)
  rw [show (9 : Int32).toNatClampNeg = 9 by decide] at hP hD
  have hP : va_P (dC, dI) vcl [(h0, .inr (14, [.ref q_1, .ref q_15, .ref q_29, .null, .null, .null, .int 0, .null, .null, .null, .long 0, .null, .int 0, .int 0, .int 0, .int 0, .int 0, .int 0, .int 0, .null, .null])), (q_1, .inl (cA_2, 64, .inl (upd (upd (upd f_14 61 306) 62 307) 63 308))), (q_15, .inl (cA_16, 64, .inl (upd (upd (upd f_28 61 4186) 62 4198) 63 4199))), (q_29, .inl (cA_30, 27, .inl (upd (upd f_35 25 88) 26 667))), (q_36, .inl (cA_37, 27, .inl (upd f_39 9 8266)))] H := hP
  have hD : va_D A [(h0, .inr (14, [.ref q_1, .ref q_15, .ref q_29, .null, .null, .null, .int 0, .null, .null, .null, .long 0, .null, .int 0, .int 0, .int 0, .int 0, .int 0, .int 0, .int 0, .null, .null])), (q_1, .inl (cA_2, 64, .inl (upd (upd (upd f_14 61 306) 62 307) 63 308))), (q_15, .inl (cA_16, 64, .inl (upd (upd (upd f_28 61 4186) 62 4198) 63 4199))), (q_29, .inl (cA_30, 27, .inl (upd (upd f_35 25 88) 26 667))), (q_36, .inl (cA_37, 27, .inl (upd f_39 9 8266)))] := hD
  refine lv_dup hx hb d_mLines_init_1134 rfl ?_
  refine lv_bipush (v := 10) hx hb d_mLines_init_1135 (by decide) ?_
  refine lv_sipush (v := 8267) hx hb d_mLines_init_1137 (by decide) ?_
  refine va_iast hx hb hK hP hD hS 4 3 rfl rfl (show ¬ ((10 : Int32) < 0 ∨ 27 ≤ (10 : Int32).toNatClampNeg) by decide) d_mLines_init_1140 (fun H locs hP hD hS => ?_)
  rw [show (10 : Int32).toNatClampNeg = 10 by decide] at hP hD
  have hP : va_P (dC, dI) vcl [(h0, .inr (14, [.ref q_1, .ref q_15, .ref q_29, .null, .null, .null, .int 0, .null, .null, .null, .long 0, .null, .int 0, .int 0, .int 0, .int 0, .int 0, .int 0, .int 0, .null, .null])), (q_1, .inl (cA_2, 64, .inl (upd (upd (upd f_14 61 306) 62 307) 63 308))), (q_15, .inl (cA_16, 64, .inl (upd (upd (upd f_28 61 4186) 62 4198) 63 4199))), (q_29, .inl (cA_30, 27, .inl (upd (upd f_35 25 88) 26 667))), (q_36, .inl (cA_37, 27, .inl (upd (upd f_39 9 8266) 10 8267)))] H := hP
  have hD : va_D A [(h0, .inr (14, [.ref q_1, .ref q_15, .ref q_29, .null, .null, .null, .int 0, .null, .null, .null, .long 0, .null, .int 0, .int 0, .int 0, .int 0, .int 0, .int 0, .int 0, .null, .null])), (q_1, .inl (cA_2, 64, .inl (upd (upd (upd f_14 61 306) 62 307) 63 308))), (q_15, .inl (cA_16, 64, .inl (upd (upd (upd f_28 61 4186) 62 4198) 63 4199))), (q_29, .inl (cA_30, 27, .inl (upd (upd f_35 25 88) 26 667))), (q_36, .inl (cA_37, 27, .inl (upd (upd f_39 9 8266) 10 8267)))] := hD
  refine lv_dup hx hb d_mLines_init_1141 rfl ?_
  refine lv_bipush (v := 11) hx hb d_mLines_init_1142 (by decide) ?_
  refine lv_sipush (v := 8268) hx hb d_mLines_init_1144 (by decide) ?_
  refine va_iast hx hb hK hP hD hS 4 3 rfl rfl (show ¬ ((11 : Int32) < 0 ∨ 27 ≤ (11 : Int32).toNatClampNeg) by decide) d_mLines_init_1147 (fun H locs hP hD hS => ?_)
  rw [show (11 : Int32).toNatClampNeg = 11 by decide] at hP hD
  have hP : va_P (dC, dI) vcl [(h0, .inr (14, [.ref q_1, .ref q_15, .ref q_29, .null, .null, .null, .int 0, .null, .null, .null, .long 0, .null, .int 0, .int 0, .int 0, .int 0, .int 0, .int 0, .int 0, .null, .null])), (q_1, .inl (cA_2, 64, .inl (upd (upd (upd f_14 61 306) 62 307) 63 308))), (q_15, .inl (cA_16, 64, .inl (upd (upd (upd f_28 61 4186) 62 4198) 63 4199))), (q_29, .inl (cA_30, 27, .inl (upd (upd f_35 25 88) 26 667))), (q_36, .inl (cA_37, 27, .inl (upd (upd (upd f_39 9 8266) 10 8267) 11 8268)))] H := hP
  have hD : va_D A [(h0, .inr (14, [.ref q_1, .ref q_15, .ref q_29, .null, .null, .null, .int 0, .null, .null, .null, .long 0, .null, .int 0, .int 0, .int 0, .int 0, .int 0, .int 0, .int 0, .null, .null])), (q_1, .inl (cA_2, 64, .inl (upd (upd (upd f_14 61 306) 62 307) 63 308))), (q_15, .inl (cA_16, 64, .inl (upd (upd (upd f_28 61 4186) 62 4198) 63 4199))), (q_29, .inl (cA_30, 27, .inl (upd (upd f_35 25 88) 26 667))), (q_36, .inl (cA_37, 27, .inl (upd (upd (upd f_39 9 8266) 10 8267) 11 8268)))] := hD
  refine lv_dup hx hb d_mLines_init_1148 rfl ?_
  refine lv_bipush (v := 12) hx hb d_mLines_init_1149 (by decide) ?_
  refine lv_sipush (v := 8269) hx hb d_mLines_init_1151 (by decide) ?_
  refine va_iast hx hb hK hP hD hS 4 3 rfl rfl (show ¬ ((12 : Int32) < 0 ∨ 27 ≤ (12 : Int32).toNatClampNeg) by decide) d_mLines_init_1154 (fun H locs hP hD hS => ?_)
  rw [show (12 : Int32).toNatClampNeg = 12 by decide] at hP hD
  have hP : va_P (dC, dI) vcl [(h0, .inr (14, [.ref q_1, .ref q_15, .ref q_29, .null, .null, .null, .int 0, .null, .null, .null, .long 0, .null, .int 0, .int 0, .int 0, .int 0, .int 0, .int 0, .int 0, .null, .null])), (q_1, .inl (cA_2, 64, .inl (upd (upd (upd f_14 61 306) 62 307) 63 308))), (q_15, .inl (cA_16, 64, .inl (upd (upd (upd f_28 61 4186) 62 4198) 63 4199))), (q_29, .inl (cA_30, 27, .inl (upd (upd f_35 25 88) 26 667))), (q_36, .inl (cA_37, 27, .inl (upd (upd (upd (upd f_39 9 8266) 10 8267) 11 8268) 12 8269)))] H := hP
  have hD : va_D A [(h0, .inr (14, [.ref q_1, .ref q_15, .ref q_29, .null, .null, .null, .int 0, .null, .null, .null, .long 0, .null, .int 0, .int 0, .int 0, .int 0, .int 0, .int 0, .int 0, .null, .null])), (q_1, .inl (cA_2, 64, .inl (upd (upd (upd f_14 61 306) 62 307) 63 308))), (q_15, .inl (cA_16, 64, .inl (upd (upd (upd f_28 61 4186) 62 4198) 63 4199))), (q_29, .inl (cA_30, 27, .inl (upd (upd f_35 25 88) 26 667))), (q_36, .inl (cA_37, 27, .inl (upd (upd (upd (upd f_39 9 8266) 10 8267) 11 8268) 12 8269)))] := hD
  refine lv_dup hx hb d_mLines_init_1155 rfl ?_
  refine lv_bipush (v := 13) hx hb d_mLines_init_1156 (by decide) ?_
  refine lv_sipush (v := 8306) hx hb d_mLines_init_1158 (by decide) ?_
  refine va_iast hx hb hK hP hD hS 4 3 rfl rfl (show ¬ ((13 : Int32) < 0 ∨ 27 ≤ (13 : Int32).toNatClampNeg) by decide) d_mLines_init_1161 (fun H locs hP hD hS => ?_)
  rw [show (13 : Int32).toNatClampNeg = 13 by decide] at hP hD
  obtain ⟨f_40, ef_40⟩ : ∃ y : Nat → Int32, y = upd (upd (upd (upd (upd f_39 9 8266) 10 8267) 11 8268) 12 8269) 13 8306 := ⟨_, rfl⟩
  have hP : va_P (dC, dI) vcl [(h0, .inr (14, [.ref q_1, .ref q_15, .ref q_29, .null, .null, .null, .int 0, .null, .null, .null, .long 0, .null, .int 0, .int 0, .int 0, .int 0, .int 0, .int 0, .int 0, .null, .null])), (q_1, .inl (cA_2, 64, .inl (upd (upd (upd f_14 61 306) 62 307) 63 308))), (q_15, .inl (cA_16, 64, .inl (upd (upd (upd f_28 61 4186) 62 4198) 63 4199))), (q_29, .inl (cA_30, 27, .inl (upd (upd f_35 25 88) 26 667))), (q_36, .inl (cA_37, 27, .inl (upd (upd (upd (upd (upd f_39 9 8266) 10 8267) 11 8268) 12 8269) 13 8306)))] H := hP
  have hD : va_D A [(h0, .inr (14, [.ref q_1, .ref q_15, .ref q_29, .null, .null, .null, .int 0, .null, .null, .null, .long 0, .null, .int 0, .int 0, .int 0, .int 0, .int 0, .int 0, .int 0, .null, .null])), (q_1, .inl (cA_2, 64, .inl (upd (upd (upd f_14 61 306) 62 307) 63 308))), (q_15, .inl (cA_16, 64, .inl (upd (upd (upd f_28 61 4186) 62 4198) 63 4199))), (q_29, .inl (cA_30, 27, .inl (upd (upd f_35 25 88) 26 667))), (q_36, .inl (cA_37, 27, .inl (upd (upd (upd (upd (upd f_39 9 8266) 10 8267) 11 8268) 12 8269) 13 8306)))] := hD
  rw [← ef_40] at hP hD
  have hP : va_P (dC, dI) vcl [(h0, .inr (14, [.ref q_1, .ref q_15, .ref q_29, .null, .null, .null, .int 0, .null, .null, .null, .long 0, .null, .int 0, .int 0, .int 0, .int 0, .int 0, .int 0, .int 0, .null, .null])), (q_1, .inl (cA_2, 64, .inl (upd (upd (upd f_14 61 306) 62 307) 63 308))), (q_15, .inl (cA_16, 64, .inl (upd (upd (upd f_28 61 4186) 62 4198) 63 4199))), (q_29, .inl (cA_30, 27, .inl (upd (upd f_35 25 88) 26 667))), (q_36, .inl (cA_37, 27, .inl f_40))] H := hP
  have hD : va_D A [(h0, .inr (14, [.ref q_1, .ref q_15, .ref q_29, .null, .null, .null, .int 0, .null, .null, .null, .long 0, .null, .int 0, .int 0, .int 0, .int 0, .int 0, .int 0, .int 0, .null, .null])), (q_1, .inl (cA_2, 64, .inl (upd (upd (upd f_14 61 306) 62 307) 63 308))), (q_15, .inl (cA_16, 64, .inl (upd (upd (upd f_28 61 4186) 62 4198) 63 4199))), (q_29, .inl (cA_30, 27, .inl (upd (upd f_35 25 88) 26 667))), (q_36, .inl (cA_37, 27, .inl f_40))] := hD
  refine lv_dup hx hb d_mLines_init_1162 rfl ?_
  refine lv_bipush (v := 14) hx hb d_mLines_init_1163 (by decide) ?_
  refine lv_sipush (v := 8307) hx hb d_mLines_init_1165 (by decide) ?_
  refine va_iast hx hb hK hP hD hS 4 3 rfl rfl (show ¬ ((14 : Int32) < 0 ∨ 27 ≤ (14 : Int32).toNatClampNeg) by decide) d_mLines_init_1168 (fun H locs hP hD hS => ?_)
  rw [show (14 : Int32).toNatClampNeg = 14 by decide] at hP hD
  have hP : va_P (dC, dI) vcl [(h0, .inr (14, [.ref q_1, .ref q_15, .ref q_29, .null, .null, .null, .int 0, .null, .null, .null, .long 0, .null, .int 0, .int 0, .int 0, .int 0, .int 0, .int 0, .int 0, .null, .null])), (q_1, .inl (cA_2, 64, .inl (upd (upd (upd f_14 61 306) 62 307) 63 308))), (q_15, .inl (cA_16, 64, .inl (upd (upd (upd f_28 61 4186) 62 4198) 63 4199))), (q_29, .inl (cA_30, 27, .inl (upd (upd f_35 25 88) 26 667))), (q_36, .inl (cA_37, 27, .inl (upd f_40 14 8307)))] H := hP
  have hD : va_D A [(h0, .inr (14, [.ref q_1, .ref q_15, .ref q_29, .null, .null, .null, .int 0, .null, .null, .null, .long 0, .null, .int 0, .int 0, .int 0, .int 0, .int 0, .int 0, .int 0, .null, .null])), (q_1, .inl (cA_2, 64, .inl (upd (upd (upd f_14 61 306) 62 307) 63 308))), (q_15, .inl (cA_16, 64, .inl (upd (upd (upd f_28 61 4186) 62 4198) 63 4199))), (q_29, .inl (cA_30, 27, .inl (upd (upd f_35 25 88) 26 667))), (q_36, .inl (cA_37, 27, .inl (upd f_40 14 8307)))] := hD
  refine lv_dup hx hb d_mLines_init_1169 rfl ?_
  refine lv_bipush (v := 15) hx hb d_mLines_init_1170 (by decide) ?_
  refine lv_sipush (v := 8308) hx hb d_mLines_init_1172 (by decide) ?_
  refine va_iast hx hb hK hP hD hS 4 3 rfl rfl (show ¬ ((15 : Int32) < 0 ∨ 27 ≤ (15 : Int32).toNatClampNeg) by decide) d_mLines_init_1175 (fun H locs hP hD hS => ?_)
  rw [show (15 : Int32).toNatClampNeg = 15 by decide] at hP hD
  have hP : va_P (dC, dI) vcl [(h0, .inr (14, [.ref q_1, .ref q_15, .ref q_29, .null, .null, .null, .int 0, .null, .null, .null, .long 0, .null, .int 0, .int 0, .int 0, .int 0, .int 0, .int 0, .int 0, .null, .null])), (q_1, .inl (cA_2, 64, .inl (upd (upd (upd f_14 61 306) 62 307) 63 308))), (q_15, .inl (cA_16, 64, .inl (upd (upd (upd f_28 61 4186) 62 4198) 63 4199))), (q_29, .inl (cA_30, 27, .inl (upd (upd f_35 25 88) 26 667))), (q_36, .inl (cA_37, 27, .inl (upd (upd f_40 14 8307) 15 8308)))] H := hP
  have hD : va_D A [(h0, .inr (14, [.ref q_1, .ref q_15, .ref q_29, .null, .null, .null, .int 0, .null, .null, .null, .long 0, .null, .int 0, .int 0, .int 0, .int 0, .int 0, .int 0, .int 0, .null, .null])), (q_1, .inl (cA_2, 64, .inl (upd (upd (upd f_14 61 306) 62 307) 63 308))), (q_15, .inl (cA_16, 64, .inl (upd (upd (upd f_28 61 4186) 62 4198) 63 4199))), (q_29, .inl (cA_30, 27, .inl (upd (upd f_35 25 88) 26 667))), (q_36, .inl (cA_37, 27, .inl (upd (upd f_40 14 8307) 15 8308)))] := hD
  refine lv_dup hx hb d_mLines_init_1176 rfl ?_
  refine lv_bipush (v := 16) hx hb d_mLines_init_1177 (by decide) ?_
  refine lv_sipush (v := 8309) hx hb d_mLines_init_1179 (by decide) ?_
  refine va_iast hx hb hK hP hD hS 4 3 rfl rfl (show ¬ ((16 : Int32) < 0 ∨ 27 ≤ (16 : Int32).toNatClampNeg) by decide) d_mLines_init_1182 (fun H locs hP hD hS => ?_)
  rw [show (16 : Int32).toNatClampNeg = 16 by decide] at hP hD
  have hP : va_P (dC, dI) vcl [(h0, .inr (14, [.ref q_1, .ref q_15, .ref q_29, .null, .null, .null, .int 0, .null, .null, .null, .long 0, .null, .int 0, .int 0, .int 0, .int 0, .int 0, .int 0, .int 0, .null, .null])), (q_1, .inl (cA_2, 64, .inl (upd (upd (upd f_14 61 306) 62 307) 63 308))), (q_15, .inl (cA_16, 64, .inl (upd (upd (upd f_28 61 4186) 62 4198) 63 4199))), (q_29, .inl (cA_30, 27, .inl (upd (upd f_35 25 88) 26 667))), (q_36, .inl (cA_37, 27, .inl (upd (upd (upd f_40 14 8307) 15 8308) 16 8309)))] H := hP
  have hD : va_D A [(h0, .inr (14, [.ref q_1, .ref q_15, .ref q_29, .null, .null, .null, .int 0, .null, .null, .null, .long 0, .null, .int 0, .int 0, .int 0, .int 0, .int 0, .int 0, .int 0, .null, .null])), (q_1, .inl (cA_2, 64, .inl (upd (upd (upd f_14 61 306) 62 307) 63 308))), (q_15, .inl (cA_16, 64, .inl (upd (upd (upd f_28 61 4186) 62 4198) 63 4199))), (q_29, .inl (cA_30, 27, .inl (upd (upd f_35 25 88) 26 667))), (q_36, .inl (cA_37, 27, .inl (upd (upd (upd f_40 14 8307) 15 8308) 16 8309)))] := hD
  refine lv_dup hx hb d_mLines_init_1183 rfl ?_
  refine lv_bipush (v := 17) hx hb d_mLines_init_1184 (by decide) ?_
  refine lv_sipush (v := 8310) hx hb d_mLines_init_1186 (by decide) ?_
  refine va_iast hx hb hK hP hD hS 4 3 rfl rfl (show ¬ ((17 : Int32) < 0 ∨ 27 ≤ (17 : Int32).toNatClampNeg) by decide) d_mLines_init_1189 (fun H locs hP hD hS => ?_)
  rw [show (17 : Int32).toNatClampNeg = 17 by decide] at hP hD
  have hP : va_P (dC, dI) vcl [(h0, .inr (14, [.ref q_1, .ref q_15, .ref q_29, .null, .null, .null, .int 0, .null, .null, .null, .long 0, .null, .int 0, .int 0, .int 0, .int 0, .int 0, .int 0, .int 0, .null, .null])), (q_1, .inl (cA_2, 64, .inl (upd (upd (upd f_14 61 306) 62 307) 63 308))), (q_15, .inl (cA_16, 64, .inl (upd (upd (upd f_28 61 4186) 62 4198) 63 4199))), (q_29, .inl (cA_30, 27, .inl (upd (upd f_35 25 88) 26 667))), (q_36, .inl (cA_37, 27, .inl (upd (upd (upd (upd f_40 14 8307) 15 8308) 16 8309) 17 8310)))] H := hP
  have hD : va_D A [(h0, .inr (14, [.ref q_1, .ref q_15, .ref q_29, .null, .null, .null, .int 0, .null, .null, .null, .long 0, .null, .int 0, .int 0, .int 0, .int 0, .int 0, .int 0, .int 0, .null, .null])), (q_1, .inl (cA_2, 64, .inl (upd (upd (upd f_14 61 306) 62 307) 63 308))), (q_15, .inl (cA_16, 64, .inl (upd (upd (upd f_28 61 4186) 62 4198) 63 4199))), (q_29, .inl (cA_30, 27, .inl (upd (upd f_35 25 88) 26 667))), (q_36, .inl (cA_37, 27, .inl (upd (upd (upd (upd f_40 14 8307) 15 8308) 16 8309) 17 8310)))] := hD
  refine lv_dup hx hb d_mLines_init_1190 rfl ?_
  refine lv_bipush (v := 18) hx hb d_mLines_init_1191 (by decide) ?_
  refine lv_sipush (v := 8311) hx hb d_mLines_init_1193 (by decide) ?_
  refine va_iast hx hb hK hP hD hS 4 3 rfl rfl (show ¬ ((18 : Int32) < 0 ∨ 27 ≤ (18 : Int32).toNatClampNeg) by decide) d_mLines_init_1196 (fun H locs hP hD hS => ?_)
  rw [show (18 : Int32).toNatClampNeg = 18 by decide] at hP hD
  obtain ⟨f_41, ef_41⟩ : ∃ y : Nat → Int32, y = upd (upd (upd (upd (upd f_40 14 8307) 15 8308) 16 8309) 17 8310) 18 8311 := ⟨_, rfl⟩
  have hP : va_P (dC, dI) vcl [(h0, .inr (14, [.ref q_1, .ref q_15, .ref q_29, .null, .null, .null, .int 0, .null, .null, .null, .long 0, .null, .int 0, .int 0, .int 0, .int 0, .int 0, .int 0, .int 0, .null, .null])), (q_1, .inl (cA_2, 64, .inl (upd (upd (upd f_14 61 306) 62 307) 63 308))), (q_15, .inl (cA_16, 64, .inl (upd (upd (upd f_28 61 4186) 62 4198) 63 4199))), (q_29, .inl (cA_30, 27, .inl (upd (upd f_35 25 88) 26 667))), (q_36, .inl (cA_37, 27, .inl (upd (upd (upd (upd (upd f_40 14 8307) 15 8308) 16 8309) 17 8310) 18 8311)))] H := hP
  have hD : va_D A [(h0, .inr (14, [.ref q_1, .ref q_15, .ref q_29, .null, .null, .null, .int 0, .null, .null, .null, .long 0, .null, .int 0, .int 0, .int 0, .int 0, .int 0, .int 0, .int 0, .null, .null])), (q_1, .inl (cA_2, 64, .inl (upd (upd (upd f_14 61 306) 62 307) 63 308))), (q_15, .inl (cA_16, 64, .inl (upd (upd (upd f_28 61 4186) 62 4198) 63 4199))), (q_29, .inl (cA_30, 27, .inl (upd (upd f_35 25 88) 26 667))), (q_36, .inl (cA_37, 27, .inl (upd (upd (upd (upd (upd f_40 14 8307) 15 8308) 16 8309) 17 8310) 18 8311)))] := hD
  rw [← ef_41] at hP hD
  have hP : va_P (dC, dI) vcl [(h0, .inr (14, [.ref q_1, .ref q_15, .ref q_29, .null, .null, .null, .int 0, .null, .null, .null, .long 0, .null, .int 0, .int 0, .int 0, .int 0, .int 0, .int 0, .int 0, .null, .null])), (q_1, .inl (cA_2, 64, .inl (upd (upd (upd f_14 61 306) 62 307) 63 308))), (q_15, .inl (cA_16, 64, .inl (upd (upd (upd f_28 61 4186) 62 4198) 63 4199))), (q_29, .inl (cA_30, 27, .inl (upd (upd f_35 25 88) 26 667))), (q_36, .inl (cA_37, 27, .inl f_41))] H := hP
  have hD : va_D A [(h0, .inr (14, [.ref q_1, .ref q_15, .ref q_29, .null, .null, .null, .int 0, .null, .null, .null, .long 0, .null, .int 0, .int 0, .int 0, .int 0, .int 0, .int 0, .int 0, .null, .null])), (q_1, .inl (cA_2, 64, .inl (upd (upd (upd f_14 61 306) 62 307) 63 308))), (q_15, .inl (cA_16, 64, .inl (upd (upd (upd f_28 61 4186) 62 4198) 63 4199))), (q_29, .inl (cA_30, 27, .inl (upd (upd f_35 25 88) 26 667))), (q_36, .inl (cA_37, 27, .inl f_41))] := hD
  refine lv_dup hx hb d_mLines_init_1197 rfl ?_
  refine lv_bipush (v := 19) hx hb d_mLines_init_1198 (by decide) ?_
  refine lv_sipush (v := 8274) hx hb d_mLines_init_1200 (by decide) ?_
  refine va_iast hx hb hK hP hD hS 4 3 rfl rfl (show ¬ ((19 : Int32) < 0 ∨ 27 ≤ (19 : Int32).toNatClampNeg) by decide) d_mLines_init_1203 (fun H locs hP hD hS => ?_)
  rw [show (19 : Int32).toNatClampNeg = 19 by decide] at hP hD
  have hP : va_P (dC, dI) vcl [(h0, .inr (14, [.ref q_1, .ref q_15, .ref q_29, .null, .null, .null, .int 0, .null, .null, .null, .long 0, .null, .int 0, .int 0, .int 0, .int 0, .int 0, .int 0, .int 0, .null, .null])), (q_1, .inl (cA_2, 64, .inl (upd (upd (upd f_14 61 306) 62 307) 63 308))), (q_15, .inl (cA_16, 64, .inl (upd (upd (upd f_28 61 4186) 62 4198) 63 4199))), (q_29, .inl (cA_30, 27, .inl (upd (upd f_35 25 88) 26 667))), (q_36, .inl (cA_37, 27, .inl (upd f_41 19 8274)))] H := hP
  have hD : va_D A [(h0, .inr (14, [.ref q_1, .ref q_15, .ref q_29, .null, .null, .null, .int 0, .null, .null, .null, .long 0, .null, .int 0, .int 0, .int 0, .int 0, .int 0, .int 0, .int 0, .null, .null])), (q_1, .inl (cA_2, 64, .inl (upd (upd (upd f_14 61 306) 62 307) 63 308))), (q_15, .inl (cA_16, 64, .inl (upd (upd (upd f_28 61 4186) 62 4198) 63 4199))), (q_29, .inl (cA_30, 27, .inl (upd (upd f_35 25 88) 26 667))), (q_36, .inl (cA_37, 27, .inl (upd f_41 19 8274)))] := hD
  refine lv_dup hx hb d_mLines_init_1204 rfl ?_
  refine lv_bipush (v := 20) hx hb d_mLines_init_1205 (by decide) ?_
  refine lv_sipush (v := 8275) hx hb d_mLines_init_1207 (by decide) ?_
  refine va_iast hx hb hK hP hD hS 4 3 rfl rfl (show ¬ ((20 : Int32) < 0 ∨ 27 ≤ (20 : Int32).toNatClampNeg) by decide) d_mLines_init_1210 (fun H locs hP hD hS => ?_)
  rw [show (20 : Int32).toNatClampNeg = 20 by decide] at hP hD
  have hP : va_P (dC, dI) vcl [(h0, .inr (14, [.ref q_1, .ref q_15, .ref q_29, .null, .null, .null, .int 0, .null, .null, .null, .long 0, .null, .int 0, .int 0, .int 0, .int 0, .int 0, .int 0, .int 0, .null, .null])), (q_1, .inl (cA_2, 64, .inl (upd (upd (upd f_14 61 306) 62 307) 63 308))), (q_15, .inl (cA_16, 64, .inl (upd (upd (upd f_28 61 4186) 62 4198) 63 4199))), (q_29, .inl (cA_30, 27, .inl (upd (upd f_35 25 88) 26 667))), (q_36, .inl (cA_37, 27, .inl (upd (upd f_41 19 8274) 20 8275)))] H := hP
  have hD : va_D A [(h0, .inr (14, [.ref q_1, .ref q_15, .ref q_29, .null, .null, .null, .int 0, .null, .null, .null, .long 0, .null, .int 0, .int 0, .int 0, .int 0, .int 0, .int 0, .int 0, .null, .null])), (q_1, .inl (cA_2, 64, .inl (upd (upd (upd f_14 61 306) 62 307) 63 308))), (q_15, .inl (cA_16, 64, .inl (upd (upd (upd f_28 61 4186) 62 4198) 63 4199))), (q_29, .inl (cA_30, 27, .inl (upd (upd f_35 25 88) 26 667))), (q_36, .inl (cA_37, 27, .inl (upd (upd f_41 19 8274) 20 8275)))] := hD
  refine lv_dup hx hb d_mLines_init_1211 rfl ?_
  refine lv_bipush (v := 21) hx hb d_mLines_init_1212 (by decide) ?_
  refine lv_sipush (v := 8276) hx hb d_mLines_init_1214 (by decide) ?_
  refine va_iast hx hb hK hP hD hS 4 3 rfl rfl (show ¬ ((21 : Int32) < 0 ∨ 27 ≤ (21 : Int32).toNatClampNeg) by decide) d_mLines_init_1217 (fun H locs hP hD hS => ?_)
  rw [show (21 : Int32).toNatClampNeg = 21 by decide] at hP hD
  have hP : va_P (dC, dI) vcl [(h0, .inr (14, [.ref q_1, .ref q_15, .ref q_29, .null, .null, .null, .int 0, .null, .null, .null, .long 0, .null, .int 0, .int 0, .int 0, .int 0, .int 0, .int 0, .int 0, .null, .null])), (q_1, .inl (cA_2, 64, .inl (upd (upd (upd f_14 61 306) 62 307) 63 308))), (q_15, .inl (cA_16, 64, .inl (upd (upd (upd f_28 61 4186) 62 4198) 63 4199))), (q_29, .inl (cA_30, 27, .inl (upd (upd f_35 25 88) 26 667))), (q_36, .inl (cA_37, 27, .inl (upd (upd (upd f_41 19 8274) 20 8275) 21 8276)))] H := hP
  have hD : va_D A [(h0, .inr (14, [.ref q_1, .ref q_15, .ref q_29, .null, .null, .null, .int 0, .null, .null, .null, .long 0, .null, .int 0, .int 0, .int 0, .int 0, .int 0, .int 0, .int 0, .null, .null])), (q_1, .inl (cA_2, 64, .inl (upd (upd (upd f_14 61 306) 62 307) 63 308))), (q_15, .inl (cA_16, 64, .inl (upd (upd (upd f_28 61 4186) 62 4198) 63 4199))), (q_29, .inl (cA_30, 27, .inl (upd (upd f_35 25 88) 26 667))), (q_36, .inl (cA_37, 27, .inl (upd (upd (upd f_41 19 8274) 20 8275) 21 8276)))] := hD
  refine lv_dup hx hb d_mLines_init_1218 rfl ?_
  refine lv_bipush (v := 22) hx hb d_mLines_init_1219 (by decide) ?_
  refine lv_sipush (v := 8277) hx hb d_mLines_init_1221 (by decide) ?_
  refine va_iast hx hb hK hP hD hS 4 3 rfl rfl (show ¬ ((22 : Int32) < 0 ∨ 27 ≤ (22 : Int32).toNatClampNeg) by decide) d_mLines_init_1224 (fun H locs hP hD hS => ?_)
  rw [show (22 : Int32).toNatClampNeg = 22 by decide] at hP hD
  have hP : va_P (dC, dI) vcl [(h0, .inr (14, [.ref q_1, .ref q_15, .ref q_29, .null, .null, .null, .int 0, .null, .null, .null, .long 0, .null, .int 0, .int 0, .int 0, .int 0, .int 0, .int 0, .int 0, .null, .null])), (q_1, .inl (cA_2, 64, .inl (upd (upd (upd f_14 61 306) 62 307) 63 308))), (q_15, .inl (cA_16, 64, .inl (upd (upd (upd f_28 61 4186) 62 4198) 63 4199))), (q_29, .inl (cA_30, 27, .inl (upd (upd f_35 25 88) 26 667))), (q_36, .inl (cA_37, 27, .inl (upd (upd (upd (upd f_41 19 8274) 20 8275) 21 8276) 22 8277)))] H := hP
  have hD : va_D A [(h0, .inr (14, [.ref q_1, .ref q_15, .ref q_29, .null, .null, .null, .int 0, .null, .null, .null, .long 0, .null, .int 0, .int 0, .int 0, .int 0, .int 0, .int 0, .int 0, .null, .null])), (q_1, .inl (cA_2, 64, .inl (upd (upd (upd f_14 61 306) 62 307) 63 308))), (q_15, .inl (cA_16, 64, .inl (upd (upd (upd f_28 61 4186) 62 4198) 63 4199))), (q_29, .inl (cA_30, 27, .inl (upd (upd f_35 25 88) 26 667))), (q_36, .inl (cA_37, 27, .inl (upd (upd (upd (upd f_41 19 8274) 20 8275) 21 8276) 22 8277)))] := hD
  refine lv_dup hx hb d_mLines_init_1225 rfl ?_
  refine lv_bipush (v := 23) hx hb d_mLines_init_1226 (by decide) ?_
  refine lv_sipush (v := 8282) hx hb d_mLines_init_1228 (by decide) ?_
  refine va_iast hx hb hK hP hD hS 4 3 rfl rfl (show ¬ ((23 : Int32) < 0 ∨ 27 ≤ (23 : Int32).toNatClampNeg) by decide) d_mLines_init_1231 (fun H locs hP hD hS => ?_)
  rw [show (23 : Int32).toNatClampNeg = 23 by decide] at hP hD
  obtain ⟨f_42, ef_42⟩ : ∃ y : Nat → Int32, y = upd (upd (upd (upd (upd f_41 19 8274) 20 8275) 21 8276) 22 8277) 23 8282 := ⟨_, rfl⟩
  have hP : va_P (dC, dI) vcl [(h0, .inr (14, [.ref q_1, .ref q_15, .ref q_29, .null, .null, .null, .int 0, .null, .null, .null, .long 0, .null, .int 0, .int 0, .int 0, .int 0, .int 0, .int 0, .int 0, .null, .null])), (q_1, .inl (cA_2, 64, .inl (upd (upd (upd f_14 61 306) 62 307) 63 308))), (q_15, .inl (cA_16, 64, .inl (upd (upd (upd f_28 61 4186) 62 4198) 63 4199))), (q_29, .inl (cA_30, 27, .inl (upd (upd f_35 25 88) 26 667))), (q_36, .inl (cA_37, 27, .inl (upd (upd (upd (upd (upd f_41 19 8274) 20 8275) 21 8276) 22 8277) 23 8282)))] H := hP
  have hD : va_D A [(h0, .inr (14, [.ref q_1, .ref q_15, .ref q_29, .null, .null, .null, .int 0, .null, .null, .null, .long 0, .null, .int 0, .int 0, .int 0, .int 0, .int 0, .int 0, .int 0, .null, .null])), (q_1, .inl (cA_2, 64, .inl (upd (upd (upd f_14 61 306) 62 307) 63 308))), (q_15, .inl (cA_16, 64, .inl (upd (upd (upd f_28 61 4186) 62 4198) 63 4199))), (q_29, .inl (cA_30, 27, .inl (upd (upd f_35 25 88) 26 667))), (q_36, .inl (cA_37, 27, .inl (upd (upd (upd (upd (upd f_41 19 8274) 20 8275) 21 8276) 22 8277) 23 8282)))] := hD
  rw [← ef_42] at hP hD
  have hP : va_P (dC, dI) vcl [(h0, .inr (14, [.ref q_1, .ref q_15, .ref q_29, .null, .null, .null, .int 0, .null, .null, .null, .long 0, .null, .int 0, .int 0, .int 0, .int 0, .int 0, .int 0, .int 0, .null, .null])), (q_1, .inl (cA_2, 64, .inl (upd (upd (upd f_14 61 306) 62 307) 63 308))), (q_15, .inl (cA_16, 64, .inl (upd (upd (upd f_28 61 4186) 62 4198) 63 4199))), (q_29, .inl (cA_30, 27, .inl (upd (upd f_35 25 88) 26 667))), (q_36, .inl (cA_37, 27, .inl f_42))] H := hP
  have hD : va_D A [(h0, .inr (14, [.ref q_1, .ref q_15, .ref q_29, .null, .null, .null, .int 0, .null, .null, .null, .long 0, .null, .int 0, .int 0, .int 0, .int 0, .int 0, .int 0, .int 0, .null, .null])), (q_1, .inl (cA_2, 64, .inl (upd (upd (upd f_14 61 306) 62 307) 63 308))), (q_15, .inl (cA_16, 64, .inl (upd (upd (upd f_28 61 4186) 62 4198) 63 4199))), (q_29, .inl (cA_30, 27, .inl (upd (upd f_35 25 88) 26 667))), (q_36, .inl (cA_37, 27, .inl f_42))] := hD
  refine lv_dup hx hb d_mLines_init_1232 rfl ?_
  refine lv_bipush (v := 24) hx hb d_mLines_init_1233 (by decide) ?_
  refine lv_sipush (v := 8283) hx hb d_mLines_init_1235 (by decide) ?_
  refine va_iast hx hb hK hP hD hS 4 3 rfl rfl (show ¬ ((24 : Int32) < 0 ∨ 27 ≤ (24 : Int32).toNatClampNeg) by decide) d_mLines_init_1238 (fun H locs hP hD hS => ?_)
  rw [show (24 : Int32).toNatClampNeg = 24 by decide] at hP hD
  have hP : va_P (dC, dI) vcl [(h0, .inr (14, [.ref q_1, .ref q_15, .ref q_29, .null, .null, .null, .int 0, .null, .null, .null, .long 0, .null, .int 0, .int 0, .int 0, .int 0, .int 0, .int 0, .int 0, .null, .null])), (q_1, .inl (cA_2, 64, .inl (upd (upd (upd f_14 61 306) 62 307) 63 308))), (q_15, .inl (cA_16, 64, .inl (upd (upd (upd f_28 61 4186) 62 4198) 63 4199))), (q_29, .inl (cA_30, 27, .inl (upd (upd f_35 25 88) 26 667))), (q_36, .inl (cA_37, 27, .inl (upd f_42 24 8283)))] H := hP
  have hD : va_D A [(h0, .inr (14, [.ref q_1, .ref q_15, .ref q_29, .null, .null, .null, .int 0, .null, .null, .null, .long 0, .null, .int 0, .int 0, .int 0, .int 0, .int 0, .int 0, .int 0, .null, .null])), (q_1, .inl (cA_2, 64, .inl (upd (upd (upd f_14 61 306) 62 307) 63 308))), (q_15, .inl (cA_16, 64, .inl (upd (upd (upd f_28 61 4186) 62 4198) 63 4199))), (q_29, .inl (cA_30, 27, .inl (upd (upd f_35 25 88) 26 667))), (q_36, .inl (cA_37, 27, .inl (upd f_42 24 8283)))] := hD
  refine lv_dup hx hb d_mLines_init_1239 rfl ?_
  refine lv_bipush (v := 25) hx hb d_mLines_init_1240 (by decide) ?_
  refine lv_sipush (v := 8292) hx hb d_mLines_init_1242 (by decide) ?_
  refine va_iast hx hb hK hP hD hS 4 3 rfl rfl (show ¬ ((25 : Int32) < 0 ∨ 27 ≤ (25 : Int32).toNatClampNeg) by decide) d_mLines_init_1245 (fun H locs hP hD hS => ?_)
  rw [show (25 : Int32).toNatClampNeg = 25 by decide] at hP hD
  have hP : va_P (dC, dI) vcl [(h0, .inr (14, [.ref q_1, .ref q_15, .ref q_29, .null, .null, .null, .int 0, .null, .null, .null, .long 0, .null, .int 0, .int 0, .int 0, .int 0, .int 0, .int 0, .int 0, .null, .null])), (q_1, .inl (cA_2, 64, .inl (upd (upd (upd f_14 61 306) 62 307) 63 308))), (q_15, .inl (cA_16, 64, .inl (upd (upd (upd f_28 61 4186) 62 4198) 63 4199))), (q_29, .inl (cA_30, 27, .inl (upd (upd f_35 25 88) 26 667))), (q_36, .inl (cA_37, 27, .inl (upd (upd f_42 24 8283) 25 8292)))] H := hP
  have hD : va_D A [(h0, .inr (14, [.ref q_1, .ref q_15, .ref q_29, .null, .null, .null, .int 0, .null, .null, .null, .long 0, .null, .int 0, .int 0, .int 0, .int 0, .int 0, .int 0, .int 0, .null, .null])), (q_1, .inl (cA_2, 64, .inl (upd (upd (upd f_14 61 306) 62 307) 63 308))), (q_15, .inl (cA_16, 64, .inl (upd (upd (upd f_28 61 4186) 62 4198) 63 4199))), (q_29, .inl (cA_30, 27, .inl (upd (upd f_35 25 88) 26 667))), (q_36, .inl (cA_37, 27, .inl (upd (upd f_42 24 8283) 25 8292)))] := hD
  refine lv_dup hx hb d_mLines_init_1246 rfl ?_
  refine lv_bipush (v := 26) hx hb d_mLines_init_1247 (by decide) ?_
  refine lv_sipush (v := 8293) hx hb d_mLines_init_1249 (by decide) ?_
  refine va_iast hx hb hK hP hD hS 4 3 rfl rfl (show ¬ ((26 : Int32) < 0 ∨ 27 ≤ (26 : Int32).toNatClampNeg) by decide) d_mLines_init_1252 (fun H locs hP hD hS => ?_)
  rw [show (26 : Int32).toNatClampNeg = 26 by decide] at hP hD
  have hP : va_P (dC, dI) vcl [(h0, .inr (14, [.ref q_1, .ref q_15, .ref q_29, .null, .null, .null, .int 0, .null, .null, .null, .long 0, .null, .int 0, .int 0, .int 0, .int 0, .int 0, .int 0, .int 0, .null, .null])), (q_1, .inl (cA_2, 64, .inl (upd (upd (upd f_14 61 306) 62 307) 63 308))), (q_15, .inl (cA_16, 64, .inl (upd (upd (upd f_28 61 4186) 62 4198) 63 4199))), (q_29, .inl (cA_30, 27, .inl (upd (upd f_35 25 88) 26 667))), (q_36, .inl (cA_37, 27, .inl (upd (upd (upd f_42 24 8283) 25 8292) 26 8293)))] H := hP
  have hD : va_D A [(h0, .inr (14, [.ref q_1, .ref q_15, .ref q_29, .null, .null, .null, .int 0, .null, .null, .null, .long 0, .null, .int 0, .int 0, .int 0, .int 0, .int 0, .int 0, .int 0, .null, .null])), (q_1, .inl (cA_2, 64, .inl (upd (upd (upd f_14 61 306) 62 307) 63 308))), (q_15, .inl (cA_16, 64, .inl (upd (upd (upd f_28 61 4186) 62 4198) 63 4199))), (q_29, .inl (cA_30, 27, .inl (upd (upd f_35 25 88) 26 667))), (q_36, .inl (cA_37, 27, .inl (upd (upd (upd f_42 24 8283) 25 8292) 26 8293)))] := hD
  refine va_putF (D := (dC, dI)) (ci := 14) (v := .ref q_36) (ty := (.array .int)) (C := R_mLines) (T := F_mLines) (N := 21) hx hb hwd i_mLines t_mLines to_mLines no_mLines hown hK hP hD hS 0 rfl rfl 3 (by decide) (hwd _ wd_10_86) (fun _ h9 => h9) rfl hin rfl (by decide +kernel) rfl rfl (Nat.le_of_ble_eq_true rfl) d_mLines_init_1253 (fun H locs hP hD hS => ?_)
  have hP : va_P (dC, dI) vcl [(h0, .inr (14, [.ref q_1, .ref q_15, .ref q_29, .ref q_36, .null, .null, .int 0, .null, .null, .null, .long 0, .null, .int 0, .int 0, .int 0, .int 0, .int 0, .int 0, .int 0, .null, .null])), (q_1, .inl (cA_2, 64, .inl (upd (upd (upd f_14 61 306) 62 307) 63 308))), (q_15, .inl (cA_16, 64, .inl (upd (upd (upd f_28 61 4186) 62 4198) 63 4199))), (q_29, .inl (cA_30, 27, .inl (upd (upd f_35 25 88) 26 667))), (q_36, .inl (cA_37, 27, .inl (upd (upd (upd f_42 24 8283) 25 8292) 26 8293)))] H := hP
  have hD : va_D A [(h0, .inr (14, [.ref q_1, .ref q_15, .ref q_29, .ref q_36, .null, .null, .int 0, .null, .null, .null, .long 0, .null, .int 0, .int 0, .int 0, .int 0, .int 0, .int 0, .int 0, .null, .null])), (q_1, .inl (cA_2, 64, .inl (upd (upd (upd f_14 61 306) 62 307) 63 308))), (q_15, .inl (cA_16, 64, .inl (upd (upd (upd f_28 61 4186) 62 4198) 63 4199))), (q_29, .inl (cA_30, 27, .inl (upd (upd f_35 25 88) 26 667))), (q_36, .inl (cA_37, 27, .inl (upd (upd (upd f_42 24 8283) 25 8292) 26 8293)))] := hD
  refine lv_aload_n hx hb d_mLines_init_1256 rfl (lv_at hl 0 rfl) ?_
  refine lv_bipush (v := 13) hx hb d_mLines_init_1257 (by decide) ?_
  refine va_newa (atype := .int) (N' := 13) (a0 := (13, .inl (fun _ => 0))) (ty := .int) (n := 13) hx hb (hwd _ wd_1_167) rfl hK hP hD hS hA (fun _ => rfl) (by decide) (by decide) (by decide) (Nat.le_of_ble_eq_true rfl) (Nat.le_of_ble_eq_true rfl) d_mLines_init_1259 (fun q_43 cA_44 H hK hP hD hS => ?_)
  have hP : va_P (dC, dI) vcl [(h0, .inr (14, [.ref q_1, .ref q_15, .ref q_29, .ref q_36, .null, .null, .int 0, .null, .null, .null, .long 0, .null, .int 0, .int 0, .int 0, .int 0, .int 0, .int 0, .int 0, .null, .null])), (q_1, .inl (cA_2, 64, .inl (upd (upd (upd f_14 61 306) 62 307) 63 308))), (q_15, .inl (cA_16, 64, .inl (upd (upd (upd f_28 61 4186) 62 4198) 63 4199))), (q_29, .inl (cA_30, 27, .inl (upd (upd f_35 25 88) 26 667))), (q_36, .inl (cA_37, 27, .inl (upd (upd (upd f_42 24 8283) 25 8292) 26 8293))), (q_43, .inl (cA_44, 13, .inl (fun _ => 0)))] H := hP
  have hD : va_D A [(h0, .inr (14, [.ref q_1, .ref q_15, .ref q_29, .ref q_36, .null, .null, .int 0, .null, .null, .null, .long 0, .null, .int 0, .int 0, .int 0, .int 0, .int 0, .int 0, .int 0, .null, .null])), (q_1, .inl (cA_2, 64, .inl (upd (upd (upd f_14 61 306) 62 307) 63 308))), (q_15, .inl (cA_16, 64, .inl (upd (upd (upd f_28 61 4186) 62 4198) 63 4199))), (q_29, .inl (cA_30, 27, .inl (upd (upd f_35 25 88) 26 667))), (q_36, .inl (cA_37, 27, .inl (upd (upd (upd f_42 24 8283) 25 8292) 26 8293))), (q_43, .inl (cA_44, 13, .inl (fun _ => 0)))] := hD
  have hK : va_K (dC, dI) vcl [(cA_2, .int), (cA_16, .int), (cA_30, .int), (cA_37, .int), (cA_44, .int)] s := hK
  refine W.widen (k := 5) (n := 195) (by decide) (by decide) ?_
  refine lv_dup hx hb d_mLines_init_1261 rfl ?_
  refine lv_iconst (v := 0) hx hb d_mLines_init_1262 (by decide) ?_
  refine lv_sipush (v := 2056) hx hb d_mLines_init_1263 (by decide) ?_
  refine va_iast hx hb hK hP hD hS 5 4 rfl rfl (show ¬ ((0 : Int32) < 0 ∨ 13 ≤ (0 : Int32).toNatClampNeg) by decide) d_mLines_init_1266 (fun H locs hP hD hS => ?_)
  rw [show (0 : Int32).toNatClampNeg = 0 by decide] at hP hD
  have hP : va_P (dC, dI) vcl [(h0, .inr (14, [.ref q_1, .ref q_15, .ref q_29, .ref q_36, .null, .null, .int 0, .null, .null, .null, .long 0, .null, .int 0, .int 0, .int 0, .int 0, .int 0, .int 0, .int 0, .null, .null])), (q_1, .inl (cA_2, 64, .inl (upd (upd (upd f_14 61 306) 62 307) 63 308))), (q_15, .inl (cA_16, 64, .inl (upd (upd (upd f_28 61 4186) 62 4198) 63 4199))), (q_29, .inl (cA_30, 27, .inl (upd (upd f_35 25 88) 26 667))), (q_36, .inl (cA_37, 27, .inl (upd (upd (upd f_42 24 8283) 25 8292) 26 8293))), (q_43, .inl (cA_44, 13, .inl (upd (fun _ => 0) 0 2056)))] H := hP
  have hD : va_D A [(h0, .inr (14, [.ref q_1, .ref q_15, .ref q_29, .ref q_36, .null, .null, .int 0, .null, .null, .null, .long 0, .null, .int 0, .int 0, .int 0, .int 0, .int 0, .int 0, .int 0, .null, .null])), (q_1, .inl (cA_2, 64, .inl (upd (upd (upd f_14 61 306) 62 307) 63 308))), (q_15, .inl (cA_16, 64, .inl (upd (upd (upd f_28 61 4186) 62 4198) 63 4199))), (q_29, .inl (cA_30, 27, .inl (upd (upd f_35 25 88) 26 667))), (q_36, .inl (cA_37, 27, .inl (upd (upd (upd f_42 24 8283) 25 8292) 26 8293))), (q_43, .inl (cA_44, 13, .inl (upd (fun _ => 0) 0 2056)))] := hD
  refine lv_dup hx hb d_mLines_init_1267 rfl ?_
  refine lv_iconst (v := 1) hx hb d_mLines_init_1268 (by decide) ?_
  refine lv_sipush (v := 2060) hx hb d_mLines_init_1269 (by decide) ?_
  refine va_iast hx hb hK hP hD hS 5 4 rfl rfl (show ¬ ((1 : Int32) < 0 ∨ 13 ≤ (1 : Int32).toNatClampNeg) by decide) d_mLines_init_1272 (fun H locs hP hD hS => ?_)
  rw [show (1 : Int32).toNatClampNeg = 1 by decide] at hP hD
  have hP : va_P (dC, dI) vcl [(h0, .inr (14, [.ref q_1, .ref q_15, .ref q_29, .ref q_36, .null, .null, .int 0, .null, .null, .null, .long 0, .null, .int 0, .int 0, .int 0, .int 0, .int 0, .int 0, .int 0, .null, .null])), (q_1, .inl (cA_2, 64, .inl (upd (upd (upd f_14 61 306) 62 307) 63 308))), (q_15, .inl (cA_16, 64, .inl (upd (upd (upd f_28 61 4186) 62 4198) 63 4199))), (q_29, .inl (cA_30, 27, .inl (upd (upd f_35 25 88) 26 667))), (q_36, .inl (cA_37, 27, .inl (upd (upd (upd f_42 24 8283) 25 8292) 26 8293))), (q_43, .inl (cA_44, 13, .inl (upd (upd (fun _ => 0) 0 2056) 1 2060)))] H := hP
  have hD : va_D A [(h0, .inr (14, [.ref q_1, .ref q_15, .ref q_29, .ref q_36, .null, .null, .int 0, .null, .null, .null, .long 0, .null, .int 0, .int 0, .int 0, .int 0, .int 0, .int 0, .int 0, .null, .null])), (q_1, .inl (cA_2, 64, .inl (upd (upd (upd f_14 61 306) 62 307) 63 308))), (q_15, .inl (cA_16, 64, .inl (upd (upd (upd f_28 61 4186) 62 4198) 63 4199))), (q_29, .inl (cA_30, 27, .inl (upd (upd f_35 25 88) 26 667))), (q_36, .inl (cA_37, 27, .inl (upd (upd (upd f_42 24 8283) 25 8292) 26 8293))), (q_43, .inl (cA_44, 13, .inl (upd (upd (fun _ => 0) 0 2056) 1 2060)))] := hD
  refine lv_dup hx hb d_mLines_init_1273 rfl ?_
  refine lv_iconst (v := 2) hx hb d_mLines_init_1274 (by decide) ?_
  refine lv_sipush (v := 2061) hx hb d_mLines_init_1275 (by decide) ?_
  refine va_iast hx hb hK hP hD hS 5 4 rfl rfl (show ¬ ((2 : Int32) < 0 ∨ 13 ≤ (2 : Int32).toNatClampNeg) by decide) d_mLines_init_1278 (fun H locs hP hD hS => ?_)
  rw [show (2 : Int32).toNatClampNeg = 2 by decide] at hP hD
  have hP : va_P (dC, dI) vcl [(h0, .inr (14, [.ref q_1, .ref q_15, .ref q_29, .ref q_36, .null, .null, .int 0, .null, .null, .null, .long 0, .null, .int 0, .int 0, .int 0, .int 0, .int 0, .int 0, .int 0, .null, .null])), (q_1, .inl (cA_2, 64, .inl (upd (upd (upd f_14 61 306) 62 307) 63 308))), (q_15, .inl (cA_16, 64, .inl (upd (upd (upd f_28 61 4186) 62 4198) 63 4199))), (q_29, .inl (cA_30, 27, .inl (upd (upd f_35 25 88) 26 667))), (q_36, .inl (cA_37, 27, .inl (upd (upd (upd f_42 24 8283) 25 8292) 26 8293))), (q_43, .inl (cA_44, 13, .inl (upd (upd (upd (fun _ => 0) 0 2056) 1 2060) 2 2061)))] H := hP
  have hD : va_D A [(h0, .inr (14, [.ref q_1, .ref q_15, .ref q_29, .ref q_36, .null, .null, .int 0, .null, .null, .null, .long 0, .null, .int 0, .int 0, .int 0, .int 0, .int 0, .int 0, .int 0, .null, .null])), (q_1, .inl (cA_2, 64, .inl (upd (upd (upd f_14 61 306) 62 307) 63 308))), (q_15, .inl (cA_16, 64, .inl (upd (upd (upd f_28 61 4186) 62 4198) 63 4199))), (q_29, .inl (cA_30, 27, .inl (upd (upd f_35 25 88) 26 667))), (q_36, .inl (cA_37, 27, .inl (upd (upd (upd f_42 24 8283) 25 8292) 26 8293))), (q_43, .inl (cA_44, 13, .inl (upd (upd (upd (fun _ => 0) 0 2056) 1 2060) 2 2061)))] := hD
  refine lv_dup hx hb d_mLines_init_1279 rfl ?_
  refine lv_iconst (v := 3) hx hb d_mLines_init_1280 (by decide) ?_
  refine lv_sipush (v := 4114) hx hb d_mLines_init_1281 (by decide) ?_
  refine va_iast hx hb hK hP hD hS 5 4 rfl rfl (show ¬ ((3 : Int32) < 0 ∨ 13 ≤ (3 : Int32).toNatClampNeg) by decide) d_mLines_init_1284 (fun H locs hP hD hS => ?_)
  rw [show (3 : Int32).toNatClampNeg = 3 by decide] at hP hD
  obtain ⟨f_45, ef_45⟩ : ∃ y : Nat → Int32, y = upd (upd (upd (upd (fun _ => 0) 0 2056) 1 2060) 2 2061) 3 4114 := ⟨_, rfl⟩
  have hP : va_P (dC, dI) vcl [(h0, .inr (14, [.ref q_1, .ref q_15, .ref q_29, .ref q_36, .null, .null, .int 0, .null, .null, .null, .long 0, .null, .int 0, .int 0, .int 0, .int 0, .int 0, .int 0, .int 0, .null, .null])), (q_1, .inl (cA_2, 64, .inl (upd (upd (upd f_14 61 306) 62 307) 63 308))), (q_15, .inl (cA_16, 64, .inl (upd (upd (upd f_28 61 4186) 62 4198) 63 4199))), (q_29, .inl (cA_30, 27, .inl (upd (upd f_35 25 88) 26 667))), (q_36, .inl (cA_37, 27, .inl (upd (upd (upd f_42 24 8283) 25 8292) 26 8293))), (q_43, .inl (cA_44, 13, .inl (upd (upd (upd (upd (fun _ => 0) 0 2056) 1 2060) 2 2061) 3 4114)))] H := hP
  have hD : va_D A [(h0, .inr (14, [.ref q_1, .ref q_15, .ref q_29, .ref q_36, .null, .null, .int 0, .null, .null, .null, .long 0, .null, .int 0, .int 0, .int 0, .int 0, .int 0, .int 0, .int 0, .null, .null])), (q_1, .inl (cA_2, 64, .inl (upd (upd (upd f_14 61 306) 62 307) 63 308))), (q_15, .inl (cA_16, 64, .inl (upd (upd (upd f_28 61 4186) 62 4198) 63 4199))), (q_29, .inl (cA_30, 27, .inl (upd (upd f_35 25 88) 26 667))), (q_36, .inl (cA_37, 27, .inl (upd (upd (upd f_42 24 8283) 25 8292) 26 8293))), (q_43, .inl (cA_44, 13, .inl (upd (upd (upd (upd (fun _ => 0) 0 2056) 1 2060) 2 2061) 3 4114)))] := hD
  rw [← ef_45] at hP hD
  have hP : va_P (dC, dI) vcl [(h0, .inr (14, [.ref q_1, .ref q_15, .ref q_29, .ref q_36, .null, .null, .int 0, .null, .null, .null, .long 0, .null, .int 0, .int 0, .int 0, .int 0, .int 0, .int 0, .int 0, .null, .null])), (q_1, .inl (cA_2, 64, .inl (upd (upd (upd f_14 61 306) 62 307) 63 308))), (q_15, .inl (cA_16, 64, .inl (upd (upd (upd f_28 61 4186) 62 4198) 63 4199))), (q_29, .inl (cA_30, 27, .inl (upd (upd f_35 25 88) 26 667))), (q_36, .inl (cA_37, 27, .inl (upd (upd (upd f_42 24 8283) 25 8292) 26 8293))), (q_43, .inl (cA_44, 13, .inl f_45))] H := hP
  have hD : va_D A [(h0, .inr (14, [.ref q_1, .ref q_15, .ref q_29, .ref q_36, .null, .null, .int 0, .null, .null, .null, .long 0, .null, .int 0, .int 0, .int 0, .int 0, .int 0, .int 0, .int 0, .null, .null])), (q_1, .inl (cA_2, 64, .inl (upd (upd (upd f_14 61 306) 62 307) 63 308))), (q_15, .inl (cA_16, 64, .inl (upd (upd (upd f_28 61 4186) 62 4198) 63 4199))), (q_29, .inl (cA_30, 27, .inl (upd (upd f_35 25 88) 26 667))), (q_36, .inl (cA_37, 27, .inl (upd (upd (upd f_42 24 8283) 25 8292) 26 8293))), (q_43, .inl (cA_44, 13, .inl f_45))] := hD
  refine lv_dup hx hb d_mLines_init_1285 rfl ?_
  refine lv_iconst (v := 4) hx hb d_mLines_init_1286 (by decide) ?_
  refine lv_sipush (v := 4115) hx hb d_mLines_init_1287 (by decide) ?_
  refine va_iast hx hb hK hP hD hS 5 4 rfl rfl (show ¬ ((4 : Int32) < 0 ∨ 13 ≤ (4 : Int32).toNatClampNeg) by decide) d_mLines_init_1290 (fun H locs hP hD hS => ?_)
  rw [show (4 : Int32).toNatClampNeg = 4 by decide] at hP hD
  have hP : va_P (dC, dI) vcl [(h0, .inr (14, [.ref q_1, .ref q_15, .ref q_29, .ref q_36, .null, .null, .int 0, .null, .null, .null, .long 0, .null, .int 0, .int 0, .int 0, .int 0, .int 0, .int 0, .int 0, .null, .null])), (q_1, .inl (cA_2, 64, .inl (upd (upd (upd f_14 61 306) 62 307) 63 308))), (q_15, .inl (cA_16, 64, .inl (upd (upd (upd f_28 61 4186) 62 4198) 63 4199))), (q_29, .inl (cA_30, 27, .inl (upd (upd f_35 25 88) 26 667))), (q_36, .inl (cA_37, 27, .inl (upd (upd (upd f_42 24 8283) 25 8292) 26 8293))), (q_43, .inl (cA_44, 13, .inl (upd f_45 4 4115)))] H := hP
  have hD : va_D A [(h0, .inr (14, [.ref q_1, .ref q_15, .ref q_29, .ref q_36, .null, .null, .int 0, .null, .null, .null, .long 0, .null, .int 0, .int 0, .int 0, .int 0, .int 0, .int 0, .int 0, .null, .null])), (q_1, .inl (cA_2, 64, .inl (upd (upd (upd f_14 61 306) 62 307) 63 308))), (q_15, .inl (cA_16, 64, .inl (upd (upd (upd f_28 61 4186) 62 4198) 63 4199))), (q_29, .inl (cA_30, 27, .inl (upd (upd f_35 25 88) 26 667))), (q_36, .inl (cA_37, 27, .inl (upd (upd (upd f_42 24 8283) 25 8292) 26 8293))), (q_43, .inl (cA_44, 13, .inl (upd f_45 4 4115)))] := hD
  refine lv_dup hx hb d_mLines_init_1291 rfl ?_
  refine lv_iconst (v := 5) hx hb d_mLines_init_1292 (by decide) ?_
  refine lv_sipush (v := 4116) hx hb d_mLines_init_1293 (by decide) ?_
  refine va_iast hx hb hK hP hD hS 5 4 rfl rfl (show ¬ ((5 : Int32) < 0 ∨ 13 ≤ (5 : Int32).toNatClampNeg) by decide) d_mLines_init_1296 (fun H locs hP hD hS => ?_)
  rw [show (5 : Int32).toNatClampNeg = 5 by decide] at hP hD
  have hP : va_P (dC, dI) vcl [(h0, .inr (14, [.ref q_1, .ref q_15, .ref q_29, .ref q_36, .null, .null, .int 0, .null, .null, .null, .long 0, .null, .int 0, .int 0, .int 0, .int 0, .int 0, .int 0, .int 0, .null, .null])), (q_1, .inl (cA_2, 64, .inl (upd (upd (upd f_14 61 306) 62 307) 63 308))), (q_15, .inl (cA_16, 64, .inl (upd (upd (upd f_28 61 4186) 62 4198) 63 4199))), (q_29, .inl (cA_30, 27, .inl (upd (upd f_35 25 88) 26 667))), (q_36, .inl (cA_37, 27, .inl (upd (upd (upd f_42 24 8283) 25 8292) 26 8293))), (q_43, .inl (cA_44, 13, .inl (upd (upd f_45 4 4115) 5 4116)))] H := hP
  have hD : va_D A [(h0, .inr (14, [.ref q_1, .ref q_15, .ref q_29, .ref q_36, .null, .null, .int 0, .null, .null, .null, .long 0, .null, .int 0, .int 0, .int 0, .int 0, .int 0, .int 0, .int 0, .null, .null])), (q_1, .inl (cA_2, 64, .inl (upd (upd (upd f_14 61 306) 62 307) 63 308))), (q_15, .inl (cA_16, 64, .inl (upd (upd (upd f_28 61 4186) 62 4198) 63 4199))), (q_29, .inl (cA_30, 27, .inl (upd (upd f_35 25 88) 26 667))), (q_36, .inl (cA_37, 27, .inl (upd (upd (upd f_42 24 8283) 25 8292) 26 8293))), (q_43, .inl (cA_44, 13, .inl (upd (upd f_45 4 4115) 5 4116)))] := hD
  refine lv_dup hx hb d_mLines_init_1297 rfl ?_
  refine lv_bipush (v := 6) hx hb d_mLines_init_1298 (by decide) ?_
  refine lv_sipush (v := 4117) hx hb d_mLines_init_1300 (by decide) ?_
  refine va_iast hx hb hK hP hD hS 5 4 rfl rfl (show ¬ ((6 : Int32) < 0 ∨ 13 ≤ (6 : Int32).toNatClampNeg) by decide) d_mLines_init_1303 (fun H locs hP hD hS => ?_)
  rw [show (6 : Int32).toNatClampNeg = 6 by decide] at hP hD
  have hP : va_P (dC, dI) vcl [(h0, .inr (14, [.ref q_1, .ref q_15, .ref q_29, .ref q_36, .null, .null, .int 0, .null, .null, .null, .long 0, .null, .int 0, .int 0, .int 0, .int 0, .int 0, .int 0, .int 0, .null, .null])), (q_1, .inl (cA_2, 64, .inl (upd (upd (upd f_14 61 306) 62 307) 63 308))), (q_15, .inl (cA_16, 64, .inl (upd (upd (upd f_28 61 4186) 62 4198) 63 4199))), (q_29, .inl (cA_30, 27, .inl (upd (upd f_35 25 88) 26 667))), (q_36, .inl (cA_37, 27, .inl (upd (upd (upd f_42 24 8283) 25 8292) 26 8293))), (q_43, .inl (cA_44, 13, .inl (upd (upd (upd f_45 4 4115) 5 4116) 6 4117)))] H := hP
  have hD : va_D A [(h0, .inr (14, [.ref q_1, .ref q_15, .ref q_29, .ref q_36, .null, .null, .int 0, .null, .null, .null, .long 0, .null, .int 0, .int 0, .int 0, .int 0, .int 0, .int 0, .int 0, .null, .null])), (q_1, .inl (cA_2, 64, .inl (upd (upd (upd f_14 61 306) 62 307) 63 308))), (q_15, .inl (cA_16, 64, .inl (upd (upd (upd f_28 61 4186) 62 4198) 63 4199))), (q_29, .inl (cA_30, 27, .inl (upd (upd f_35 25 88) 26 667))), (q_36, .inl (cA_37, 27, .inl (upd (upd (upd f_42 24 8283) 25 8292) 26 8293))), (q_43, .inl (cA_44, 13, .inl (upd (upd (upd f_45 4 4115) 5 4116) 6 4117)))] := hD
  refine lv_dup hx hb d_mLines_init_1304 rfl ?_
  refine lv_bipush (v := 7) hx hb d_mLines_init_1305 (by decide) ?_
  refine lv_sipush (v := 4118) hx hb d_mLines_init_1307 (by decide) ?_
  refine va_iast hx hb hK hP hD hS 5 4 rfl rfl (show ¬ ((7 : Int32) < 0 ∨ 13 ≤ (7 : Int32).toNatClampNeg) by decide) d_mLines_init_1310 (fun H locs hP hD hS => ?_)
  rw [show (7 : Int32).toNatClampNeg = 7 by decide] at hP hD
  have hP : va_P (dC, dI) vcl [(h0, .inr (14, [.ref q_1, .ref q_15, .ref q_29, .ref q_36, .null, .null, .int 0, .null, .null, .null, .long 0, .null, .int 0, .int 0, .int 0, .int 0, .int 0, .int 0, .int 0, .null, .null])), (q_1, .inl (cA_2, 64, .inl (upd (upd (upd f_14 61 306) 62 307) 63 308))), (q_15, .inl (cA_16, 64, .inl (upd (upd (upd f_28 61 4186) 62 4198) 63 4199))), (q_29, .inl (cA_30, 27, .inl (upd (upd f_35 25 88) 26 667))), (q_36, .inl (cA_37, 27, .inl (upd (upd (upd f_42 24 8283) 25 8292) 26 8293))), (q_43, .inl (cA_44, 13, .inl (upd (upd (upd (upd f_45 4 4115) 5 4116) 6 4117) 7 4118)))] H := hP
  have hD : va_D A [(h0, .inr (14, [.ref q_1, .ref q_15, .ref q_29, .ref q_36, .null, .null, .int 0, .null, .null, .null, .long 0, .null, .int 0, .int 0, .int 0, .int 0, .int 0, .int 0, .int 0, .null, .null])), (q_1, .inl (cA_2, 64, .inl (upd (upd (upd f_14 61 306) 62 307) 63 308))), (q_15, .inl (cA_16, 64, .inl (upd (upd (upd f_28 61 4186) 62 4198) 63 4199))), (q_29, .inl (cA_30, 27, .inl (upd (upd f_35 25 88) 26 667))), (q_36, .inl (cA_37, 27, .inl (upd (upd (upd f_42 24 8283) 25 8292) 26 8293))), (q_43, .inl (cA_44, 13, .inl (upd (upd (upd (upd f_45 4 4115) 5 4116) 6 4117) 7 4118)))] := hD
  refine lv_dup hx hb d_mLines_init_1311 rfl ?_
  refine lv_bipush (v := 8) hx hb d_mLines_init_1312 (by decide) ?_
  refine lv_sipush (v := 4119) hx hb d_mLines_init_1314 (by decide) ?_
  refine va_iast hx hb hK hP hD hS 5 4 rfl rfl (show ¬ ((8 : Int32) < 0 ∨ 13 ≤ (8 : Int32).toNatClampNeg) by decide) d_mLines_init_1317 (fun H locs hP hD hS => ?_)
  rw [show (8 : Int32).toNatClampNeg = 8 by decide] at hP hD
  obtain ⟨f_46, ef_46⟩ : ∃ y : Nat → Int32, y = upd (upd (upd (upd (upd f_45 4 4115) 5 4116) 6 4117) 7 4118) 8 4119 := ⟨_, rfl⟩
  have hP : va_P (dC, dI) vcl [(h0, .inr (14, [.ref q_1, .ref q_15, .ref q_29, .ref q_36, .null, .null, .int 0, .null, .null, .null, .long 0, .null, .int 0, .int 0, .int 0, .int 0, .int 0, .int 0, .int 0, .null, .null])), (q_1, .inl (cA_2, 64, .inl (upd (upd (upd f_14 61 306) 62 307) 63 308))), (q_15, .inl (cA_16, 64, .inl (upd (upd (upd f_28 61 4186) 62 4198) 63 4199))), (q_29, .inl (cA_30, 27, .inl (upd (upd f_35 25 88) 26 667))), (q_36, .inl (cA_37, 27, .inl (upd (upd (upd f_42 24 8283) 25 8292) 26 8293))), (q_43, .inl (cA_44, 13, .inl (upd (upd (upd (upd (upd f_45 4 4115) 5 4116) 6 4117) 7 4118) 8 4119)))] H := hP
  have hD : va_D A [(h0, .inr (14, [.ref q_1, .ref q_15, .ref q_29, .ref q_36, .null, .null, .int 0, .null, .null, .null, .long 0, .null, .int 0, .int 0, .int 0, .int 0, .int 0, .int 0, .int 0, .null, .null])), (q_1, .inl (cA_2, 64, .inl (upd (upd (upd f_14 61 306) 62 307) 63 308))), (q_15, .inl (cA_16, 64, .inl (upd (upd (upd f_28 61 4186) 62 4198) 63 4199))), (q_29, .inl (cA_30, 27, .inl (upd (upd f_35 25 88) 26 667))), (q_36, .inl (cA_37, 27, .inl (upd (upd (upd f_42 24 8283) 25 8292) 26 8293))), (q_43, .inl (cA_44, 13, .inl (upd (upd (upd (upd (upd f_45 4 4115) 5 4116) 6 4117) 7 4118) 8 4119)))] := hD
  rw [← ef_46] at hP hD
  have hP : va_P (dC, dI) vcl [(h0, .inr (14, [.ref q_1, .ref q_15, .ref q_29, .ref q_36, .null, .null, .int 0, .null, .null, .null, .long 0, .null, .int 0, .int 0, .int 0, .int 0, .int 0, .int 0, .int 0, .null, .null])), (q_1, .inl (cA_2, 64, .inl (upd (upd (upd f_14 61 306) 62 307) 63 308))), (q_15, .inl (cA_16, 64, .inl (upd (upd (upd f_28 61 4186) 62 4198) 63 4199))), (q_29, .inl (cA_30, 27, .inl (upd (upd f_35 25 88) 26 667))), (q_36, .inl (cA_37, 27, .inl (upd (upd (upd f_42 24 8283) 25 8292) 26 8293))), (q_43, .inl (cA_44, 13, .inl f_46))] H := hP
  have hD : va_D A [(h0, .inr (14, [.ref q_1, .ref q_15, .ref q_29, .ref q_36, .null, .null, .int 0, .null, .null, .null, .long 0, .null, .int 0, .int 0, .int 0, .int 0, .int 0, .int 0, .int 0, .null, .null])), (q_1, .inl (cA_2, 64, .inl (upd (upd (upd f_14 61 306) 62 307) 63 308))), (q_15, .inl (cA_16, 64, .inl (upd (upd (upd f_28 61 4186) 62 4198) 63 4199))), (q_29, .inl (cA_30, 27, .inl (upd (upd f_35 25 88) 26 667))), (q_36, .inl (cA_37, 27, .inl (upd (upd (upd f_42 24 8283) 25 8292) 26 8293))), (q_43, .inl (cA_44, 13, .inl f_46))] := hD
  refine lv_dup hx hb d_mLines_init_1318 rfl ?_
  refine lv_bipush (v := 9) hx hb d_mLines_init_1319 (by decide) ?_
  refine lv_sipush (v := 4124) hx hb d_mLines_init_1321 (by decide) ?_
  refine va_iast hx hb hK hP hD hS 5 4 rfl rfl (show ¬ ((9 : Int32) < 0 ∨ 13 ≤ (9 : Int32).toNatClampNeg) by decide) d_mLines_init_1324 (fun H locs hP hD hS => ?_)
  rw [show (9 : Int32).toNatClampNeg = 9 by decide] at hP hD
  have hP : va_P (dC, dI) vcl [(h0, .inr (14, [.ref q_1, .ref q_15, .ref q_29, .ref q_36, .null, .null, .int 0, .null, .null, .null, .long 0, .null, .int 0, .int 0, .int 0, .int 0, .int 0, .int 0, .int 0, .null, .null])), (q_1, .inl (cA_2, 64, .inl (upd (upd (upd f_14 61 306) 62 307) 63 308))), (q_15, .inl (cA_16, 64, .inl (upd (upd (upd f_28 61 4186) 62 4198) 63 4199))), (q_29, .inl (cA_30, 27, .inl (upd (upd f_35 25 88) 26 667))), (q_36, .inl (cA_37, 27, .inl (upd (upd (upd f_42 24 8283) 25 8292) 26 8293))), (q_43, .inl (cA_44, 13, .inl (upd f_46 9 4124)))] H := hP
  have hD : va_D A [(h0, .inr (14, [.ref q_1, .ref q_15, .ref q_29, .ref q_36, .null, .null, .int 0, .null, .null, .null, .long 0, .null, .int 0, .int 0, .int 0, .int 0, .int 0, .int 0, .int 0, .null, .null])), (q_1, .inl (cA_2, 64, .inl (upd (upd (upd f_14 61 306) 62 307) 63 308))), (q_15, .inl (cA_16, 64, .inl (upd (upd (upd f_28 61 4186) 62 4198) 63 4199))), (q_29, .inl (cA_30, 27, .inl (upd (upd f_35 25 88) 26 667))), (q_36, .inl (cA_37, 27, .inl (upd (upd (upd f_42 24 8283) 25 8292) 26 8293))), (q_43, .inl (cA_44, 13, .inl (upd f_46 9 4124)))] := hD
  refine lv_dup hx hb d_mLines_init_1325 rfl ?_
  refine lv_bipush (v := 10) hx hb d_mLines_init_1326 (by decide) ?_
  refine lv_sipush (v := 4125) hx hb d_mLines_init_1328 (by decide) ?_
  refine va_iast hx hb hK hP hD hS 5 4 rfl rfl (show ¬ ((10 : Int32) < 0 ∨ 13 ≤ (10 : Int32).toNatClampNeg) by decide) d_mLines_init_1331 (fun H locs hP hD hS => ?_)
  rw [show (10 : Int32).toNatClampNeg = 10 by decide] at hP hD
  have hP : va_P (dC, dI) vcl [(h0, .inr (14, [.ref q_1, .ref q_15, .ref q_29, .ref q_36, .null, .null, .int 0, .null, .null, .null, .long 0, .null, .int 0, .int 0, .int 0, .int 0, .int 0, .int 0, .int 0, .null, .null])), (q_1, .inl (cA_2, 64, .inl (upd (upd (upd f_14 61 306) 62 307) 63 308))), (q_15, .inl (cA_16, 64, .inl (upd (upd (upd f_28 61 4186) 62 4198) 63 4199))), (q_29, .inl (cA_30, 27, .inl (upd (upd f_35 25 88) 26 667))), (q_36, .inl (cA_37, 27, .inl (upd (upd (upd f_42 24 8283) 25 8292) 26 8293))), (q_43, .inl (cA_44, 13, .inl (upd (upd f_46 9 4124) 10 4125)))] H := hP
  have hD : va_D A [(h0, .inr (14, [.ref q_1, .ref q_15, .ref q_29, .ref q_36, .null, .null, .int 0, .null, .null, .null, .long 0, .null, .int 0, .int 0, .int 0, .int 0, .int 0, .int 0, .int 0, .null, .null])), (q_1, .inl (cA_2, 64, .inl (upd (upd (upd f_14 61 306) 62 307) 63 308))), (q_15, .inl (cA_16, 64, .inl (upd (upd (upd f_28 61 4186) 62 4198) 63 4199))), (q_29, .inl (cA_30, 27, .inl (upd (upd f_35 25 88) 26 667))), (q_36, .inl (cA_37, 27, .inl (upd (upd (upd f_42 24 8283) 25 8292) 26 8293))), (q_43, .inl (cA_44, 13, .inl (upd (upd f_46 9 4124) 10 4125)))] := hD
  refine lv_dup hx hb d_mLines_init_1332 rfl ?_
  refine lv_bipush (v := 11) hx hb d_mLines_init_1333 (by decide) ?_
  refine lv_sipush (v := 4126) hx hb d_mLines_init_1335 (by decide) ?_
  refine va_iast hx hb hK hP hD hS 5 4 rfl rfl (show ¬ ((11 : Int32) < 0 ∨ 13 ≤ (11 : Int32).toNatClampNeg) by decide) d_mLines_init_1338 (fun H locs hP hD hS => ?_)
  rw [show (11 : Int32).toNatClampNeg = 11 by decide] at hP hD
  have hP : va_P (dC, dI) vcl [(h0, .inr (14, [.ref q_1, .ref q_15, .ref q_29, .ref q_36, .null, .null, .int 0, .null, .null, .null, .long 0, .null, .int 0, .int 0, .int 0, .int 0, .int 0, .int 0, .int 0, .null, .null])), (q_1, .inl (cA_2, 64, .inl (upd (upd (upd f_14 61 306) 62 307) 63 308))), (q_15, .inl (cA_16, 64, .inl (upd (upd (upd f_28 61 4186) 62 4198) 63 4199))), (q_29, .inl (cA_30, 27, .inl (upd (upd f_35 25 88) 26 667))), (q_36, .inl (cA_37, 27, .inl (upd (upd (upd f_42 24 8283) 25 8292) 26 8293))), (q_43, .inl (cA_44, 13, .inl (upd (upd (upd f_46 9 4124) 10 4125) 11 4126)))] H := hP
  have hD : va_D A [(h0, .inr (14, [.ref q_1, .ref q_15, .ref q_29, .ref q_36, .null, .null, .int 0, .null, .null, .null, .long 0, .null, .int 0, .int 0, .int 0, .int 0, .int 0, .int 0, .int 0, .null, .null])), (q_1, .inl (cA_2, 64, .inl (upd (upd (upd f_14 61 306) 62 307) 63 308))), (q_15, .inl (cA_16, 64, .inl (upd (upd (upd f_28 61 4186) 62 4198) 63 4199))), (q_29, .inl (cA_30, 27, .inl (upd (upd f_35 25 88) 26 667))), (q_36, .inl (cA_37, 27, .inl (upd (upd (upd f_42 24 8283) 25 8292) 26 8293))), (q_43, .inl (cA_44, 13, .inl (upd (upd (upd f_46 9 4124) 10 4125) 11 4126)))] := hD
  refine lv_dup hx hb d_mLines_init_1339 rfl ?_
  refine lv_bipush (v := 12) hx hb d_mLines_init_1340 (by decide) ?_
  refine lv_sipush (v := 4127) hx hb d_mLines_init_1342 (by decide) ?_
  refine va_iast hx hb hK hP hD hS 5 4 rfl rfl (show ¬ ((12 : Int32) < 0 ∨ 13 ≤ (12 : Int32).toNatClampNeg) by decide) d_mLines_init_1345 (fun H locs hP hD hS => ?_)
  rw [show (12 : Int32).toNatClampNeg = 12 by decide] at hP hD
  have hP : va_P (dC, dI) vcl [(h0, .inr (14, [.ref q_1, .ref q_15, .ref q_29, .ref q_36, .null, .null, .int 0, .null, .null, .null, .long 0, .null, .int 0, .int 0, .int 0, .int 0, .int 0, .int 0, .int 0, .null, .null])), (q_1, .inl (cA_2, 64, .inl (upd (upd (upd f_14 61 306) 62 307) 63 308))), (q_15, .inl (cA_16, 64, .inl (upd (upd (upd f_28 61 4186) 62 4198) 63 4199))), (q_29, .inl (cA_30, 27, .inl (upd (upd f_35 25 88) 26 667))), (q_36, .inl (cA_37, 27, .inl (upd (upd (upd f_42 24 8283) 25 8292) 26 8293))), (q_43, .inl (cA_44, 13, .inl (upd (upd (upd (upd f_46 9 4124) 10 4125) 11 4126) 12 4127)))] H := hP
  have hD : va_D A [(h0, .inr (14, [.ref q_1, .ref q_15, .ref q_29, .ref q_36, .null, .null, .int 0, .null, .null, .null, .long 0, .null, .int 0, .int 0, .int 0, .int 0, .int 0, .int 0, .int 0, .null, .null])), (q_1, .inl (cA_2, 64, .inl (upd (upd (upd f_14 61 306) 62 307) 63 308))), (q_15, .inl (cA_16, 64, .inl (upd (upd (upd f_28 61 4186) 62 4198) 63 4199))), (q_29, .inl (cA_30, 27, .inl (upd (upd f_35 25 88) 26 667))), (q_36, .inl (cA_37, 27, .inl (upd (upd (upd f_42 24 8283) 25 8292) 26 8293))), (q_43, .inl (cA_44, 13, .inl (upd (upd (upd (upd f_46 9 4124) 10 4125) 11 4126) 12 4127)))] := hD
  refine va_putF (D := (dC, dI)) (ci := 14) (v := .ref q_43) (ty := (.array .int)) (C := R_mLines) (T := F_mLines) (N := 21) hx hb hwd i_mLines t_mLines to_mLines no_mLines hown hK hP hD hS 0 rfl rfl 4 (by decide) (hwd _ wd_10_87) (fun _ h9 => h9) rfl hin rfl (by decide +kernel) rfl rfl (Nat.le_of_ble_eq_true rfl) d_mLines_init_1346 (fun H locs hP hD hS => ?_)
  have hP : va_P (dC, dI) vcl [(h0, .inr (14, [.ref q_1, .ref q_15, .ref q_29, .ref q_36, .ref q_43, .null, .int 0, .null, .null, .null, .long 0, .null, .int 0, .int 0, .int 0, .int 0, .int 0, .int 0, .int 0, .null, .null])), (q_1, .inl (cA_2, 64, .inl (upd (upd (upd f_14 61 306) 62 307) 63 308))), (q_15, .inl (cA_16, 64, .inl (upd (upd (upd f_28 61 4186) 62 4198) 63 4199))), (q_29, .inl (cA_30, 27, .inl (upd (upd f_35 25 88) 26 667))), (q_36, .inl (cA_37, 27, .inl (upd (upd (upd f_42 24 8283) 25 8292) 26 8293))), (q_43, .inl (cA_44, 13, .inl (upd (upd (upd (upd f_46 9 4124) 10 4125) 11 4126) 12 4127)))] H := hP
  have hD : va_D A [(h0, .inr (14, [.ref q_1, .ref q_15, .ref q_29, .ref q_36, .ref q_43, .null, .int 0, .null, .null, .null, .long 0, .null, .int 0, .int 0, .int 0, .int 0, .int 0, .int 0, .int 0, .null, .null])), (q_1, .inl (cA_2, 64, .inl (upd (upd (upd f_14 61 306) 62 307) 63 308))), (q_15, .inl (cA_16, 64, .inl (upd (upd (upd f_28 61 4186) 62 4198) 63 4199))), (q_29, .inl (cA_30, 27, .inl (upd (upd f_35 25 88) 26 667))), (q_36, .inl (cA_37, 27, .inl (upd (upd (upd f_42 24 8283) 25 8292) 26 8293))), (q_43, .inl (cA_44, 13, .inl (upd (upd (upd (upd f_46 9 4124) 10 4125) 11 4126) 12 4127)))] := hD
  refine lv_aload_n hx hb d_mLines_init_1349 rfl (lv_at hl 0 rfl) ?_
  refine lv_bipush (v := 10) hx hb d_mLines_init_1350 (by decide) ?_
  refine va_newa (atype := .int) (N' := 10) (a0 := (10, .inl (fun _ => 0))) (ty := .int) (n := 10) hx hb (hwd _ wd_1_167) rfl hK hP hD hS hA (fun _ => rfl) (by decide) (by decide) (by decide) (Nat.le_of_ble_eq_true rfl) (Nat.le_of_ble_eq_true rfl) d_mLines_init_1352 (fun q_47 cA_48 H hK hP hD hS => ?_)
  have hP : va_P (dC, dI) vcl [(h0, .inr (14, [.ref q_1, .ref q_15, .ref q_29, .ref q_36, .ref q_43, .null, .int 0, .null, .null, .null, .long 0, .null, .int 0, .int 0, .int 0, .int 0, .int 0, .int 0, .int 0, .null, .null])), (q_1, .inl (cA_2, 64, .inl (upd (upd (upd f_14 61 306) 62 307) 63 308))), (q_15, .inl (cA_16, 64, .inl (upd (upd (upd f_28 61 4186) 62 4198) 63 4199))), (q_29, .inl (cA_30, 27, .inl (upd (upd f_35 25 88) 26 667))), (q_36, .inl (cA_37, 27, .inl (upd (upd (upd f_42 24 8283) 25 8292) 26 8293))), (q_43, .inl (cA_44, 13, .inl (upd (upd (upd (upd f_46 9 4124) 10 4125) 11 4126) 12 4127))), (q_47, .inl (cA_48, 10, .inl (fun _ => 0)))] H := hP
  have hD : va_D A [(h0, .inr (14, [.ref q_1, .ref q_15, .ref q_29, .ref q_36, .ref q_43, .null, .int 0, .null, .null, .null, .long 0, .null, .int 0, .int 0, .int 0, .int 0, .int 0, .int 0, .int 0, .null, .null])), (q_1, .inl (cA_2, 64, .inl (upd (upd (upd f_14 61 306) 62 307) 63 308))), (q_15, .inl (cA_16, 64, .inl (upd (upd (upd f_28 61 4186) 62 4198) 63 4199))), (q_29, .inl (cA_30, 27, .inl (upd (upd f_35 25 88) 26 667))), (q_36, .inl (cA_37, 27, .inl (upd (upd (upd f_42 24 8283) 25 8292) 26 8293))), (q_43, .inl (cA_44, 13, .inl (upd (upd (upd (upd f_46 9 4124) 10 4125) 11 4126) 12 4127))), (q_47, .inl (cA_48, 10, .inl (fun _ => 0)))] := hD
  have hK : va_K (dC, dI) vcl [(cA_2, .int), (cA_16, .int), (cA_30, .int), (cA_37, .int), (cA_44, .int), (cA_48, .int)] s := hK
  refine W.widen (k := 6) (n := 205) (by decide) (by decide) ?_
  refine lv_dup hx hb d_mLines_init_1354 rfl ?_
  refine lv_iconst (v := 0) hx hb d_mLines_init_1355 (by decide) ?_
  refine lv_bipush (v := 17) hx hb d_mLines_init_1356 (by decide) ?_
  refine va_iast hx hb hK hP hD hS 6 5 rfl rfl (show ¬ ((0 : Int32) < 0 ∨ 10 ≤ (0 : Int32).toNatClampNeg) by decide) d_mLines_init_1358 (fun H locs hP hD hS => ?_)
  rw [show (0 : Int32).toNatClampNeg = 0 by decide] at hP hD
  have hP : va_P (dC, dI) vcl [(h0, .inr (14, [.ref q_1, .ref q_15, .ref q_29, .ref q_36, .ref q_43, .null, .int 0, .null, .null, .null, .long 0, .null, .int 0, .int 0, .int 0, .int 0, .int 0, .int 0, .int 0, .null, .null])), (q_1, .inl (cA_2, 64, .inl (upd (upd (upd f_14 61 306) 62 307) 63 308))), (q_15, .inl (cA_16, 64, .inl (upd (upd (upd f_28 61 4186) 62 4198) 63 4199))), (q_29, .inl (cA_30, 27, .inl (upd (upd f_35 25 88) 26 667))), (q_36, .inl (cA_37, 27, .inl (upd (upd (upd f_42 24 8283) 25 8292) 26 8293))), (q_43, .inl (cA_44, 13, .inl (upd (upd (upd (upd f_46 9 4124) 10 4125) 11 4126) 12 4127))), (q_47, .inl (cA_48, 10, .inl (upd (fun _ => 0) 0 17)))] H := hP
  have hD : va_D A [(h0, .inr (14, [.ref q_1, .ref q_15, .ref q_29, .ref q_36, .ref q_43, .null, .int 0, .null, .null, .null, .long 0, .null, .int 0, .int 0, .int 0, .int 0, .int 0, .int 0, .int 0, .null, .null])), (q_1, .inl (cA_2, 64, .inl (upd (upd (upd f_14 61 306) 62 307) 63 308))), (q_15, .inl (cA_16, 64, .inl (upd (upd (upd f_28 61 4186) 62 4198) 63 4199))), (q_29, .inl (cA_30, 27, .inl (upd (upd f_35 25 88) 26 667))), (q_36, .inl (cA_37, 27, .inl (upd (upd (upd f_42 24 8283) 25 8292) 26 8293))), (q_43, .inl (cA_44, 13, .inl (upd (upd (upd (upd f_46 9 4124) 10 4125) 11 4126) 12 4127))), (q_47, .inl (cA_48, 10, .inl (upd (fun _ => 0) 0 17)))] := hD
  refine lv_dup hx hb d_mLines_init_1359 rfl ?_
  refine lv_iconst (v := 1) hx hb d_mLines_init_1360 (by decide) ?_
  refine lv_bipush (v := 9) hx hb d_mLines_init_1361 (by decide) ?_
  refine va_iast hx hb hK hP hD hS 6 5 rfl rfl (show ¬ ((1 : Int32) < 0 ∨ 10 ≤ (1 : Int32).toNatClampNeg) by decide) d_mLines_init_1363 (fun H locs hP hD hS => ?_)
  rw [show (1 : Int32).toNatClampNeg = 1 by decide] at hP hD
  have hP : va_P (dC, dI) vcl [(h0, .inr (14, [.ref q_1, .ref q_15, .ref q_29, .ref q_36, .ref q_43, .null, .int 0, .null, .null, .null, .long 0, .null, .int 0, .int 0, .int 0, .int 0, .int 0, .int 0, .int 0, .null, .null])), (q_1, .inl (cA_2, 64, .inl (upd (upd (upd f_14 61 306) 62 307) 63 308))), (q_15, .inl (cA_16, 64, .inl (upd (upd (upd f_28 61 4186) 62 4198) 63 4199))), (q_29, .inl (cA_30, 27, .inl (upd (upd f_35 25 88) 26 667))), (q_36, .inl (cA_37, 27, .inl (upd (upd (upd f_42 24 8283) 25 8292) 26 8293))), (q_43, .inl (cA_44, 13, .inl (upd (upd (upd (upd f_46 9 4124) 10 4125) 11 4126) 12 4127))), (q_47, .inl (cA_48, 10, .inl (upd (upd (fun _ => 0) 0 17) 1 9)))] H := hP
  have hD : va_D A [(h0, .inr (14, [.ref q_1, .ref q_15, .ref q_29, .ref q_36, .ref q_43, .null, .int 0, .null, .null, .null, .long 0, .null, .int 0, .int 0, .int 0, .int 0, .int 0, .int 0, .int 0, .null, .null])), (q_1, .inl (cA_2, 64, .inl (upd (upd (upd f_14 61 306) 62 307) 63 308))), (q_15, .inl (cA_16, 64, .inl (upd (upd (upd f_28 61 4186) 62 4198) 63 4199))), (q_29, .inl (cA_30, 27, .inl (upd (upd f_35 25 88) 26 667))), (q_36, .inl (cA_37, 27, .inl (upd (upd (upd f_42 24 8283) 25 8292) 26 8293))), (q_43, .inl (cA_44, 13, .inl (upd (upd (upd (upd f_46 9 4124) 10 4125) 11 4126) 12 4127))), (q_47, .inl (cA_48, 10, .inl (upd (upd (fun _ => 0) 0 17) 1 9)))] := hD
  refine lv_dup hx hb d_mLines_init_1364 rfl ?_
  refine lv_iconst (v := 2) hx hb d_mLines_init_1365 (by decide) ?_
  refine lv_sipush (v := 130) hx hb d_mLines_init_1366 (by decide) ?_
  refine va_iast hx hb hK hP hD hS 6 5 rfl rfl (show ¬ ((2 : Int32) < 0 ∨ 10 ≤ (2 : Int32).toNatClampNeg) by decide) d_mLines_init_1369 (fun H locs hP hD hS => ?_)
  rw [show (2 : Int32).toNatClampNeg = 2 by decide] at hP hD
  have hP : va_P (dC, dI) vcl [(h0, .inr (14, [.ref q_1, .ref q_15, .ref q_29, .ref q_36, .ref q_43, .null, .int 0, .null, .null, .null, .long 0, .null, .int 0, .int 0, .int 0, .int 0, .int 0, .int 0, .int 0, .null, .null])), (q_1, .inl (cA_2, 64, .inl (upd (upd (upd f_14 61 306) 62 307) 63 308))), (q_15, .inl (cA_16, 64, .inl (upd (upd (upd f_28 61 4186) 62 4198) 63 4199))), (q_29, .inl (cA_30, 27, .inl (upd (upd f_35 25 88) 26 667))), (q_36, .inl (cA_37, 27, .inl (upd (upd (upd f_42 24 8283) 25 8292) 26 8293))), (q_43, .inl (cA_44, 13, .inl (upd (upd (upd (upd f_46 9 4124) 10 4125) 11 4126) 12 4127))), (q_47, .inl (cA_48, 10, .inl (upd (upd (upd (fun _ => 0) 0 17) 1 9) 2 130)))] H := hP
  have hD : va_D A [(h0, .inr (14, [.ref q_1, .ref q_15, .ref q_29, .ref q_36, .ref q_43, .null, .int 0, .null, .null, .null, .long 0, .null, .int 0, .int 0, .int 0, .int 0, .int 0, .int 0, .int 0, .null, .null])), (q_1, .inl (cA_2, 64, .inl (upd (upd (upd f_14 61 306) 62 307) 63 308))), (q_15, .inl (cA_16, 64, .inl (upd (upd (upd f_28 61 4186) 62 4198) 63 4199))), (q_29, .inl (cA_30, 27, .inl (upd (upd f_35 25 88) 26 667))), (q_36, .inl (cA_37, 27, .inl (upd (upd (upd f_42 24 8283) 25 8292) 26 8293))), (q_43, .inl (cA_44, 13, .inl (upd (upd (upd (upd f_46 9 4124) 10 4125) 11 4126) 12 4127))), (q_47, .inl (cA_48, 10, .inl (upd (upd (upd (fun _ => 0) 0 17) 1 9) 2 130)))] := hD
  refine lv_dup hx hb d_mLines_init_1370 rfl ?_
  refine lv_iconst (v := 3) hx hb d_mLines_init_1371 (by decide) ?_
  refine lv_bipush (v := 66) hx hb d_mLines_init_1372 (by decide) ?_
  refine va_iast hx hb hK hP hD hS 6 5 rfl rfl (show ¬ ((3 : Int32) < 0 ∨ 10 ≤ (3 : Int32).toNatClampNeg) by decide) d_mLines_init_1374 (fun H locs hP hD hS => ?_)
  rw [show (3 : Int32).toNatClampNeg = 3 by decide] at hP hD
  have hP : va_P (dC, dI) vcl [(h0, .inr (14, [.ref q_1, .ref q_15, .ref q_29, .ref q_36, .ref q_43, .null, .int 0, .null, .null, .null, .long 0, .null, .int 0, .int 0, .int 0, .int 0, .int 0, .int 0, .int 0, .null, .null])), (q_1, .inl (cA_2, 64, .inl (upd (upd (upd f_14 61 306) 62 307) 63 308))), (q_15, .inl (cA_16, 64, .inl (upd (upd (upd f_28 61 4186) 62 4198) 63 4199))), (q_29, .inl (cA_30, 27, .inl (upd (upd f_35 25 88) 26 667))), (q_36, .inl (cA_37, 27, .inl (upd (upd (upd f_42 24 8283) 25 8292) 26 8293))), (q_43, .inl (cA_44, 13, .inl (upd (upd (upd (upd f_46 9 4124) 10 4125) 11 4126) 12 4127))), (q_47, .inl (cA_48, 10, .inl (upd (upd (upd (upd (fun _ => 0) 0 17) 1 9) 2 130) 3 66)))] H := hP
  have hD : va_D A [(h0, .inr (14, [.ref q_1, .ref q_15, .ref q_29, .ref q_36, .ref q_43, .null, .int 0, .null, .null, .null, .long 0, .null, .int 0, .int 0, .int 0, .int 0, .int 0, .int 0, .int 0, .null, .null])), (q_1, .inl (cA_2, 64, .inl (upd (upd (upd f_14 61 306) 62 307) 63 308))), (q_15, .inl (cA_16, 64, .inl (upd (upd (upd f_28 61 4186) 62 4198) 63 4199))), (q_29, .inl (cA_30, 27, .inl (upd (upd f_35 25 88) 26 667))), (q_36, .inl (cA_37, 27, .inl (upd (upd (upd f_42 24 8283) 25 8292) 26 8293))), (q_43, .inl (cA_44, 13, .inl (upd (upd (upd (upd f_46 9 4124) 10 4125) 11 4126) 12 4127))), (q_47, .inl (cA_48, 10, .inl (upd (upd (upd (upd (fun _ => 0) 0 17) 1 9) 2 130) 3 66)))] := hD
  refine lv_dup hx hb d_mLines_init_1375 rfl ?_
  refine lv_iconst (v := 4) hx hb d_mLines_init_1376 (by decide) ?_
  refine lv_bipush (v := 10) hx hb d_mLines_init_1377 (by decide) ?_
  refine va_iast hx hb hK hP hD hS 6 5 rfl rfl (show ¬ ((4 : Int32) < 0 ∨ 10 ≤ (4 : Int32).toNatClampNeg) by decide) d_mLines_init_1379 (fun H locs hP hD hS => ?_)
  rw [show (4 : Int32).toNatClampNeg = 4 by decide] at hP hD
  obtain ⟨f_49, ef_49⟩ : ∃ y : Nat → Int32, y = upd (upd (upd (upd (upd (fun _ => 0) 0 17) 1 9) 2 130) 3 66) 4 10 := ⟨_, rfl⟩
  have hP : va_P (dC, dI) vcl [(h0, .inr (14, [.ref q_1, .ref q_15, .ref q_29, .ref q_36, .ref q_43, .null, .int 0, .null, .null, .null, .long 0, .null, .int 0, .int 0, .int 0, .int 0, .int 0, .int 0, .int 0, .null, .null])), (q_1, .inl (cA_2, 64, .inl (upd (upd (upd f_14 61 306) 62 307) 63 308))), (q_15, .inl (cA_16, 64, .inl (upd (upd (upd f_28 61 4186) 62 4198) 63 4199))), (q_29, .inl (cA_30, 27, .inl (upd (upd f_35 25 88) 26 667))), (q_36, .inl (cA_37, 27, .inl (upd (upd (upd f_42 24 8283) 25 8292) 26 8293))), (q_43, .inl (cA_44, 13, .inl (upd (upd (upd (upd f_46 9 4124) 10 4125) 11 4126) 12 4127))), (q_47, .inl (cA_48, 10, .inl (upd (upd (upd (upd (upd (fun _ => 0) 0 17) 1 9) 2 130) 3 66) 4 10)))] H := hP
  have hD : va_D A [(h0, .inr (14, [.ref q_1, .ref q_15, .ref q_29, .ref q_36, .ref q_43, .null, .int 0, .null, .null, .null, .long 0, .null, .int 0, .int 0, .int 0, .int 0, .int 0, .int 0, .int 0, .null, .null])), (q_1, .inl (cA_2, 64, .inl (upd (upd (upd f_14 61 306) 62 307) 63 308))), (q_15, .inl (cA_16, 64, .inl (upd (upd (upd f_28 61 4186) 62 4198) 63 4199))), (q_29, .inl (cA_30, 27, .inl (upd (upd f_35 25 88) 26 667))), (q_36, .inl (cA_37, 27, .inl (upd (upd (upd f_42 24 8283) 25 8292) 26 8293))), (q_43, .inl (cA_44, 13, .inl (upd (upd (upd (upd f_46 9 4124) 10 4125) 11 4126) 12 4127))), (q_47, .inl (cA_48, 10, .inl (upd (upd (upd (upd (upd (fun _ => 0) 0 17) 1 9) 2 130) 3 66) 4 10)))] := hD
  rw [← ef_49] at hP hD
  have hP : va_P (dC, dI) vcl [(h0, .inr (14, [.ref q_1, .ref q_15, .ref q_29, .ref q_36, .ref q_43, .null, .int 0, .null, .null, .null, .long 0, .null, .int 0, .int 0, .int 0, .int 0, .int 0, .int 0, .int 0, .null, .null])), (q_1, .inl (cA_2, 64, .inl (upd (upd (upd f_14 61 306) 62 307) 63 308))), (q_15, .inl (cA_16, 64, .inl (upd (upd (upd f_28 61 4186) 62 4198) 63 4199))), (q_29, .inl (cA_30, 27, .inl (upd (upd f_35 25 88) 26 667))), (q_36, .inl (cA_37, 27, .inl (upd (upd (upd f_42 24 8283) 25 8292) 26 8293))), (q_43, .inl (cA_44, 13, .inl (upd (upd (upd (upd f_46 9 4124) 10 4125) 11 4126) 12 4127))), (q_47, .inl (cA_48, 10, .inl f_49))] H := hP
  have hD : va_D A [(h0, .inr (14, [.ref q_1, .ref q_15, .ref q_29, .ref q_36, .ref q_43, .null, .int 0, .null, .null, .null, .long 0, .null, .int 0, .int 0, .int 0, .int 0, .int 0, .int 0, .int 0, .null, .null])), (q_1, .inl (cA_2, 64, .inl (upd (upd (upd f_14 61 306) 62 307) 63 308))), (q_15, .inl (cA_16, 64, .inl (upd (upd (upd f_28 61 4186) 62 4198) 63 4199))), (q_29, .inl (cA_30, 27, .inl (upd (upd f_35 25 88) 26 667))), (q_36, .inl (cA_37, 27, .inl (upd (upd (upd f_42 24 8283) 25 8292) 26 8293))), (q_43, .inl (cA_44, 13, .inl (upd (upd (upd (upd f_46 9 4124) 10 4125) 11 4126) 12 4127))), (q_47, .inl (cA_48, 10, .inl f_49))] := hD
  refine lv_dup hx hb d_mLines_init_1380 rfl ?_
  refine lv_iconst (v := 5) hx hb d_mLines_init_1381 (by decide) ?_
  refine lv_iconst (v := 3) hx hb d_mLines_init_1382 (by decide) ?_
  refine va_iast hx hb hK hP hD hS 6 5 rfl rfl (show ¬ ((5 : Int32) < 0 ∨ 10 ≤ (5 : Int32).toNatClampNeg) by decide) d_mLines_init_1383 (fun H locs hP hD hS => ?_)
  rw [show (5 : Int32).toNatClampNeg = 5 by decide] at hP hD
  have hP : va_P (dC, dI) vcl [(h0, .inr (14, [.ref q_1, .ref q_15, .ref q_29, .ref q_36, .ref q_43, .null, .int 0, .null, .null, .null, .long 0, .null, .int 0, .int 0, .int 0, .int 0, .int 0, .int 0, .int 0, .null, .null])), (q_1, .inl (cA_2, 64, .inl (upd (upd (upd f_14 61 306) 62 307) 63 308))), (q_15, .inl (cA_16, 64, .inl (upd (upd (upd f_28 61 4186) 62 4198) 63 4199))), (q_29, .inl (cA_30, 27, .inl (upd (upd f_35 25 88) 26 667))), (q_36, .inl (cA_37, 27, .inl (upd (upd (upd f_42 24 8283) 25 8292) 26 8293))), (q_43, .inl (cA_44, 13, .inl (upd (upd (upd (upd f_46 9 4124) 10 4125) 11 4126) 12 4127))), (q_47, .inl (cA_48, 10, .inl (upd f_49 5 3)))] H := hP
  have hD : va_D A [(h0, .inr (14, [.ref q_1, .ref q_15, .ref q_29, .ref q_36, .ref q_43, .null, .int 0, .null, .null, .null, .long 0, .null, .int 0, .int 0, .int 0, .int 0, .int 0, .int 0, .int 0, .null, .null])), (q_1, .inl (cA_2, 64, .inl (upd (upd (upd f_14 61 306) 62 307) 63 308))), (q_15, .inl (cA_16, 64, .inl (upd (upd (upd f_28 61 4186) 62 4198) 63 4199))), (q_29, .inl (cA_30, 27, .inl (upd (upd f_35 25 88) 26 667))), (q_36, .inl (cA_37, 27, .inl (upd (upd (upd f_42 24 8283) 25 8292) 26 8293))), (q_43, .inl (cA_44, 13, .inl (upd (upd (upd (upd f_46 9 4124) 10 4125) 11 4126) 12 4127))), (q_47, .inl (cA_48, 10, .inl (upd f_49 5 3)))] := hD
  refine lv_dup hx hb d_mLines_init_1384 rfl ?_
  refine lv_bipush (v := 6) hx hb d_mLines_init_1385 (by decide) ?_
  refine lv_bipush (v := 11) hx hb d_mLines_init_1387 (by decide) ?_
  refine va_iast hx hb hK hP hD hS 6 5 rfl rfl (show ¬ ((6 : Int32) < 0 ∨ 10 ≤ (6 : Int32).toNatClampNeg) by decide) d_mLines_init_1389 (fun H locs hP hD hS => ?_)
  rw [show (6 : Int32).toNatClampNeg = 6 by decide] at hP hD
  have hP : va_P (dC, dI) vcl [(h0, .inr (14, [.ref q_1, .ref q_15, .ref q_29, .ref q_36, .ref q_43, .null, .int 0, .null, .null, .null, .long 0, .null, .int 0, .int 0, .int 0, .int 0, .int 0, .int 0, .int 0, .null, .null])), (q_1, .inl (cA_2, 64, .inl (upd (upd (upd f_14 61 306) 62 307) 63 308))), (q_15, .inl (cA_16, 64, .inl (upd (upd (upd f_28 61 4186) 62 4198) 63 4199))), (q_29, .inl (cA_30, 27, .inl (upd (upd f_35 25 88) 26 667))), (q_36, .inl (cA_37, 27, .inl (upd (upd (upd f_42 24 8283) 25 8292) 26 8293))), (q_43, .inl (cA_44, 13, .inl (upd (upd (upd (upd f_46 9 4124) 10 4125) 11 4126) 12 4127))), (q_47, .inl (cA_48, 10, .inl (upd (upd f_49 5 3) 6 11)))] H := hP
  have hD : va_D A [(h0, .inr (14, [.ref q_1, .ref q_15, .ref q_29, .ref q_36, .ref q_43, .null, .int 0, .null, .null, .null, .long 0, .null, .int 0, .int 0, .int 0, .int 0, .int 0, .int 0, .int 0, .null, .null])), (q_1, .inl (cA_2, 64, .inl (upd (upd (upd f_14 61 306) 62 307) 63 308))), (q_15, .inl (cA_16, 64, .inl (upd (upd (upd f_28 61 4186) 62 4198) 63 4199))), (q_29, .inl (cA_30, 27, .inl (upd (upd f_35 25 88) 26 667))), (q_36, .inl (cA_37, 27, .inl (upd (upd (upd f_42 24 8283) 25 8292) 26 8293))), (q_43, .inl (cA_44, 13, .inl (upd (upd (upd (upd f_46 9 4124) 10 4125) 11 4126) 12 4127))), (q_47, .inl (cA_48, 10, .inl (upd (upd f_49 5 3) 6 11)))] := hD
  refine lv_dup hx hb d_mLines_init_1390 rfl ?_
  refine lv_bipush (v := 7) hx hb d_mLines_init_1391 (by decide) ?_
  refine lv_bipush (v := 67) hx hb d_mLines_init_1393 (by decide) ?_
  refine va_iast hx hb hK hP hD hS 6 5 rfl rfl (show ¬ ((7 : Int32) < 0 ∨ 10 ≤ (7 : Int32).toNatClampNeg) by decide) d_mLines_init_1395 (fun H locs hP hD hS => ?_)
  rw [show (7 : Int32).toNatClampNeg = 7 by decide] at hP hD
  have hP : va_P (dC, dI) vcl [(h0, .inr (14, [.ref q_1, .ref q_15, .ref q_29, .ref q_36, .ref q_43, .null, .int 0, .null, .null, .null, .long 0, .null, .int 0, .int 0, .int 0, .int 0, .int 0, .int 0, .int 0, .null, .null])), (q_1, .inl (cA_2, 64, .inl (upd (upd (upd f_14 61 306) 62 307) 63 308))), (q_15, .inl (cA_16, 64, .inl (upd (upd (upd f_28 61 4186) 62 4198) 63 4199))), (q_29, .inl (cA_30, 27, .inl (upd (upd f_35 25 88) 26 667))), (q_36, .inl (cA_37, 27, .inl (upd (upd (upd f_42 24 8283) 25 8292) 26 8293))), (q_43, .inl (cA_44, 13, .inl (upd (upd (upd (upd f_46 9 4124) 10 4125) 11 4126) 12 4127))), (q_47, .inl (cA_48, 10, .inl (upd (upd (upd f_49 5 3) 6 11) 7 67)))] H := hP
  have hD : va_D A [(h0, .inr (14, [.ref q_1, .ref q_15, .ref q_29, .ref q_36, .ref q_43, .null, .int 0, .null, .null, .null, .long 0, .null, .int 0, .int 0, .int 0, .int 0, .int 0, .int 0, .int 0, .null, .null])), (q_1, .inl (cA_2, 64, .inl (upd (upd (upd f_14 61 306) 62 307) 63 308))), (q_15, .inl (cA_16, 64, .inl (upd (upd (upd f_28 61 4186) 62 4198) 63 4199))), (q_29, .inl (cA_30, 27, .inl (upd (upd f_35 25 88) 26 667))), (q_36, .inl (cA_37, 27, .inl (upd (upd (upd f_42 24 8283) 25 8292) 26 8293))), (q_43, .inl (cA_44, 13, .inl (upd (upd (upd (upd f_46 9 4124) 10 4125) 11 4126) 12 4127))), (q_47, .inl (cA_48, 10, .inl (upd (upd (upd f_49 5 3) 6 11) 7 67)))] := hD
  refine lv_dup hx hb d_mLines_init_1396 rfl ?_
  refine lv_bipush (v := 8) hx hb d_mLines_init_1397 (by decide) ?_
  refine lv_sipush (v := 131) hx hb d_mLines_init_1399 (by decide) ?_
  refine va_iast hx hb hK hP hD hS 6 5 rfl rfl (show ¬ ((8 : Int32) < 0 ∨ 10 ≤ (8 : Int32).toNatClampNeg) by decide) d_mLines_init_1402 (fun H locs hP hD hS => ?_)
  rw [show (8 : Int32).toNatClampNeg = 8 by decide] at hP hD
  have hP : va_P (dC, dI) vcl [(h0, .inr (14, [.ref q_1, .ref q_15, .ref q_29, .ref q_36, .ref q_43, .null, .int 0, .null, .null, .null, .long 0, .null, .int 0, .int 0, .int 0, .int 0, .int 0, .int 0, .int 0, .null, .null])), (q_1, .inl (cA_2, 64, .inl (upd (upd (upd f_14 61 306) 62 307) 63 308))), (q_15, .inl (cA_16, 64, .inl (upd (upd (upd f_28 61 4186) 62 4198) 63 4199))), (q_29, .inl (cA_30, 27, .inl (upd (upd f_35 25 88) 26 667))), (q_36, .inl (cA_37, 27, .inl (upd (upd (upd f_42 24 8283) 25 8292) 26 8293))), (q_43, .inl (cA_44, 13, .inl (upd (upd (upd (upd f_46 9 4124) 10 4125) 11 4126) 12 4127))), (q_47, .inl (cA_48, 10, .inl (upd (upd (upd (upd f_49 5 3) 6 11) 7 67) 8 131)))] H := hP
  have hD : va_D A [(h0, .inr (14, [.ref q_1, .ref q_15, .ref q_29, .ref q_36, .ref q_43, .null, .int 0, .null, .null, .null, .long 0, .null, .int 0, .int 0, .int 0, .int 0, .int 0, .int 0, .int 0, .null, .null])), (q_1, .inl (cA_2, 64, .inl (upd (upd (upd f_14 61 306) 62 307) 63 308))), (q_15, .inl (cA_16, 64, .inl (upd (upd (upd f_28 61 4186) 62 4198) 63 4199))), (q_29, .inl (cA_30, 27, .inl (upd (upd f_35 25 88) 26 667))), (q_36, .inl (cA_37, 27, .inl (upd (upd (upd f_42 24 8283) 25 8292) 26 8293))), (q_43, .inl (cA_44, 13, .inl (upd (upd (upd (upd f_46 9 4124) 10 4125) 11 4126) 12 4127))), (q_47, .inl (cA_48, 10, .inl (upd (upd (upd (upd f_49 5 3) 6 11) 7 67) 8 131)))] := hD
  refine lv_dup hx hb d_mLines_init_1403 rfl ?_
  refine lv_bipush (v := 9) hx hb d_mLines_init_1404 (by decide) ?_
  refine lv_sipush (v := 4097) hx hb d_mLines_init_1406 (by decide) ?_
  refine va_iast hx hb hK hP hD hS 6 5 rfl rfl (show ¬ ((9 : Int32) < 0 ∨ 10 ≤ (9 : Int32).toNatClampNeg) by decide) d_mLines_init_1409 (fun H locs hP hD hS => ?_)
  rw [show (9 : Int32).toNatClampNeg = 9 by decide] at hP hD
  have hP : va_P (dC, dI) vcl [(h0, .inr (14, [.ref q_1, .ref q_15, .ref q_29, .ref q_36, .ref q_43, .null, .int 0, .null, .null, .null, .long 0, .null, .int 0, .int 0, .int 0, .int 0, .int 0, .int 0, .int 0, .null, .null])), (q_1, .inl (cA_2, 64, .inl (upd (upd (upd f_14 61 306) 62 307) 63 308))), (q_15, .inl (cA_16, 64, .inl (upd (upd (upd f_28 61 4186) 62 4198) 63 4199))), (q_29, .inl (cA_30, 27, .inl (upd (upd f_35 25 88) 26 667))), (q_36, .inl (cA_37, 27, .inl (upd (upd (upd f_42 24 8283) 25 8292) 26 8293))), (q_43, .inl (cA_44, 13, .inl (upd (upd (upd (upd f_46 9 4124) 10 4125) 11 4126) 12 4127))), (q_47, .inl (cA_48, 10, .inl (upd (upd (upd (upd (upd f_49 5 3) 6 11) 7 67) 8 131) 9 4097)))] H := hP
  have hD : va_D A [(h0, .inr (14, [.ref q_1, .ref q_15, .ref q_29, .ref q_36, .ref q_43, .null, .int 0, .null, .null, .null, .long 0, .null, .int 0, .int 0, .int 0, .int 0, .int 0, .int 0, .int 0, .null, .null])), (q_1, .inl (cA_2, 64, .inl (upd (upd (upd f_14 61 306) 62 307) 63 308))), (q_15, .inl (cA_16, 64, .inl (upd (upd (upd f_28 61 4186) 62 4198) 63 4199))), (q_29, .inl (cA_30, 27, .inl (upd (upd f_35 25 88) 26 667))), (q_36, .inl (cA_37, 27, .inl (upd (upd (upd f_42 24 8283) 25 8292) 26 8293))), (q_43, .inl (cA_44, 13, .inl (upd (upd (upd (upd f_46 9 4124) 10 4125) 11 4126) 12 4127))), (q_47, .inl (cA_48, 10, .inl (upd (upd (upd (upd (upd f_49 5 3) 6 11) 7 67) 8 131) 9 4097)))] := hD
  refine va_putF (D := (dC, dI)) (ci := 14) (v := .ref q_47) (ty := (.array .int)) (C := R_mLines) (T := F_mLines) (N := 21) hx hb hwd i_mLines t_mLines to_mLines no_mLines hown hK hP hD hS 0 rfl rfl 5 (by decide) (hwd _ wd_10_88) (fun _ h9 => h9) rfl hin rfl (by decide +kernel) rfl rfl (Nat.le_of_ble_eq_true rfl) d_mLines_init_1410 (fun H locs hP hD hS => ?_)
  have hP : va_P (dC, dI) vcl [(h0, .inr (14, [.ref q_1, .ref q_15, .ref q_29, .ref q_36, .ref q_43, .ref q_47, .int 0, .null, .null, .null, .long 0, .null, .int 0, .int 0, .int 0, .int 0, .int 0, .int 0, .int 0, .null, .null])), (q_1, .inl (cA_2, 64, .inl (upd (upd (upd f_14 61 306) 62 307) 63 308))), (q_15, .inl (cA_16, 64, .inl (upd (upd (upd f_28 61 4186) 62 4198) 63 4199))), (q_29, .inl (cA_30, 27, .inl (upd (upd f_35 25 88) 26 667))), (q_36, .inl (cA_37, 27, .inl (upd (upd (upd f_42 24 8283) 25 8292) 26 8293))), (q_43, .inl (cA_44, 13, .inl (upd (upd (upd (upd f_46 9 4124) 10 4125) 11 4126) 12 4127))), (q_47, .inl (cA_48, 10, .inl (upd (upd (upd (upd (upd f_49 5 3) 6 11) 7 67) 8 131) 9 4097)))] H := hP
  have hD : va_D A [(h0, .inr (14, [.ref q_1, .ref q_15, .ref q_29, .ref q_36, .ref q_43, .ref q_47, .int 0, .null, .null, .null, .long 0, .null, .int 0, .int 0, .int 0, .int 0, .int 0, .int 0, .int 0, .null, .null])), (q_1, .inl (cA_2, 64, .inl (upd (upd (upd f_14 61 306) 62 307) 63 308))), (q_15, .inl (cA_16, 64, .inl (upd (upd (upd f_28 61 4186) 62 4198) 63 4199))), (q_29, .inl (cA_30, 27, .inl (upd (upd f_35 25 88) 26 667))), (q_36, .inl (cA_37, 27, .inl (upd (upd (upd f_42 24 8283) 25 8292) 26 8293))), (q_43, .inl (cA_44, 13, .inl (upd (upd (upd (upd f_46 9 4124) 10 4125) 11 4126) 12 4127))), (q_47, .inl (cA_48, 10, .inl (upd (upd (upd (upd (upd f_49 5 3) 6 11) 7 67) 8 131) 9 4097)))] := hD
  refine lv_aload_n hx hb d_mLines_init_1413 rfl (lv_at hl 0 rfl) ?_
  refine lv_sipush (v := 10000) hx hb d_mLines_init_1414 (by decide) ?_
  refine va_newa (atype := .boolean) (N' := 10000) (a0 := (10000, .inl (fun _ => 0))) (ty := .boolean) (n := 10000) hx hb (hwd _ wd_2_150) rfl hK hP hD hS hA (fun _ => rfl) (by decide) (by decide) (by decide) (Nat.le_of_ble_eq_true rfl) (Nat.le_of_ble_eq_true rfl) d_mLines_init_1417 (fun q_50 cA_51 H hK hP hD hS => ?_)
  have hP : va_P (dC, dI) vcl [(h0, .inr (14, [.ref q_1, .ref q_15, .ref q_29, .ref q_36, .ref q_43, .ref q_47, .int 0, .null, .null, .null, .long 0, .null, .int 0, .int 0, .int 0, .int 0, .int 0, .int 0, .int 0, .null, .null])), (q_1, .inl (cA_2, 64, .inl (upd (upd (upd f_14 61 306) 62 307) 63 308))), (q_15, .inl (cA_16, 64, .inl (upd (upd (upd f_28 61 4186) 62 4198) 63 4199))), (q_29, .inl (cA_30, 27, .inl (upd (upd f_35 25 88) 26 667))), (q_36, .inl (cA_37, 27, .inl (upd (upd (upd f_42 24 8283) 25 8292) 26 8293))), (q_43, .inl (cA_44, 13, .inl (upd (upd (upd (upd f_46 9 4124) 10 4125) 11 4126) 12 4127))), (q_47, .inl (cA_48, 10, .inl (upd (upd (upd (upd (upd f_49 5 3) 6 11) 7 67) 8 131) 9 4097))), (q_50, .inl (cA_51, 10000, .inl (fun _ => 0)))] H := hP
  have hD : va_D A [(h0, .inr (14, [.ref q_1, .ref q_15, .ref q_29, .ref q_36, .ref q_43, .ref q_47, .int 0, .null, .null, .null, .long 0, .null, .int 0, .int 0, .int 0, .int 0, .int 0, .int 0, .int 0, .null, .null])), (q_1, .inl (cA_2, 64, .inl (upd (upd (upd f_14 61 306) 62 307) 63 308))), (q_15, .inl (cA_16, 64, .inl (upd (upd (upd f_28 61 4186) 62 4198) 63 4199))), (q_29, .inl (cA_30, 27, .inl (upd (upd f_35 25 88) 26 667))), (q_36, .inl (cA_37, 27, .inl (upd (upd (upd f_42 24 8283) 25 8292) 26 8293))), (q_43, .inl (cA_44, 13, .inl (upd (upd (upd (upd f_46 9 4124) 10 4125) 11 4126) 12 4127))), (q_47, .inl (cA_48, 10, .inl (upd (upd (upd (upd (upd f_49 5 3) 6 11) 7 67) 8 131) 9 4097))), (q_50, .inl (cA_51, 10000, .inl (fun _ => 0)))] := hD
  have hK : va_K (dC, dI) vcl [(cA_2, .int), (cA_16, .int), (cA_30, .int), (cA_37, .int), (cA_44, .int), (cA_48, .int), (cA_51, .boolean)] s := hK
  refine W.widen (k := 7) (n := 10205) (by decide) (by decide) ?_
  refine va_putF (D := (dC, dI)) (ci := 14) (v := .ref q_50) (ty := (.array .boolean)) (C := R_mLines) (T := F_mLines) (N := 21) hx hb hwd i_mLines t_mLines to_mLines no_mLines hown hK hP hD hS 0 rfl rfl 7 (by decide) (hwd _ wd_10_90) (fun _ h9 => h9) rfl hin rfl (by decide +kernel) rfl rfl (Nat.le_of_ble_eq_true rfl) d_mLines_init_1419 (fun H locs hP hD hS => ?_)
  have hP : va_P (dC, dI) vcl [(h0, .inr (14, [.ref q_1, .ref q_15, .ref q_29, .ref q_36, .ref q_43, .ref q_47, .int 0, .ref q_50, .null, .null, .long 0, .null, .int 0, .int 0, .int 0, .int 0, .int 0, .int 0, .int 0, .null, .null])), (q_1, .inl (cA_2, 64, .inl (upd (upd (upd f_14 61 306) 62 307) 63 308))), (q_15, .inl (cA_16, 64, .inl (upd (upd (upd f_28 61 4186) 62 4198) 63 4199))), (q_29, .inl (cA_30, 27, .inl (upd (upd f_35 25 88) 26 667))), (q_36, .inl (cA_37, 27, .inl (upd (upd (upd f_42 24 8283) 25 8292) 26 8293))), (q_43, .inl (cA_44, 13, .inl (upd (upd (upd (upd f_46 9 4124) 10 4125) 11 4126) 12 4127))), (q_47, .inl (cA_48, 10, .inl (upd (upd (upd (upd (upd f_49 5 3) 6 11) 7 67) 8 131) 9 4097))), (q_50, .inl (cA_51, 10000, .inl (fun _ => 0)))] H := hP
  have hD : va_D A [(h0, .inr (14, [.ref q_1, .ref q_15, .ref q_29, .ref q_36, .ref q_43, .ref q_47, .int 0, .ref q_50, .null, .null, .long 0, .null, .int 0, .int 0, .int 0, .int 0, .int 0, .int 0, .int 0, .null, .null])), (q_1, .inl (cA_2, 64, .inl (upd (upd (upd f_14 61 306) 62 307) 63 308))), (q_15, .inl (cA_16, 64, .inl (upd (upd (upd f_28 61 4186) 62 4198) 63 4199))), (q_29, .inl (cA_30, 27, .inl (upd (upd f_35 25 88) 26 667))), (q_36, .inl (cA_37, 27, .inl (upd (upd (upd f_42 24 8283) 25 8292) 26 8293))), (q_43, .inl (cA_44, 13, .inl (upd (upd (upd (upd f_46 9 4124) 10 4125) 11 4126) 12 4127))), (q_47, .inl (cA_48, 10, .inl (upd (upd (upd (upd (upd f_49 5 3) 6 11) 7 67) 8 131) 9 4097))), (q_50, .inl (cA_51, 10000, .inl (fun _ => 0)))] := hD
  refine lv_aload_n hx hb d_mLines_init_1422 rfl (lv_at hl 0 rfl) ?_
  refine lv_sipush (v := 10000) hx hb d_mLines_init_1423 (by decide) ?_
  refine va_newa (atype := .boolean) (N' := 10000) (a0 := (10000, .inl (fun _ => 0))) (ty := .boolean) (n := 10000) hx hb (hwd _ wd_2_150) rfl hK hP hD hS hA (fun _ => rfl) (by decide) (by decide) (by decide) (Nat.le_of_ble_eq_true rfl) (Nat.le_of_ble_eq_true rfl) d_mLines_init_1426 (fun q_52 cA_53 H hK hP hD hS => ?_)
  have hP : va_P (dC, dI) vcl [(h0, .inr (14, [.ref q_1, .ref q_15, .ref q_29, .ref q_36, .ref q_43, .ref q_47, .int 0, .ref q_50, .null, .null, .long 0, .null, .int 0, .int 0, .int 0, .int 0, .int 0, .int 0, .int 0, .null, .null])), (q_1, .inl (cA_2, 64, .inl (upd (upd (upd f_14 61 306) 62 307) 63 308))), (q_15, .inl (cA_16, 64, .inl (upd (upd (upd f_28 61 4186) 62 4198) 63 4199))), (q_29, .inl (cA_30, 27, .inl (upd (upd f_35 25 88) 26 667))), (q_36, .inl (cA_37, 27, .inl (upd (upd (upd f_42 24 8283) 25 8292) 26 8293))), (q_43, .inl (cA_44, 13, .inl (upd (upd (upd (upd f_46 9 4124) 10 4125) 11 4126) 12 4127))), (q_47, .inl (cA_48, 10, .inl (upd (upd (upd (upd (upd f_49 5 3) 6 11) 7 67) 8 131) 9 4097))), (q_50, .inl (cA_51, 10000, .inl (fun _ => 0))), (q_52, .inl (cA_53, 10000, .inl (fun _ => 0)))] H := hP
  have hD : va_D A [(h0, .inr (14, [.ref q_1, .ref q_15, .ref q_29, .ref q_36, .ref q_43, .ref q_47, .int 0, .ref q_50, .null, .null, .long 0, .null, .int 0, .int 0, .int 0, .int 0, .int 0, .int 0, .int 0, .null, .null])), (q_1, .inl (cA_2, 64, .inl (upd (upd (upd f_14 61 306) 62 307) 63 308))), (q_15, .inl (cA_16, 64, .inl (upd (upd (upd f_28 61 4186) 62 4198) 63 4199))), (q_29, .inl (cA_30, 27, .inl (upd (upd f_35 25 88) 26 667))), (q_36, .inl (cA_37, 27, .inl (upd (upd (upd f_42 24 8283) 25 8292) 26 8293))), (q_43, .inl (cA_44, 13, .inl (upd (upd (upd (upd f_46 9 4124) 10 4125) 11 4126) 12 4127))), (q_47, .inl (cA_48, 10, .inl (upd (upd (upd (upd (upd f_49 5 3) 6 11) 7 67) 8 131) 9 4097))), (q_50, .inl (cA_51, 10000, .inl (fun _ => 0))), (q_52, .inl (cA_53, 10000, .inl (fun _ => 0)))] := hD
  have hK : va_K (dC, dI) vcl [(cA_2, .int), (cA_16, .int), (cA_30, .int), (cA_37, .int), (cA_44, .int), (cA_48, .int), (cA_51, .boolean), (cA_53, .boolean)] s := hK
  refine W.widen (k := 8) (n := 20205) (by decide) (by decide) ?_
  refine va_putF (D := (dC, dI)) (ci := 14) (v := .ref q_52) (ty := (.array .boolean)) (C := R_mLines) (T := F_mLines) (N := 21) hx hb hwd i_mLines t_mLines to_mLines no_mLines hown hK hP hD hS 0 rfl rfl 8 (by decide) (hwd _ wd_10_92) (fun _ h9 => h9) rfl hin rfl (by decide +kernel) rfl rfl (Nat.le_of_ble_eq_true rfl) d_mLines_init_1428 (fun H locs hP hD hS => ?_)
  have hP : va_P (dC, dI) vcl [(h0, .inr (14, [.ref q_1, .ref q_15, .ref q_29, .ref q_36, .ref q_43, .ref q_47, .int 0, .ref q_50, .ref q_52, .null, .long 0, .null, .int 0, .int 0, .int 0, .int 0, .int 0, .int 0, .int 0, .null, .null])), (q_1, .inl (cA_2, 64, .inl (upd (upd (upd f_14 61 306) 62 307) 63 308))), (q_15, .inl (cA_16, 64, .inl (upd (upd (upd f_28 61 4186) 62 4198) 63 4199))), (q_29, .inl (cA_30, 27, .inl (upd (upd f_35 25 88) 26 667))), (q_36, .inl (cA_37, 27, .inl (upd (upd (upd f_42 24 8283) 25 8292) 26 8293))), (q_43, .inl (cA_44, 13, .inl (upd (upd (upd (upd f_46 9 4124) 10 4125) 11 4126) 12 4127))), (q_47, .inl (cA_48, 10, .inl (upd (upd (upd (upd (upd f_49 5 3) 6 11) 7 67) 8 131) 9 4097))), (q_50, .inl (cA_51, 10000, .inl (fun _ => 0))), (q_52, .inl (cA_53, 10000, .inl (fun _ => 0)))] H := hP
  have hD : va_D A [(h0, .inr (14, [.ref q_1, .ref q_15, .ref q_29, .ref q_36, .ref q_43, .ref q_47, .int 0, .ref q_50, .ref q_52, .null, .long 0, .null, .int 0, .int 0, .int 0, .int 0, .int 0, .int 0, .int 0, .null, .null])), (q_1, .inl (cA_2, 64, .inl (upd (upd (upd f_14 61 306) 62 307) 63 308))), (q_15, .inl (cA_16, 64, .inl (upd (upd (upd f_28 61 4186) 62 4198) 63 4199))), (q_29, .inl (cA_30, 27, .inl (upd (upd f_35 25 88) 26 667))), (q_36, .inl (cA_37, 27, .inl (upd (upd (upd f_42 24 8283) 25 8292) 26 8293))), (q_43, .inl (cA_44, 13, .inl (upd (upd (upd (upd f_46 9 4124) 10 4125) 11 4126) 12 4127))), (q_47, .inl (cA_48, 10, .inl (upd (upd (upd (upd (upd f_49 5 3) 6 11) 7 67) 8 131) 9 4097))), (q_50, .inl (cA_51, 10000, .inl (fun _ => 0))), (q_52, .inl (cA_53, 10000, .inl (fun _ => 0)))] := hD
  refine lv_aload_n hx hb d_mLines_init_1431 rfl (lv_at hl 0 rfl) ?_
  refine lv_sipush (v := 10000) hx hb d_mLines_init_1432 (by decide) ?_
  refine va_newa (atype := .boolean) (N' := 10000) (a0 := (10000, .inl (fun _ => 0))) (ty := .boolean) (n := 10000) hx hb (hwd _ wd_2_150) rfl hK hP hD hS hA (fun _ => rfl) (by decide) (by decide) (by decide) (Nat.le_of_ble_eq_true rfl) (Nat.le_of_ble_eq_true rfl) d_mLines_init_1435 (fun q_54 cA_55 H hK hP hD hS => ?_)
  have hP : va_P (dC, dI) vcl [(h0, .inr (14, [.ref q_1, .ref q_15, .ref q_29, .ref q_36, .ref q_43, .ref q_47, .int 0, .ref q_50, .ref q_52, .null, .long 0, .null, .int 0, .int 0, .int 0, .int 0, .int 0, .int 0, .int 0, .null, .null])), (q_1, .inl (cA_2, 64, .inl (upd (upd (upd f_14 61 306) 62 307) 63 308))), (q_15, .inl (cA_16, 64, .inl (upd (upd (upd f_28 61 4186) 62 4198) 63 4199))), (q_29, .inl (cA_30, 27, .inl (upd (upd f_35 25 88) 26 667))), (q_36, .inl (cA_37, 27, .inl (upd (upd (upd f_42 24 8283) 25 8292) 26 8293))), (q_43, .inl (cA_44, 13, .inl (upd (upd (upd (upd f_46 9 4124) 10 4125) 11 4126) 12 4127))), (q_47, .inl (cA_48, 10, .inl (upd (upd (upd (upd (upd f_49 5 3) 6 11) 7 67) 8 131) 9 4097))), (q_50, .inl (cA_51, 10000, .inl (fun _ => 0))), (q_52, .inl (cA_53, 10000, .inl (fun _ => 0))), (q_54, .inl (cA_55, 10000, .inl (fun _ => 0)))] H := hP
  have hD : va_D A [(h0, .inr (14, [.ref q_1, .ref q_15, .ref q_29, .ref q_36, .ref q_43, .ref q_47, .int 0, .ref q_50, .ref q_52, .null, .long 0, .null, .int 0, .int 0, .int 0, .int 0, .int 0, .int 0, .int 0, .null, .null])), (q_1, .inl (cA_2, 64, .inl (upd (upd (upd f_14 61 306) 62 307) 63 308))), (q_15, .inl (cA_16, 64, .inl (upd (upd (upd f_28 61 4186) 62 4198) 63 4199))), (q_29, .inl (cA_30, 27, .inl (upd (upd f_35 25 88) 26 667))), (q_36, .inl (cA_37, 27, .inl (upd (upd (upd f_42 24 8283) 25 8292) 26 8293))), (q_43, .inl (cA_44, 13, .inl (upd (upd (upd (upd f_46 9 4124) 10 4125) 11 4126) 12 4127))), (q_47, .inl (cA_48, 10, .inl (upd (upd (upd (upd (upd f_49 5 3) 6 11) 7 67) 8 131) 9 4097))), (q_50, .inl (cA_51, 10000, .inl (fun _ => 0))), (q_52, .inl (cA_53, 10000, .inl (fun _ => 0))), (q_54, .inl (cA_55, 10000, .inl (fun _ => 0)))] := hD
  have hK : va_K (dC, dI) vcl [(cA_2, .int), (cA_16, .int), (cA_30, .int), (cA_37, .int), (cA_44, .int), (cA_48, .int), (cA_51, .boolean), (cA_53, .boolean), (cA_55, .boolean)] s := hK
  refine W.widen (k := 9) (n := 30205) (by decide) (by decide) ?_
  refine va_putF (D := (dC, dI)) (ci := 14) (v := .ref q_54) (ty := (.array .boolean)) (C := R_mLines) (T := F_mLines) (N := 21) hx hb hwd i_mLines t_mLines to_mLines no_mLines hown hK hP hD hS 0 rfl rfl 19 (by decide) (hwd _ wd_10_105) (fun _ h9 => h9) rfl hin rfl (by decide +kernel) rfl rfl (Nat.le_of_ble_eq_true rfl) d_mLines_init_1437 (fun H locs hP hD hS => ?_)
  have hP : va_P (dC, dI) vcl [(h0, .inr (14, [.ref q_1, .ref q_15, .ref q_29, .ref q_36, .ref q_43, .ref q_47, .int 0, .ref q_50, .ref q_52, .null, .long 0, .null, .int 0, .int 0, .int 0, .int 0, .int 0, .int 0, .int 0, .ref q_54, .null])), (q_1, .inl (cA_2, 64, .inl (upd (upd (upd f_14 61 306) 62 307) 63 308))), (q_15, .inl (cA_16, 64, .inl (upd (upd (upd f_28 61 4186) 62 4198) 63 4199))), (q_29, .inl (cA_30, 27, .inl (upd (upd f_35 25 88) 26 667))), (q_36, .inl (cA_37, 27, .inl (upd (upd (upd f_42 24 8283) 25 8292) 26 8293))), (q_43, .inl (cA_44, 13, .inl (upd (upd (upd (upd f_46 9 4124) 10 4125) 11 4126) 12 4127))), (q_47, .inl (cA_48, 10, .inl (upd (upd (upd (upd (upd f_49 5 3) 6 11) 7 67) 8 131) 9 4097))), (q_50, .inl (cA_51, 10000, .inl (fun _ => 0))), (q_52, .inl (cA_53, 10000, .inl (fun _ => 0))), (q_54, .inl (cA_55, 10000, .inl (fun _ => 0)))] H := hP
  have hD : va_D A [(h0, .inr (14, [.ref q_1, .ref q_15, .ref q_29, .ref q_36, .ref q_43, .ref q_47, .int 0, .ref q_50, .ref q_52, .null, .long 0, .null, .int 0, .int 0, .int 0, .int 0, .int 0, .int 0, .int 0, .ref q_54, .null])), (q_1, .inl (cA_2, 64, .inl (upd (upd (upd f_14 61 306) 62 307) 63 308))), (q_15, .inl (cA_16, 64, .inl (upd (upd (upd f_28 61 4186) 62 4198) 63 4199))), (q_29, .inl (cA_30, 27, .inl (upd (upd f_35 25 88) 26 667))), (q_36, .inl (cA_37, 27, .inl (upd (upd (upd f_42 24 8283) 25 8292) 26 8293))), (q_43, .inl (cA_44, 13, .inl (upd (upd (upd (upd f_46 9 4124) 10 4125) 11 4126) 12 4127))), (q_47, .inl (cA_48, 10, .inl (upd (upd (upd (upd (upd f_49 5 3) 6 11) 7 67) 8 131) 9 4097))), (q_50, .inl (cA_51, 10000, .inl (fun _ => 0))), (q_52, .inl (cA_53, 10000, .inl (fun _ => 0))), (q_54, .inl (cA_55, 10000, .inl (fun _ => 0)))] := hD
  refine lv_aload_n hx hb d_mLines_init_1440 rfl (lv_at hl 0 rfl) ?_
  refine lv_sipush (v := 10000) hx hb d_mLines_init_1441 (by decide) ?_
  refine va_newa (atype := .boolean) (N' := 10000) (a0 := (10000, .inl (fun _ => 0))) (ty := .boolean) (n := 10000) hx hb (hwd _ wd_2_150) rfl hK hP hD hS hA (fun _ => rfl) (by decide) (by decide) (by decide) (Nat.le_of_ble_eq_true rfl) (Nat.le_of_ble_eq_true rfl) d_mLines_init_1444 (fun q_56 cA_57 H hK hP hD hS => ?_)
  have hP : va_P (dC, dI) vcl [(h0, .inr (14, [.ref q_1, .ref q_15, .ref q_29, .ref q_36, .ref q_43, .ref q_47, .int 0, .ref q_50, .ref q_52, .null, .long 0, .null, .int 0, .int 0, .int 0, .int 0, .int 0, .int 0, .int 0, .ref q_54, .null])), (q_1, .inl (cA_2, 64, .inl (upd (upd (upd f_14 61 306) 62 307) 63 308))), (q_15, .inl (cA_16, 64, .inl (upd (upd (upd f_28 61 4186) 62 4198) 63 4199))), (q_29, .inl (cA_30, 27, .inl (upd (upd f_35 25 88) 26 667))), (q_36, .inl (cA_37, 27, .inl (upd (upd (upd f_42 24 8283) 25 8292) 26 8293))), (q_43, .inl (cA_44, 13, .inl (upd (upd (upd (upd f_46 9 4124) 10 4125) 11 4126) 12 4127))), (q_47, .inl (cA_48, 10, .inl (upd (upd (upd (upd (upd f_49 5 3) 6 11) 7 67) 8 131) 9 4097))), (q_50, .inl (cA_51, 10000, .inl (fun _ => 0))), (q_52, .inl (cA_53, 10000, .inl (fun _ => 0))), (q_54, .inl (cA_55, 10000, .inl (fun _ => 0))), (q_56, .inl (cA_57, 10000, .inl (fun _ => 0)))] H := hP
  have hD : va_D A [(h0, .inr (14, [.ref q_1, .ref q_15, .ref q_29, .ref q_36, .ref q_43, .ref q_47, .int 0, .ref q_50, .ref q_52, .null, .long 0, .null, .int 0, .int 0, .int 0, .int 0, .int 0, .int 0, .int 0, .ref q_54, .null])), (q_1, .inl (cA_2, 64, .inl (upd (upd (upd f_14 61 306) 62 307) 63 308))), (q_15, .inl (cA_16, 64, .inl (upd (upd (upd f_28 61 4186) 62 4198) 63 4199))), (q_29, .inl (cA_30, 27, .inl (upd (upd f_35 25 88) 26 667))), (q_36, .inl (cA_37, 27, .inl (upd (upd (upd f_42 24 8283) 25 8292) 26 8293))), (q_43, .inl (cA_44, 13, .inl (upd (upd (upd (upd f_46 9 4124) 10 4125) 11 4126) 12 4127))), (q_47, .inl (cA_48, 10, .inl (upd (upd (upd (upd (upd f_49 5 3) 6 11) 7 67) 8 131) 9 4097))), (q_50, .inl (cA_51, 10000, .inl (fun _ => 0))), (q_52, .inl (cA_53, 10000, .inl (fun _ => 0))), (q_54, .inl (cA_55, 10000, .inl (fun _ => 0))), (q_56, .inl (cA_57, 10000, .inl (fun _ => 0)))] := hD
  have hK : va_K (dC, dI) vcl [(cA_2, .int), (cA_16, .int), (cA_30, .int), (cA_37, .int), (cA_44, .int), (cA_48, .int), (cA_51, .boolean), (cA_53, .boolean), (cA_55, .boolean), (cA_57, .boolean)] s := hK
  refine W.widen (k := 10) (n := 40205) (by decide) (by decide) ?_
  refine va_putF (D := (dC, dI)) (ci := 14) (v := .ref q_56) (ty := (.array .boolean)) (C := R_mLines) (T := F_mLines) (N := 21) hx hb hwd i_mLines t_mLines to_mLines no_mLines hown hK hP hD hS 0 rfl rfl 20 (by decide) (hwd _ wd_10_106) (fun _ h9 => h9) rfl hin rfl (by decide +kernel) rfl rfl (Nat.le_of_ble_eq_true rfl) d_mLines_init_1446 (fun H locs hP hD hS => ?_)
  have hP : va_P (dC, dI) vcl [(h0, .inr (14, [.ref q_1, .ref q_15, .ref q_29, .ref q_36, .ref q_43, .ref q_47, .int 0, .ref q_50, .ref q_52, .null, .long 0, .null, .int 0, .int 0, .int 0, .int 0, .int 0, .int 0, .int 0, .ref q_54, .ref q_56])), (q_1, .inl (cA_2, 64, .inl (upd (upd (upd f_14 61 306) 62 307) 63 308))), (q_15, .inl (cA_16, 64, .inl (upd (upd (upd f_28 61 4186) 62 4198) 63 4199))), (q_29, .inl (cA_30, 27, .inl (upd (upd f_35 25 88) 26 667))), (q_36, .inl (cA_37, 27, .inl (upd (upd (upd f_42 24 8283) 25 8292) 26 8293))), (q_43, .inl (cA_44, 13, .inl (upd (upd (upd (upd f_46 9 4124) 10 4125) 11 4126) 12 4127))), (q_47, .inl (cA_48, 10, .inl (upd (upd (upd (upd (upd f_49 5 3) 6 11) 7 67) 8 131) 9 4097))), (q_50, .inl (cA_51, 10000, .inl (fun _ => 0))), (q_52, .inl (cA_53, 10000, .inl (fun _ => 0))), (q_54, .inl (cA_55, 10000, .inl (fun _ => 0))), (q_56, .inl (cA_57, 10000, .inl (fun _ => 0)))] H := hP
  have hD : va_D A [(h0, .inr (14, [.ref q_1, .ref q_15, .ref q_29, .ref q_36, .ref q_43, .ref q_47, .int 0, .ref q_50, .ref q_52, .null, .long 0, .null, .int 0, .int 0, .int 0, .int 0, .int 0, .int 0, .int 0, .ref q_54, .ref q_56])), (q_1, .inl (cA_2, 64, .inl (upd (upd (upd f_14 61 306) 62 307) 63 308))), (q_15, .inl (cA_16, 64, .inl (upd (upd (upd f_28 61 4186) 62 4198) 63 4199))), (q_29, .inl (cA_30, 27, .inl (upd (upd f_35 25 88) 26 667))), (q_36, .inl (cA_37, 27, .inl (upd (upd (upd f_42 24 8283) 25 8292) 26 8293))), (q_43, .inl (cA_44, 13, .inl (upd (upd (upd (upd f_46 9 4124) 10 4125) 11 4126) 12 4127))), (q_47, .inl (cA_48, 10, .inl (upd (upd (upd (upd (upd f_49 5 3) 6 11) 7 67) 8 131) 9 4097))), (q_50, .inl (cA_51, 10000, .inl (fun _ => 0))), (q_52, .inl (cA_53, 10000, .inl (fun _ => 0))), (q_54, .inl (cA_55, 10000, .inl (fun _ => 0))), (q_56, .inl (cA_57, 10000, .inl (fun _ => 0)))] := hD
  refine lv_aload_n hx hb d_mLines_init_1449 rfl (lv_at hl 0 rfl) ?_
  refine lv_iload_n hx hb d_mLines_init_1450 rfl (lv_at hl 1 rfl) ?_
  refine va_newa (atype := .byte) (N' := 1) (a0 := (1, .inl (fun _ => 0))) (ty := .byte) (n := 1) hx hb (hwd _ wd_1_166) rfl hK hP hD hS hA (fun _ => rfl) (by decide) (by decide) (by decide) (Nat.le_of_ble_eq_true rfl) (Nat.le_of_ble_eq_true rfl) d_mLines_init_1451 (fun q_58 cA_59 H hK hP hD hS => ?_)
  have hP : va_P (dC, dI) vcl [(h0, .inr (14, [.ref q_1, .ref q_15, .ref q_29, .ref q_36, .ref q_43, .ref q_47, .int 0, .ref q_50, .ref q_52, .null, .long 0, .null, .int 0, .int 0, .int 0, .int 0, .int 0, .int 0, .int 0, .ref q_54, .ref q_56])), (q_1, .inl (cA_2, 64, .inl (upd (upd (upd f_14 61 306) 62 307) 63 308))), (q_15, .inl (cA_16, 64, .inl (upd (upd (upd f_28 61 4186) 62 4198) 63 4199))), (q_29, .inl (cA_30, 27, .inl (upd (upd f_35 25 88) 26 667))), (q_36, .inl (cA_37, 27, .inl (upd (upd (upd f_42 24 8283) 25 8292) 26 8293))), (q_43, .inl (cA_44, 13, .inl (upd (upd (upd (upd f_46 9 4124) 10 4125) 11 4126) 12 4127))), (q_47, .inl (cA_48, 10, .inl (upd (upd (upd (upd (upd f_49 5 3) 6 11) 7 67) 8 131) 9 4097))), (q_50, .inl (cA_51, 10000, .inl (fun _ => 0))), (q_52, .inl (cA_53, 10000, .inl (fun _ => 0))), (q_54, .inl (cA_55, 10000, .inl (fun _ => 0))), (q_56, .inl (cA_57, 10000, .inl (fun _ => 0))), (q_58, .inl (cA_59, 1, .inl (fun _ => 0)))] H := hP
  have hD : va_D A [(h0, .inr (14, [.ref q_1, .ref q_15, .ref q_29, .ref q_36, .ref q_43, .ref q_47, .int 0, .ref q_50, .ref q_52, .null, .long 0, .null, .int 0, .int 0, .int 0, .int 0, .int 0, .int 0, .int 0, .ref q_54, .ref q_56])), (q_1, .inl (cA_2, 64, .inl (upd (upd (upd f_14 61 306) 62 307) 63 308))), (q_15, .inl (cA_16, 64, .inl (upd (upd (upd f_28 61 4186) 62 4198) 63 4199))), (q_29, .inl (cA_30, 27, .inl (upd (upd f_35 25 88) 26 667))), (q_36, .inl (cA_37, 27, .inl (upd (upd (upd f_42 24 8283) 25 8292) 26 8293))), (q_43, .inl (cA_44, 13, .inl (upd (upd (upd (upd f_46 9 4124) 10 4125) 11 4126) 12 4127))), (q_47, .inl (cA_48, 10, .inl (upd (upd (upd (upd (upd f_49 5 3) 6 11) 7 67) 8 131) 9 4097))), (q_50, .inl (cA_51, 10000, .inl (fun _ => 0))), (q_52, .inl (cA_53, 10000, .inl (fun _ => 0))), (q_54, .inl (cA_55, 10000, .inl (fun _ => 0))), (q_56, .inl (cA_57, 10000, .inl (fun _ => 0))), (q_58, .inl (cA_59, 1, .inl (fun _ => 0)))] := hD
  have hK : va_K (dC, dI) vcl [(cA_2, .int), (cA_16, .int), (cA_30, .int), (cA_37, .int), (cA_44, .int), (cA_48, .int), (cA_51, .boolean), (cA_53, .boolean), (cA_55, .boolean), (cA_57, .boolean), (cA_59, .byte)] s := hK
  refine W.widen (k := 11) (n := 40206) (by decide) (by decide) ?_
  refine va_putF (D := (dC, dI)) (ci := 14) (v := .ref q_58) (ty := (.array .byte)) (C := R_mLines) (T := F_mLines) (N := 21) hx hb hwd i_mLines t_mLines to_mLines no_mLines hown hK hP hD hS 0 rfl rfl 9 (by decide) (hwd _ wd_10_93) (fun _ h9 => h9) rfl hin rfl (by decide +kernel) rfl rfl (Nat.le_of_ble_eq_true rfl) d_mLines_init_1453 (fun H locs hP hD hS => ?_)
  have hP : va_P (dC, dI) vcl [(h0, .inr (14, [.ref q_1, .ref q_15, .ref q_29, .ref q_36, .ref q_43, .ref q_47, .int 0, .ref q_50, .ref q_52, .ref q_58, .long 0, .null, .int 0, .int 0, .int 0, .int 0, .int 0, .int 0, .int 0, .ref q_54, .ref q_56])), (q_1, .inl (cA_2, 64, .inl (upd (upd (upd f_14 61 306) 62 307) 63 308))), (q_15, .inl (cA_16, 64, .inl (upd (upd (upd f_28 61 4186) 62 4198) 63 4199))), (q_29, .inl (cA_30, 27, .inl (upd (upd f_35 25 88) 26 667))), (q_36, .inl (cA_37, 27, .inl (upd (upd (upd f_42 24 8283) 25 8292) 26 8293))), (q_43, .inl (cA_44, 13, .inl (upd (upd (upd (upd f_46 9 4124) 10 4125) 11 4126) 12 4127))), (q_47, .inl (cA_48, 10, .inl (upd (upd (upd (upd (upd f_49 5 3) 6 11) 7 67) 8 131) 9 4097))), (q_50, .inl (cA_51, 10000, .inl (fun _ => 0))), (q_52, .inl (cA_53, 10000, .inl (fun _ => 0))), (q_54, .inl (cA_55, 10000, .inl (fun _ => 0))), (q_56, .inl (cA_57, 10000, .inl (fun _ => 0))), (q_58, .inl (cA_59, 1, .inl (fun _ => 0)))] H := hP
  have hD : va_D A [(h0, .inr (14, [.ref q_1, .ref q_15, .ref q_29, .ref q_36, .ref q_43, .ref q_47, .int 0, .ref q_50, .ref q_52, .ref q_58, .long 0, .null, .int 0, .int 0, .int 0, .int 0, .int 0, .int 0, .int 0, .ref q_54, .ref q_56])), (q_1, .inl (cA_2, 64, .inl (upd (upd (upd f_14 61 306) 62 307) 63 308))), (q_15, .inl (cA_16, 64, .inl (upd (upd (upd f_28 61 4186) 62 4198) 63 4199))), (q_29, .inl (cA_30, 27, .inl (upd (upd f_35 25 88) 26 667))), (q_36, .inl (cA_37, 27, .inl (upd (upd (upd f_42 24 8283) 25 8292) 26 8293))), (q_43, .inl (cA_44, 13, .inl (upd (upd (upd (upd f_46 9 4124) 10 4125) 11 4126) 12 4127))), (q_47, .inl (cA_48, 10, .inl (upd (upd (upd (upd (upd f_49 5 3) 6 11) 7 67) 8 131) 9 4097))), (q_50, .inl (cA_51, 10000, .inl (fun _ => 0))), (q_52, .inl (cA_53, 10000, .inl (fun _ => 0))), (q_54, .inl (cA_55, 10000, .inl (fun _ => 0))), (q_56, .inl (cA_57, 10000, .inl (fun _ => 0))), (q_58, .inl (cA_59, 1, .inl (fun _ => 0)))] := hD
  have hP9 := hP.sub (ws' := [(h0, .inr (14, [.ref q_1, .ref q_15, .ref q_29, .ref q_36, .ref q_43, .ref q_47, .int 0, .ref q_50, .ref q_52, .ref q_58, .long 0, .null, .int 0, .int 0, .int 0, .int 0, .int 0, .int 0, .int 0, .ref q_54, .ref q_56])), (q_1, .inl (cA_2, 64, .inl (upd (upd (upd f_14 61 306) 62 307) 63 308))), (q_15, .inl (cA_16, 64, .inl (upd (upd (upd f_28 61 4186) 62 4198) 63 4199))), (q_29, .inl (cA_30, 27, .inl (upd (upd f_35 25 88) 26 667))), (q_36, .inl (cA_37, 27, .inl (upd (upd (upd f_42 24 8283) 25 8292) 26 8293))), (q_43, .inl (cA_44, 13, .inl (upd (upd (upd (upd f_46 9 4124) 10 4125) 11 4126) 12 4127))), (q_47, .inl (cA_48, 10, .inl (upd (upd (upd (upd (upd f_49 5 3) 6 11) 7 67) 8 131) 9 4097))), (q_50, .inl (cA_51, 10000, .inl (fun _ => 0))), (q_52, .inl (cA_53, 10000, .inl (fun _ => 0))), (q_54, .inl (cA_55, 10000, .inl (fun _ => 0))), (q_56, .inl (cA_57, 10000, .inl (fun _ => 0))), (q_58, .inl (cA_59, 1, .inl (fun _ => 0)))]) [0, 1, 2, 3, 4, 5, 6, 7, 8, 9, 10, 11] rfl
  have hD9 := hD.sub (ws' := [(h0, .inr (14, [.ref q_1, .ref q_15, .ref q_29, .ref q_36, .ref q_43, .ref q_47, .int 0, .ref q_50, .ref q_52, .ref q_58, .long 0, .null, .int 0, .int 0, .int 0, .int 0, .int 0, .int 0, .int 0, .ref q_54, .ref q_56])), (q_1, .inl (cA_2, 64, .inl (upd (upd (upd f_14 61 306) 62 307) 63 308))), (q_15, .inl (cA_16, 64, .inl (upd (upd (upd f_28 61 4186) 62 4198) 63 4199))), (q_29, .inl (cA_30, 27, .inl (upd (upd f_35 25 88) 26 667))), (q_36, .inl (cA_37, 27, .inl (upd (upd (upd f_42 24 8283) 25 8292) 26 8293))), (q_43, .inl (cA_44, 13, .inl (upd (upd (upd (upd f_46 9 4124) 10 4125) 11 4126) 12 4127))), (q_47, .inl (cA_48, 10, .inl (upd (upd (upd (upd (upd f_49 5 3) 6 11) 7 67) 8 131) 9 4097))), (q_50, .inl (cA_51, 10000, .inl (fun _ => 0))), (q_52, .inl (cA_53, 10000, .inl (fun _ => 0))), (q_54, .inl (cA_55, 10000, .inl (fun _ => 0))), (q_56, .inl (cA_57, 10000, .inl (fun _ => 0))), (q_58, .inl (cA_59, 1, .inl (fun _ => 0)))]) [0, 1, 2, 3, 4, 5, 6, 7, 8, 9, 10, 11] (by decide) rfl
  have hK9 := hK.sub (tys' := [(cA_2, .int), (cA_16, .int), (cA_30, .int), (cA_37, .int), (cA_44, .int), (cA_48, .int), (cA_51, .boolean), (cA_53, .boolean), (cA_55, .boolean), (cA_57, .boolean), (cA_59, .byte)]) [0, 1, 2, 3, 4, 5, 6, 7, 8, 9, 10] rfl
  exact W.vret hx hb hr (fun t ht hW => ⟨⟨(), rfl, (trivial), q_1, q_15, q_29, q_36, q_43, q_47, q_50, q_52, q_54, q_56, q_58, cA_2, cA_16, cA_30, cA_37, cA_44, cA_48, cA_51, cA_53, cA_55, cA_57, cA_59, by rw [ht]; exact hP9, va_K.moved hW.alike hK9, hD9⟩, hS.F ht⟩) hS.2.2 d_mLines_init_1456
