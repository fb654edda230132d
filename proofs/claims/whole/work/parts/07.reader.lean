theorem wd_1_14 : (Jvm.Cond.initialized "SheetPrinter$Coder") ∈ gT := gT_in (in_1 _ (List.mem_of_getElem? (i := 14) rfl)) rfl
theorem wd_4_49 : (Jvm.Cond.code ({ cls := "SheetPrinter$LineReader", name := "addWord", desc := "(III)V" } : Jvm.MethodName) prog_5_method_4_code (7 : Nat) (Option.none : Option Jvm.ClassFile.FieldType)) ∈ gT := gT_in (in_4 _ (List.mem_of_getElem? (i := 49) rfl)) rfl
theorem wd_4_50 : (Jvm.Cond.methodLink "SheetPrinter$LineReader" (61 : Nat) ({ cls := "SheetPrinter$Coder", name := "bitsOf", desc := "(I)I" } : Jvm.MethodName)) ∈ gT := gT_in (in_4 _ (List.mem_of_getElem? (i := 50) rfl)) rfl
theorem wd_4_51 : (Jvm.Cond.static ({ cls := "SheetPrinter$Coder", name := "bitsOf", desc := "(I)I" } : Jvm.MethodName)) ∈ gT := gT_in (in_4 _ (List.mem_of_getElem? (i := 51) rfl)) rfl
theorem wd_4_52 : (Jvm.Cond.code ({ cls := "SheetPrinter$Coder", name := "bitsOf", desc := "(I)I" } : Jvm.MethodName) prog_2_method_2_code (3 : Nat) (Option.some Jvm.ClassFile.FieldType.int)) ∈ gT := gT_in (in_4 _ (List.mem_of_getElem? (i := 52) rfl)) rfl
theorem wd_4_53 : (Jvm.Cond.methodLink "SheetPrinter$LineReader" (65 : Nat) ({ cls := "java/lang/Math", name := "max", desc := "(II)I" } : Jvm.MethodName)) ∈ gT := gT_in (in_4 _ (List.mem_of_getElem? (i := 53) rfl)) rfl
theorem wd_4_70 : (Jvm.Cond.fieldLink "SheetPrinter$LineReader" (11 : Nat) "SheetPrinter$LineReader" "tree" "[I") ∈ gT := gT_in (in_4 _ (List.mem_of_getElem? (i := 70) rfl)) rfl
theorem wd_4_71 : (Jvm.Cond.fieldLink "SheetPrinter$LineReader" (15 : Nat) "SheetPrinter$LineReader" "nodes" "I") ∈ gT := gT_in (in_4 _ (List.mem_of_getElem? (i := 71) rfl)) rfl
theorem wd_4_87 : (Jvm.Cond.laysFinal "SheetPrinter$LineReader" "SheetPrinter$LineReader" "tree" "[I") ∈ gT := gT_in (in_4 _ (List.mem_of_getElem? (i := 87) rfl)) rfl
theorem wd_4_89 : (Jvm.Cond.lays "SheetPrinter$LineReader" "SheetPrinter$LineReader" "nodes" "I") ∈ gT := gT_in (in_4 _ (List.mem_of_getElem? (i := 89) rfl)) rfl
theorem wd_4_91 : (Jvm.Cond.lays "SheetPrinter$LineReader" "SheetPrinter$LineReader" "bytes" "[B") ∈ gT := gT_in (in_4 _ (List.mem_of_getElem? (i := 91) rfl)) rfl
theorem wd_4_93 : (Jvm.Cond.lays "SheetPrinter$LineReader" "SheetPrinter$LineReader" "at" "I") ∈ gT := gT_in (in_4 _ (List.mem_of_getElem? (i := 93) rfl)) rfl
theorem wd_4_95 : (Jvm.Cond.lays "SheetPrinter$LineReader" "SheetPrinter$LineReader" "end" "I") ∈ gT := gT_in (in_4 _ (List.mem_of_getElem? (i := 95) rfl)) rfl
theorem wd_4_97 : (Jvm.Cond.lays "SheetPrinter$LineReader" "SheetPrinter$LineReader" "turned" "Z") ∈ gT := gT_in (in_4 _ (List.mem_of_getElem? (i := 97) rfl)) rfl
theorem wd_4_99 : (Jvm.Cond.lays "SheetPrinter$LineReader" "SheetPrinter$LineReader" "above" "[I") ∈ gT := gT_in (in_4 _ (List.mem_of_getElem? (i := 99) rfl)) rfl
theorem wd_4_101 : (Jvm.Cond.lays "SheetPrinter$LineReader" "SheetPrinter$LineReader" "aboveCount" "I") ∈ gT := gT_in (in_4 _ (List.mem_of_getElem? (i := 101) rfl)) rfl
theorem wd_4_103 : (Jvm.Cond.lays "SheetPrinter$LineReader" "SheetPrinter$LineReader" "line" "[I") ∈ gT := gT_in (in_4 _ (List.mem_of_getElem? (i := 103) rfl)) rfl
theorem wd_4_105 : (Jvm.Cond.lays "SheetPrinter$LineReader" "SheetPrinter$LineReader" "lineCount" "I") ∈ gT := gT_in (in_4 _ (List.mem_of_getElem? (i := 105) rfl)) rfl
theorem wd_4_107 : (Jvm.Cond.lays "SheetPrinter$LineReader" "SheetPrinter$LineReader" "width" "I") ∈ gT := gT_in (in_4 _ (List.mem_of_getElem? (i := 107) rfl)) rfl
theorem wd_4_109 : (Jvm.Cond.lays "SheetPrinter$LineReader" "SheetPrinter$LineReader" "a" "I") ∈ gT := gT_in (in_4 _ (List.mem_of_getElem? (i := 109) rfl)) rfl
theorem wd_4_111 : (Jvm.Cond.lays "SheetPrinter$LineReader" "SheetPrinter$LineReader" "colour" "I") ∈ gT := gT_in (in_4 _ (List.mem_of_getElem? (i := 111) rfl)) rfl
theorem wd_4_113 : (Jvm.Cond.lays "SheetPrinter$LineReader" "SheetPrinter$LineReader" "over" "I") ∈ gT := gT_in (in_4 _ (List.mem_of_getElem? (i := 113) rfl)) rfl
theorem wd_4_115 : (Jvm.Cond.lays "SheetPrinter$LineReader" "SheetPrinter$LineReader" "run" "I") ∈ gT := gT_in (in_4 _ (List.mem_of_getElem? (i := 115) rfl)) rfl
theorem i_LineReader : ∀ w ∈ u_ws R_LineReader F_LineReader 15, w ∈ gT := by
  intro w h
  obtain ⟨k, hk, rfl⟩ := List.mem_map.mp h
  have hk := List.mem_range.mp hk
  match k, hk with
  | 0, _ => exact wd_4_87
  | 1, _ => exact wd_4_89
  | 2, _ => exact wd_4_91
  | 3, _ => exact wd_4_93
  | 4, _ => exact wd_4_95
  | 5, _ => exact wd_4_97
  | 6, _ => exact wd_4_99
  | 7, _ => exact wd_4_101
  | 8, _ => exact wd_4_103
  | 9, _ => exact wd_4_105
  | 10, _ => exact wd_4_107
  | 11, _ => exact wd_4_109
  | 12, _ => exact wd_4_111
  | 13, _ => exact wd_4_113
  | 14, _ => exact wd_4_115
  | k + 15, hk => exact absurd hk (by omega)
abbrev b_Coder_bitsOf : ByteArray := prog_2_method_2_code
abbrev y_Coder_bitsOf : MethodName := ⟨"SheetPrinter$Coder", "bitsOf", "(I)I"⟩
abbrev w_Coder_bitsOf : List Cond := .code y_Coder_bitsOf b_Coder_bitsOf 3 (some .int) :: gT
theorem gd_Coder_bitsOf : GoodIn gT w_Coder_bitsOf := gW wd_4_52
theorem d_Coder_bitsOf_0 : decode b_Coder_bitsOf 0 = .ok (.iconst 0, 1) := by decide +kernel
theorem d_Coder_bitsOf_1 : decode b_Coder_bitsOf 1 = .ok (.istore_n 1, 1) := by decide +kernel
theorem d_Coder_bitsOf_2 : decode b_Coder_bitsOf 2 = .ok (.iload_n 0, 1) := by decide +kernel
theorem d_Coder_bitsOf_3 : decode b_Coder_bitsOf 3 = .ok (.istore_n 2, 1) := by decide +kernel
theorem d_Coder_bitsOf_4 : decode b_Coder_bitsOf 4 = .ok (.iload_n 2, 1) := by decide +kernel
theorem d_Coder_bitsOf_5 : decode b_Coder_bitsOf 5 = .ok (.iconst 1, 1) := by decide +kernel
theorem d_Coder_bitsOf_6 : decode b_Coder_bitsOf 6 = .ok (.if_icmp .le 13, 3) := by decide +kernel
theorem d_Coder_bitsOf_9 : decode b_Coder_bitsOf 9 = .ok (.iinc 1 1, 3) := by decide +kernel
theorem d_Coder_bitsOf_12 : decode b_Coder_bitsOf 12 = .ok (.iload_n 2, 1) := by decide +kernel
theorem d_Coder_bitsOf_13 : decode b_Coder_bitsOf 13 = .ok (.iconst 1, 1) := by decide +kernel
theorem d_Coder_bitsOf_14 : decode b_Coder_bitsOf 14 = .ok (.ishr, 1) := by decide +kernel
theorem d_Coder_bitsOf_15 : decode b_Coder_bitsOf 15 = .ok (.istore_n 2, 1) := by decide +kernel
theorem d_Coder_bitsOf_16 : decode b_Coder_bitsOf 16 = .ok (.goto (-12), 3) := by decide +kernel
theorem d_Coder_bitsOf_19 : decode b_Coder_bitsOf 19 = .ok (.iload_n 1, 1) := by decide +kernel
theorem d_Coder_bitsOf_20 : decode b_Coder_bitsOf 20 = .ok (.ireturn, 1) := by decide +kernel
abbrev b_LineReader_addWord : ByteArray := prog_5_method_4_code
abbrev y_LineReader_addWord : MethodName := ⟨"SheetPrinter$LineReader", "addWord", "(III)V"⟩
abbrev w_LineReader_addWord : List Cond := .code y_LineReader_addWord b_LineReader_addWord 7 none :: gT
theorem gd_LineReader_addWord : GoodIn gT w_LineReader_addWord := gW wd_4_49
theorem d_LineReader_addWord_0 : decode b_LineReader_addWord 0 = .ok (.iload_n 1, 1) := by decide +kernel
theorem d_LineReader_addWord_1 : decode b_LineReader_addWord 1 = .ok (.istore 4, 2) := by decide +kernel
theorem d_LineReader_addWord_3 : decode b_LineReader_addWord 3 = .ok (.iload_n 2, 1) := by decide +kernel
theorem d_LineReader_addWord_4 : decode b_LineReader_addWord 4 = .ok (.invokestatic 61, 3) := by decide +kernel
theorem d_LineReader_addWord_7 : decode b_LineReader_addWord 7 = .ok (.iconst 1, 1) := by decide +kernel
theorem d_LineReader_addWord_8 : decode b_LineReader_addWord 8 = .ok (.isub, 1) := by decide +kernel
theorem d_LineReader_addWord_9 : decode b_LineReader_addWord 9 = .ok (.istore 5, 2) := by decide +kernel
theorem d_LineReader_addWord_11 : decode b_LineReader_addWord 11 = .ok (.iload 5, 2) := by decide +kernel
theorem d_LineReader_addWord_13 : decode b_LineReader_addWord 13 = .ok (.ifCond .le 76, 3) := by decide +kernel
theorem d_LineReader_addWord_16 : decode b_LineReader_addWord 16 = .ok (.iconst 2, 1) := by decide +kernel
theorem d_LineReader_addWord_17 : decode b_LineReader_addWord 17 = .ok (.iload 4, 2) := by decide +kernel
theorem d_LineReader_addWord_19 : decode b_LineReader_addWord 19 = .ok (.imul, 1) := by decide +kernel
theorem d_LineReader_addWord_20 : decode b_LineReader_addWord 20 = .ok (.iload_n 2, 1) := by decide +kernel
theorem d_LineReader_addWord_21 : decode b_LineReader_addWord 21 = .ok (.iload 5, 2) := by decide +kernel
theorem d_LineReader_addWord_23 : decode b_LineReader_addWord 23 = .ok (.ishr, 1) := by decide +kernel
theorem d_LineReader_addWord_24 : decode b_LineReader_addWord 24 = .ok (.iconst 1, 1) := by decide +kernel
theorem d_LineReader_addWord_25 : decode b_LineReader_addWord 25 = .ok (.iand, 1) := by decide +kernel
theorem d_LineReader_addWord_26 : decode b_LineReader_addWord 26 = .ok (.iadd, 1) := by decide +kernel
theorem d_LineReader_addWord_27 : decode b_LineReader_addWord 27 = .ok (.istore 6, 2) := by decide +kernel
theorem d_LineReader_addWord_29 : decode b_LineReader_addWord 29 = .ok (.aload_n 0, 1) := by decide +kernel
theorem d_LineReader_addWord_30 : decode b_LineReader_addWord 30 = .ok (.getfield 11, 3) := by decide +kernel
theorem d_LineReader_addWord_33 : decode b_LineReader_addWord 33 = .ok (.iload 6, 2) := by decide +kernel
theorem d_LineReader_addWord_35 : decode b_LineReader_addWord 35 = .ok (.iaload, 1) := by decide +kernel
theorem d_LineReader_addWord_36 : decode b_LineReader_addWord 36 = .ok (.ifCond .ne 34, 3) := by decide +kernel
theorem d_LineReader_addWord_39 : decode b_LineReader_addWord 39 = .ok (.aload_n 0, 1) := by decide +kernel
theorem d_LineReader_addWord_40 : decode b_LineReader_addWord 40 = .ok (.getfield 15, 3) := by decide +kernel
theorem d_LineReader_addWord_43 : decode b_LineReader_addWord 43 = .ok (.sipush 512, 3) := by decide +kernel
theorem d_LineReader_addWord_46 : decode b_LineReader_addWord 46 = .ok (.if_icmp .ge 24, 3) := by decide +kernel
theorem d_LineReader_addWord_49 : decode b_LineReader_addWord 49 = .ok (.aload_n 0, 1) := by decide +kernel
theorem d_LineReader_addWord_50 : decode b_LineReader_addWord 50 = .ok (.getfield 11, 3) := by decide +kernel
theorem d_LineReader_addWord_53 : decode b_LineReader_addWord 53 = .ok (.iload 6, 2) := by decide +kernel
theorem d_LineReader_addWord_55 : decode b_LineReader_addWord 55 = .ok (.aload_n 0, 1) := by decide +kernel
theorem d_LineReader_addWord_56 : decode b_LineReader_addWord 56 = .ok (.getfield 15, 3) := by decide +kernel
theorem d_LineReader_addWord_59 : decode b_LineReader_addWord 59 = .ok (.iastore, 1) := by decide +kernel
theorem d_LineReader_addWord_60 : decode b_LineReader_addWord 60 = .ok (.aload_n 0, 1) := by decide +kernel
theorem d_LineReader_addWord_61 : decode b_LineReader_addWord 61 = .ok (.dup, 1) := by decide +kernel
theorem d_LineReader_addWord_62 : decode b_LineReader_addWord 62 = .ok (.getfield 15, 3) := by decide +kernel
theorem d_LineReader_addWord_65 : decode b_LineReader_addWord 65 = .ok (.iconst 1, 1) := by decide +kernel
theorem d_LineReader_addWord_66 : decode b_LineReader_addWord 66 = .ok (.iadd, 1) := by decide +kernel
theorem d_LineReader_addWord_67 : decode b_LineReader_addWord 67 = .ok (.putfield 15, 3) := by decide +kernel
theorem d_LineReader_addWord_70 : decode b_LineReader_addWord 70 = .ok (.iconst 0, 1) := by decide +kernel
theorem d_LineReader_addWord_71 : decode b_LineReader_addWord 71 = .ok (.aload_n 0, 1) := by decide +kernel
theorem d_LineReader_addWord_72 : decode b_LineReader_addWord 72 = .ok (.getfield 11, 3) := by decide +kernel
theorem d_LineReader_addWord_75 : decode b_LineReader_addWord 75 = .ok (.iload 6, 2) := by decide +kernel
theorem d_LineReader_addWord_77 : decode b_LineReader_addWord 77 = .ok (.iaload, 1) := by decide +kernel
theorem d_LineReader_addWord_78 : decode b_LineReader_addWord 78 = .ok (.invokestatic 65, 3) := by decide +kernel
theorem d_LineReader_addWord_81 : decode b_LineReader_addWord 81 = .ok (.istore 4, 2) := by decide +kernel
theorem d_LineReader_addWord_83 : decode b_LineReader_addWord 83 = .ok (.iinc 5 (-1), 3) := by decide +kernel
theorem d_LineReader_addWord_86 : decode b_LineReader_addWord 86 = .ok (.goto (-75), 3) := by decide +kernel
theorem d_LineReader_addWord_89 : decode b_LineReader_addWord 89 = .ok (.aload_n 0, 1) := by decide +kernel
theorem d_LineReader_addWord_90 : decode b_LineReader_addWord 90 = .ok (.getfield 11, 3) := by decide +kernel
theorem d_LineReader_addWord_93 : decode b_LineReader_addWord 93 = .ok (.iconst 2, 1) := by decide +kernel
theorem d_LineReader_addWord_94 : decode b_LineReader_addWord 94 = .ok (.iload 4, 2) := by decide +kernel
theorem d_LineReader_addWord_96 : decode b_LineReader_addWord 96 = .ok (.imul, 1) := by decide +kernel
theorem d_LineReader_addWord_97 : decode b_LineReader_addWord 97 = .ok (.iload_n 2, 1) := by decide +kernel
theorem d_LineReader_addWord_98 : decode b_LineReader_addWord 98 = .ok (.iconst 1, 1) := by decide +kernel
theorem d_LineReader_addWord_99 : decode b_LineReader_addWord 99 = .ok (.iand, 1) := by decide +kernel
theorem d_LineReader_addWord_100 : decode b_LineReader_addWord 100 = .ok (.iadd, 1) := by decide +kernel
theorem d_LineReader_addWord_101 : decode b_LineReader_addWord 101 = .ok (.iconst (-1), 1) := by decide +kernel
theorem d_LineReader_addWord_102 : decode b_LineReader_addWord 102 = .ok (.iload_n 3, 1) := by decide +kernel
theorem d_LineReader_addWord_103 : decode b_LineReader_addWord 103 = .ok (.isub, 1) := by decide +kernel
theorem d_LineReader_addWord_104 : decode b_LineReader_addWord 104 = .ok (.iastore, 1) := by decide +kernel
theorem d_LineReader_addWord_105 : decode b_LineReader_addWord 105 = .ok (.return_, 1) := by decide +kernel
theorem br_ix {x y : Int32} {q : Nat} (e : x = nI q) (h : q < 512) : ∃ i, i < 1024 ∧ 2 * x + (y &&& 1) = nI i := by
  refine ⟨2 * q + y.toBitVec.toNat % 2 ^ 1, by omega, ?_⟩
  rw [e, pk_and y 1 (by decide), show (2 : Int32) = nI 2 from rfl, pk_mul, nI_add]
theorem mx_0 {x : Int32} (h : x.toInt < 512) : ∃ q, q < 512 ∧ (if 0 < x then x else 0) = nI q := by
  by_cases c : 0 < x
  · obtain ⟨j, hj, e⟩ := nI_of (x := x) (fun q => by rw [Int32.lt_iff_toInt_lt] at c q; simp at c q; omega)
    refine ⟨j, ?_, by rw [if_pos c, e]⟩
    rw [e, nI_toInt hj] at h; omega
  · exact ⟨0, by omega, by rw [if_neg c]; rfl⟩

abbrev at_c_bitsOf (dC : Nat → ClassId) (dI : Nat → Nat → Nat) (x : Int32) (w : Nat) (A : Nat → Prop) (u : Nat) (t : State) : Prop := match u with
  | k => va_P (dC, dI) vcl [] t.heap ∧ va_K (dC, dI) vcl [] t ∧ va_D A []
abbrev po_c_bitsOf (x : Int32) (w : Nat) (r : Int32) (u : Nat) : Prop := match u with
  | k => r = nI k ∧ k ≤ w
abbrev q_c_bitsOf (dC : Nat → ClassId) (dI : Nat → Nat → Nat) (x : Int32) (w : Nat) (A : Nat → Prop) : Array Value → State → Outcome → State → Prop := va_Qi (po_c_bitsOf x w) (at_c_bitsOf dC dI x w A) A
abbrev rm_c_bitsOf : Room := { frames := 0, cells := 0, slots := 0, locals := 0 }
set_option maxHeartbeats 4000000 in
set_option maxRecDepth 100000 in
theorem c_bitsOf (l : Launch) (dC : Nat → ClassId) (dI : Nat → Nat → Nat) (tt : Nat → Nat) (x : Int32) (w : Nat) (sz : Nat) (ex : x = nI w) (hw : w < 2147483648) : Met l y_Coder_bitsOf w_Coder_bitsOf rm_c_bitsOf (va_Pc [.int x] (fun U => U.heap.size = sz ∧ va_P (dC, dI) vcl [] U.heap ∧ va_K (dC, dI) vcl [] U ∧ va_D (fun _ => True) [] ∧ SF tt (va_A [] sz) U U.heap)) (q_c_bitsOf dC dI x w (va_A [] sz)) 0 0 (va_A [] sz) := by
  refine Met.ofW (cc := b_Coder_bitsOf) (maxL := 3) (ret := (some .int)) (by decide) rfl ?_
  intro p e s m args below meth c s₁ B hml hv
  obtain ⟨rfl, hsz, hP, hK, hD0, hF⟩ := hv
  have hx := B.exec
  have hb := B.bytes
  have hr := B.returns
  have hwd : ∀ w ∈ gT, w.before _ s = true := fun w h => atoms_spec (ws := w_Coder_bitsOf) B.pre w (List.mem_cons_of_mem _ h)
  have hown : s.vm.findClass R_Coder = some m.cls := findClass_of_methodNamed B.named
  have hlocks := B.notSynchronized
  subst hsz
  have hD := hD0.self (sz := s.heap.size)
  generalize hAe : va_A [] s.heap.size = A at hD hF ⊢
  have hA : ∀ q : Nat, s.heap.size ≤ q → A q := fun q h => by rw [← hAe]; exact Or.inr h
  have hS : va_S A s.heap s.heap [] := va_S.rf
  have hP : va_P (dC, dI) vcl [] s.heap := hP
  have hl := lv_entry ([.int x]) (n := 3) (Nat.le_of_ble_eq_true rfl)
  rw [lg_entry_eq]
  generalize (lg_sl ([.int x]) ++ List.replicate (3 - (lg_sl ([.int x])).length) Slot.unset).toArray = ls at hl ⊢
  have hl : lv_has ls 3 [(0, .int x)] := hl
  refine lv_iconst (v := 0) hx hb d_Coder_bitsOf_0 (by decide) ?_
  refine lv_istore_n (lv' := [(1, .int 0), (0, .int x)]) hx hb d_Coder_bitsOf_1 rfl hl (by decide) rfl ?_
  clear hl
  intro ls hl
  refine lv_iload_n hx hb d_Coder_bitsOf_2 rfl (lv_at hl 1 rfl) ?_
  refine lv_istore_n (lv' := [(2, .int x), (1, .int 0), (0, .int x)]) hx hb d_Coder_bitsOf_3 rfl hl (by decide) rfl ?_
  clear hl
  intro ls hl
  have cut4 : ∀ (n : Nat) (i : Nat) (z : Nat) (b1 : Int32) (b2 : Int32), (b1 = nI i) → (b2 = nI z) → (i + z ≤ w) → (z < n) → ∀ (H : Heap) (locs : List Loc) (ls : Array Slot), va_K (dC, dI) vcl [] s → va_P (dC, dI) vcl [] H → va_D A [] → va_S A s.heap H locs → lv_has ls 3 [(1, .int b1), (2, .int b2)] → W p l e (headSpec w_Coder_bitsOf rm_c_bitsOf).room s m (List.toArray [.int x]) below meth c H locs 0 0 (MQ below (q_c_bitsOf dC dI x w A) (List.toArray [.int x]) s 0 0 A) (F0 m 4 ls []) := by
    intro n
    induction n with
    | zero =>
      intro i z b1 b2 e1 e2 hz hm
      exact absurd hm (by omega)
    | succ n ih =>
      intro i z b1 b2 e1 e2 hz hm H locs ls hK hP hD hS hl
      refine lv_iload_n hx hb d_Coder_bitsOf_4 rfl (lv_at hl 1 rfl) ?_
      refine lv_iconst (v := 1) hx hb d_Coder_bitsOf_5 (by decide) ?_
      refine lv_icmp_le (tgt := 19) hx hb d_Coder_bitsOf_6 (by decide) (fun c6 => ?_) (fun c6 => ?_)
      · refine lv_iload_n hx hb d_Coder_bitsOf_19 rfl (lv_at hl 0 rfl) ?_
        have hP9 := hP.sub (ws' := []) [] rfl
        have hD9 := hD.sub (ws' := []) [] (by decide) rfl
        have hK9 := hK.sub (tys' := []) [] rfl
        exact W.iret (v := b1) hx hb hr (fun t ht hW => ⟨⟨b1, (i), rfl, (show (b1 : Int32) = nI (i : Nat) ∧ (i : Nat) ≤ w from (⟨e1, by omega⟩)), by rw [ht]; exact hP9, va_K.moved hW.alike hK9, hD9⟩, hS.F ht⟩) hS.2.2 d_Coder_bitsOf_20
      · have hz2 : 1 < z := Nat.lt_of_not_le (fun q => c6 (by rw [e2]; exact nI_le (b := 1) q (by omega)))
        refine lv_iinc (v := b1 + 1) (lv' := [(1, .int (b1 + 1)), (2, .int b2)]) hx hb d_Coder_bitsOf_9 hl (k := 0) rfl rfl (by decide) rfl ?_
        clear hl
        intro ls hl
        refine lv_iload_n hx hb d_Coder_bitsOf_12 rfl (lv_at hl 1 rfl) ?_
        refine lv_iconst (v := 1) hx hb d_Coder_bitsOf_13 (by decide) ?_
        refine lv_ishr hx hb d_Coder_bitsOf_14 ?_
        refine lv_istore_n (lv' := [(2, .int (b2 >>> (1 &&& 31))), (1, .int (b1 + 1))]) hx hb d_Coder_bitsOf_15 rfl hl (by decide) rfl ?_
        clear hl
        intro ls hl
        refine lv_goto (tgt := 4) hx hb d_Coder_bitsOf_16 (by decide) ?_
        exact ih (i + 1) (z / 2) (b1 + 1) (b2 >>> (1 &&& 31)) (by rw [e1]; exact nI_1 i) (by rw [e2]; exact pk_shrN (by omega) (1 &&& 31) 1 (by decide)) (by omega) (by omega) _ _ _ hK hP hD hS (lv_sub hl [1, 0] rfl)
  exact cut4 (w + 1) 0 w 0 x (rfl) (ex) (by omega) (by omega) _ _ _ hK hP hD hS (lv_sub hl [1, 0] rfl)

abbrev at_c_addWord (dC : Nat → ClassId) (dI : Nat → Nat → Nat) (h0 : Nat) (l_tree : Nat) (l_bytes : Nat) (l_at : Int32) (l_end : Int32) (l_turned : Int32) (l_above : Nat) (l_aboveCount : Int32) (l_line : Nat) (l_lineCount : Int32) (l_width : Int32) (l_a : Int32) (l_colour : Int32) (l_over : Int32) (l_run : Int32) (nd : Nat) (ct : ClassId) (f : Nat → Int32) (rt : Nat) (word : Int32) (mg : Int32) (w : Nat) (A : Nat → Prop) (u : (Nat → Int32) × Nat) (t : State) : Prop := match u with
  | (g, nd2) => va_P (dC, dI) vcl [(h0, .inr (5, [.ref l_tree, .int (nI nd2), .ref l_bytes, .int l_at, .int l_end, .int l_turned, .ref l_above, .int l_aboveCount, .ref l_line, .int l_lineCount, .int l_width, .int l_a, .int l_colour, .int l_over, .int l_run])), (l_tree, .inl (ct, 1024, .inl g))] t.heap ∧ va_K (dC, dI) vcl [(ct, .int)] t ∧ va_D A [(h0, .inr (5, [.ref l_tree, .int (nI nd2), .ref l_bytes, .int l_at, .int l_end, .int l_turned, .ref l_above, .int l_aboveCount, .ref l_line, .int l_lineCount, .int l_width, .int l_a, .int l_colour, .int l_over, .int l_run])), (l_tree, .inl (ct, 1024, .inl g))]
abbrev po_c_addWord (h0 : Nat) (l_tree : Nat) (l_bytes : Nat) (l_at : Int32) (l_end : Int32) (l_turned : Int32) (l_above : Nat) (l_aboveCount : Int32) (l_line : Nat) (l_lineCount : Int32) (l_width : Int32) (l_a : Int32) (l_colour : Int32) (l_over : Int32) (l_run : Int32) (nd : Nat) (ct : ClassId) (f : Nat → Int32) (rt : Nat) (word : Int32) (mg : Int32) (w : Nat) (u : (Nat → Int32) × Nat) : Prop := match u with
  | (g, nd2) => (∀ i, i < 1024 → (g i).toInt < 512) ∧ nd2 ≤ 512
abbrev q_c_addWord (dC : Nat → ClassId) (dI : Nat → Nat → Nat) (h0 : Nat) (l_tree : Nat) (l_bytes : Nat) (l_at : Int32) (l_end : Int32) (l_turned : Int32) (l_above : Nat) (l_aboveCount : Int32) (l_line : Nat) (l_lineCount : Int32) (l_width : Int32) (l_a : Int32) (l_colour : Int32) (l_over : Int32) (l_run : Int32) (nd : Nat) (ct : ClassId) (f : Nat → Int32) (rt : Nat) (word : Int32) (mg : Int32) (w : Nat) (A : Nat → Prop) : Array Value → State → Outcome → State → Prop := va_Qv (po_c_addWord h0 l_tree l_bytes l_at l_end l_turned l_above l_aboveCount l_line l_lineCount l_width l_a l_colour l_over l_run nd ct f rt word mg w) (at_c_addWord dC dI h0 l_tree l_bytes l_at l_end l_turned l_above l_aboveCount l_line l_lineCount l_width l_a l_colour l_over l_run nd ct f rt word mg w A) A
abbrev rm_c_addWord : Room := { frames := 1, cells := 0, slots := 0, locals := 22 }
set_option maxHeartbeats 4000000 in
set_option maxRecDepth 100000 in
theorem c_addWord (l : Launch) (dC : Nat → ClassId) (dI : Nat → Nat → Nat) (tt : Nat → Nat) (h0 : Nat) (l_tree : Nat) (l_bytes : Nat) (l_at : Int32) (l_end : Int32) (l_turned : Int32) (l_above : Nat) (l_aboveCount : Int32) (l_line : Nat) (l_lineCount : Int32) (l_width : Int32) (l_a : Int32) (l_colour : Int32) (l_over : Int32) (l_run : Int32) (nd : Nat) (ct : ClassId) (f : Nat → Int32) (rt : Nat) (word : Int32) (mg : Int32) (w : Nat) (sz : Nat) (hTI : ∀ i, i < 1024 → (f i).toInt < 512) (hNd : nd ≤ 512) (hrt : rt < 512) (ew : word = nI w) (hw : w < 65536) (hmg : (-1 - mg : Int32).toInt < 512) : Met l y_LineReader_addWord w_LineReader_addWord rm_c_addWord (va_Pc [.ref h0, .int (nI rt), .int word, .int mg] (fun U => U.heap.size = sz ∧ va_P (dC, dI) vcl [(h0, .inr (5, [.ref l_tree, .int (nI nd), .ref l_bytes, .int l_at, .int l_end, .int l_turned, .ref l_above, .int l_aboveCount, .ref l_line, .int l_lineCount, .int l_width, .int l_a, .int l_colour, .int l_over, .int l_run])), (l_tree, .inl (ct, 1024, .inl f))] U.heap ∧ va_K (dC, dI) vcl [(ct, .int)] U ∧ va_D (fun _ => True) [(h0, .inr (5, [.ref l_tree, .int (nI nd), .ref l_bytes, .int l_at, .int l_end, .int l_turned, .ref l_above, .int l_aboveCount, .ref l_line, .int l_lineCount, .int l_width, .int l_a, .int l_colour, .int l_over, .int l_run])), (l_tree, .inl (ct, 1024, .inl f))] ∧ SF tt (va_A [(h0, .inr (5, [.ref l_tree, .int (nI nd), .ref l_bytes, .int l_at, .int l_end, .int l_turned, .ref l_above, .int l_aboveCount, .ref l_line, .int l_lineCount, .int l_width, .int l_a, .int l_colour, .int l_over, .int l_run])), (l_tree, .inl (ct, 1024, .inl f))] sz) U U.heap)) (q_c_addWord dC dI h0 l_tree l_bytes l_at l_end l_turned l_above l_aboveCount l_line l_lineCount l_width l_a l_colour l_over l_run nd ct f rt word mg w (va_A [(h0, .inr (5, [.ref l_tree, .int (nI nd), .ref l_bytes, .int l_at, .int l_end, .int l_turned, .ref l_above, .int l_aboveCount, .ref l_line, .int l_lineCount, .int l_width, .int l_a, .int l_colour, .int l_over, .int l_run])), (l_tree, .inl (ct, 1024, .inl f))] sz)) 0 0 (va_A [(h0, .inr (5, [.ref l_tree, .int (nI nd), .ref l_bytes, .int l_at, .int l_end, .int l_turned, .ref l_above, .int l_aboveCount, .ref l_line, .int l_lineCount, .int l_width, .int l_a, .int l_colour, .int l_over, .int l_run])), (l_tree, .inl (ct, 1024, .inl f))] sz) := by
  refine Met.ofW (cc := b_LineReader_addWord) (maxL := 7) (ret := none) (by decide) rfl ?_
  intro p e s m args below meth c s₁ B hml hv
  obtain ⟨rfl, hsz, hP, hK, hD0, hF⟩ := hv
  have hx := B.exec
  have hb := B.bytes
  have hr := B.returns
  have hwd : ∀ w ∈ gT, w.before _ s = true := fun w h => atoms_spec (ws := w_LineReader_addWord) B.pre w (List.mem_cons_of_mem _ h)
  have hown : s.vm.findClass R_LineReader = some m.cls := findClass_of_methodNamed B.named
  have hlocks := B.notSynchronized
  subst hsz
  have hD := hD0.self (sz := s.heap.size)
  generalize hAe : va_A [(h0, .inr (5, [.ref l_tree, .int (nI nd), .ref l_bytes, .int l_at, .int l_end, .int l_turned, .ref l_above, .int l_aboveCount, .ref l_line, .int l_lineCount, .int l_width, .int l_a, .int l_colour, .int l_over, .int l_run])), (l_tree, .inl (ct, 1024, .inl f))] s.heap.size = A at hD hF ⊢
  have hA : ∀ q : Nat, s.heap.size ≤ q → A q := fun q h => by rw [← hAe]; exact Or.inr h
  have hS : va_S A s.heap s.heap [] := va_S.rf
  have hP : va_P (dC, dI) vcl [(h0, .inr (5, [.ref l_tree, .int (nI nd), .ref l_bytes, .int l_at, .int l_end, .int l_turned, .ref l_above, .int l_aboveCount, .ref l_line, .int l_lineCount, .int l_width, .int l_a, .int l_colour, .int l_over, .int l_run])), (l_tree, .inl (ct, 1024, .inl f))] s.heap := hP
  have hl := lv_entry ([.ref h0, .int (nI rt), .int word, .int mg]) (n := 7) (Nat.le_of_ble_eq_true rfl)
  rw [lg_entry_eq]
  generalize (lg_sl ([.ref h0, .int (nI rt), .int word, .int mg]) ++ List.replicate (7 - (lg_sl ([.ref h0, .int (nI rt), .int word, .int mg])).length) Slot.unset).toArray = ls at hl ⊢
  have hl : lv_has ls 7 [(0, .ref h0), (1, .int (nI rt)), (2, .int word), (3, .int mg)] := hl
  refine lv_iload_n hx hb d_LineReader_addWord_0 rfl (lv_at hl 1 rfl) ?_
  refine lv_istore (lv' := [(4, .int (nI rt)), (0, .ref h0), (1, .int (nI rt)), (2, .int word), (3, .int mg)]) hx hb d_LineReader_addWord_1 hl (by decide) rfl ?_
  clear hl
  intro ls hl
  refine lv_iload_n hx hb d_LineReader_addWord_3 rfl (lv_at hl 3 rfl) ?_
  have hPc := hP.sub (ws' := []) [] rfl
  have hDc := hD.sub (ws' := []) [] (by decide) rfl
  have hKc := hK.sub (tys' := []) [] rfl
  have hFc := va_free (wc := []) hD hS hA [] rfl
  refine va_calli (va_runS (As := [.int word]) (rest := []) ⟨hx, hb, hml, hown, hwd⟩ (c_bitsOf l dC dI tt word w s.heap.size (ew) (by omega)) (va_cwS 1 hwd (gS gd_Coder_bitsOf wd_4_50 wd_4_51 wd_1_14) rfl rfl rfl (by decide +kernel) ⟨Nat.le_of_ble_eq_true rfl, Nat.le_of_ble_eq_true rfl⟩) ⟨fun a U g mk q => by obtain ⟨q0, q1, qP, qK, qD, qF⟩ := q; exact ⟨q0, q1, qP, va_K.moved (u := U) (U := U.calling g mk a) (Vm.Alike.refl U.vm) qK, qD, SF.same (u := U) (U := U.calling g mk a) rfl qF⟩, fun U hU hW => ⟨rfl, by rw [hU], by rw [hU]; exact hPc, va_K.moved hW.alike hKc, hDc.weaken (fun _ _ _ _ => trivial), by rw [hU]; exact SF.narrow (SF.moved hW (SF.kept hF (fun a h1 h2 => hS.2.1 a h1 h2))) hFc⟩⟩ rfl rfl hl.1 rfl (lv_room (Nat.le_of_ble_eq_true rfl)) d_LineReader_addWord_4 ⟨Nat.le_of_ble_eq_true rfl, Nat.le_of_ble_eq_true rfl⟩) hS (fun q _ h => hFc q h) hFc ?_
  clear hPc hDc hKc hS
  intro r_1 u_2 t H1 locs ht hvm hw hB hz1 hk1 hS
  obtain ⟨k_3, rfl⟩ : ∃ z, z = u_2 := ⟨_, rfl⟩
  obtain ⟨hP1, hK1, hD1⟩ := hB
  rw [ht] at hP1
  have hK1 := va_K.moved hvm.symm hK1
  try dsimp only at hw
  have hJ := va_join (wr := [(h0, .inr (5, [.ref l_tree, .int (nI nd), .ref l_bytes, .int l_at, .int l_end, .int l_turned, .ref l_above, .int l_aboveCount, .ref l_line, .int l_lineCount, .int l_width, .int l_a, .int l_colour, .int l_over, .int l_run])), (l_tree, .inl (ct, 1024, .inl f))]) (w1 := []) hP hD [] [0, 1] rfl rfl (by decide) (by decide) hk1 hFc hP1 hD1
  clear hP hD hk1 hFc hP1 hD1 hz1
  obtain ⟨hP, hD⟩ := hJ
  clear hK1 ht hvm
  generalize H1 = H at hP hS ⊢
  replace hP : va_P (dC, dI) vcl [(h0, .inr (5, [.ref l_tree, .int (nI nd), .ref l_bytes, .int l_at, .int l_end, .int l_turned, .ref l_above, .int l_aboveCount, .ref l_line, .int l_lineCount, .int l_width, .int l_a, .int l_colour, .int l_over, .int l_run])), (l_tree, .inl (ct, 1024, .inl f))] H := hP
  replace hD : va_D A [(h0, .inr (5, [.ref l_tree, .int (nI nd), .ref l_bytes, .int l_at, .int l_end, .int l_turned, .ref l_above, .int l_aboveCount, .ref l_line, .int l_lineCount, .int l_width, .int l_a, .int l_colour, .int l_over, .int l_run])), (l_tree, .inl (ct, 1024, .inl f))] := hD
  obtain ⟨r_1e, r_1h⟩ := hw
  refine lv_iconst (v := 1) hx hb d_LineReader_addWord_7 (by decide) ?_
  refine lv_isub hx hb d_LineReader_addWord_8 ?_
  refine lv_istore (lv' := [(5, .int (r_1 - 1)), (4, .int (nI rt)), (0, .ref h0), (1, .int (nI rt)), (2, .int word), (3, .int mg)]) hx hb d_LineReader_addWord_9 hl (by decide) rfl ?_
  clear hl
  intro ls hl
  have cut11 : ∀ (n : Nat) (j : Nat) (q : Nat) (x4 : Int32) (bt : Int32) (nc : Nat) (fc : Nat → Int32), (x4 = nI q) → (q < 512) → (bt = nI j - 1) → (∀ i, i < 1024 → (fc i).toInt < 512) → (nc ≤ 512) → (j < n) → ∀ (H : Heap) (locs : List Loc) (ls : Array Slot), va_K (dC, dI) vcl [(ct, .int)] s → va_P (dC, dI) vcl [(h0, .inr (5, [.ref l_tree, .int (nI nc), .ref l_bytes, .int l_at, .int l_end, .int l_turned, .ref l_above, .int l_aboveCount, .ref l_line, .int l_lineCount, .int l_width, .int l_a, .int l_colour, .int l_over, .int l_run])), (l_tree, .inl (ct, 1024, .inl fc))] H → va_D A [(h0, .inr (5, [.ref l_tree, .int (nI nc), .ref l_bytes, .int l_at, .int l_end, .int l_turned, .ref l_above, .int l_aboveCount, .ref l_line, .int l_lineCount, .int l_width, .int l_a, .int l_colour, .int l_over, .int l_run])), (l_tree, .inl (ct, 1024, .inl fc))] → va_S A s.heap H locs → lv_has ls 7 [(0, .ref h0), (2, .int word), (3, .int mg), (4, .int x4), (5, .int bt)] → W p l e (headSpec w_LineReader_addWord rm_c_addWord).room s m (List.toArray [.ref h0, .int (nI rt), .int word, .int mg]) below meth c H locs 0 0 (MQ below (q_c_addWord dC dI h0 l_tree l_bytes l_at l_end l_turned l_above l_aboveCount l_line l_lineCount l_width l_a l_colour l_over l_run nd ct f rt word mg w A) (List.toArray [.ref h0, .int (nI rt), .int word, .int mg]) s 0 0 A) (F0 m 11 ls []) := by
    intro n
    induction n with
    | zero =>
      intro j q x4 bt nc fc e4 hq e5 hTc hNc hm
      exact absurd hm (by omega)
    | succ n ih =>
      intro j q x4 bt nc fc e4 hq e5 hTc hNc hm H locs ls hK hP hD hS hl
      refine lv_iload hx hb d_LineReader_addWord_11 (lv_at hl 4 rfl) ?_
      refine lv_if_le (tgt := 89) hx hb d_LineReader_addWord_13 (by decide) (fun c13 => ?_) (fun c13 => ?_)
      · refine lv_aload_n hx hb d_LineReader_addWord_89 rfl (lv_at hl 0 rfl) ?_
        refine va_get (D := (dC, dI)) (ci := 5) (v := .ref l_tree) (C := R_LineReader) (T := F_LineReader) (N := 15) hx hb hwd i_LineReader hown hK hP 0 rfl rfl 0 (by decide) (hwd _ wd_4_70) (fun _ h9 => h9) rfl d_LineReader_addWord_90 ?_
        refine lv_iconst (v := 2) hx hb d_LineReader_addWord_93 (by decide) ?_
        refine lv_iload hx hb d_LineReader_addWord_94 (lv_at hl 3 rfl) ?_
        refine lv_imul hx hb d_LineReader_addWord_96 ?_
        refine lv_iload_n hx hb d_LineReader_addWord_97 rfl (lv_at hl 1 rfl) ?_
        refine lv_iconst (v := 1) hx hb d_LineReader_addWord_98 (by decide) ?_
        refine lv_iand hx hb d_LineReader_addWord_99 ?_
        obtain ⟨ix, hix, eix⟩ := br_ix (y := word) e4 hq
        refine lv_iadd hx hb d_LineReader_addWord_100 ?_
        refine lv_topi (fun y_4 ey_4 => ?_)
        obtain rfl : y_4 = nI ix := ey_4.trans (eix)
        refine lv_iconst (v := (-1)) hx hb d_LineReader_addWord_101 (by decide) ?_
        refine lv_iload_n hx hb d_LineReader_addWord_102 rfl (lv_at hl 2 rfl) ?_
        refine lv_isub hx hb d_LineReader_addWord_103 ?_
        refine va_iast hx hb hK hP hD hS 1 0 rfl rfl (vp_in_nI hix (by omega)) d_LineReader_addWord_104 ?_
        clear hP hD hS
        intro H locs hP hD hS
        rw [show (nI ix).toNatClampNeg = ix from nI_clamp (by omega)] at hP hD
        replace hP : va_P (dC, dI) vcl [(h0, .inr (5, [.ref l_tree, .int (nI nc), .ref l_bytes, .int l_at, .int l_end, .int l_turned, .ref l_above, .int l_aboveCount, .ref l_line, .int l_lineCount, .int l_width, .int l_a, .int l_colour, .int l_over, .int l_run])), (l_tree, .inl (ct, 1024, .inl (upd fc ix ((-1) - mg))))] H := hP
        replace hD : va_D A [(h0, .inr (5, [.ref l_tree, .int (nI nc), .ref l_bytes, .int l_at, .int l_end, .int l_turned, .ref l_above, .int l_aboveCount, .ref l_line, .int l_lineCount, .int l_width, .int l_a, .int l_colour, .int l_over, .int l_run])), (l_tree, .inl (ct, 1024, .inl (upd fc ix ((-1) - mg))))] := hD
        have hP9 := hP.sub (ws' := [(h0, .inr (5, [.ref l_tree, .int (nI nc), .ref l_bytes, .int l_at, .int l_end, .int l_turned, .ref l_above, .int l_aboveCount, .ref l_line, .int l_lineCount, .int l_width, .int l_a, .int l_colour, .int l_over, .int l_run])), (l_tree, .inl (ct, 1024, .inl (upd fc ix ((-1) - mg))))]) [0, 1] rfl
        have hD9 := hD.sub (ws' := [(h0, .inr (5, [.ref l_tree, .int (nI nc), .ref l_bytes, .int l_at, .int l_end, .int l_turned, .ref l_above, .int l_aboveCount, .ref l_line, .int l_lineCount, .int l_width, .int l_a, .int l_colour, .int l_over, .int l_run])), (l_tree, .inl (ct, 1024, .inl (upd fc ix ((-1) - mg))))]) [0, 1] (by decide) rfl
        have hK9 := hK.sub (tys' := [(ct, .int)]) [0] rfl
        exact W.vret hx hb hr (fun t ht hW => ⟨⟨(upd fc ix ((-1) - mg), nc), rfl, (show (∀ i, i < 1024 → ((upd fc ix ((-1) - mg) : Nat → Int32) i).toInt < 512) ∧ (nc : Nat) ≤ 512 from (⟨fun i hi => if e : i = ix then (by rw [e, pk_us]; exact hmg) else (by rw [pk_un e]; exact hTc i hi), hNc⟩)), by rw [ht]; exact hP9, va_K.moved hW.alike hK9, hD9⟩, hS.F ht⟩) hS.2.2 d_LineReader_addWord_105
      · have hj : 2 ≤ j := by
          rcases Nat.lt_or_ge j 2 with q9 | q9
          · exact absurd (by rcases (show j = 0 ∨ j = 1 by omega) with rfl | rfl <;> (rw [e5]; decide)) c13
          · exact q9
        refine lv_iconst (v := 2) hx hb d_LineReader_addWord_16 (by decide) ?_
        refine lv_iload hx hb d_LineReader_addWord_17 (lv_at hl 3 rfl) ?_
        refine lv_imul hx hb d_LineReader_addWord_19 ?_
        refine lv_iload_n hx hb d_LineReader_addWord_20 rfl (lv_at hl 1 rfl) ?_
        refine lv_iload hx hb d_LineReader_addWord_21 (lv_at hl 4 rfl) ?_
        refine lv_ishr hx hb d_LineReader_addWord_23 ?_
        refine lv_iconst (v := 1) hx hb d_LineReader_addWord_24 (by decide) ?_
        refine lv_iand hx hb d_LineReader_addWord_25 ?_
        obtain ⟨ix, hix, eix⟩ := br_ix (y := word >>> (bt &&& 31)) e4 hq
        refine lv_iadd hx hb d_LineReader_addWord_26 ?_
        refine lv_topi (fun y_5 ey_5 => ?_)
        obtain rfl : y_5 = nI ix := ey_5.trans (eix)
        refine lv_istore (lv' := [(6, .int (nI ix)), (0, .ref h0), (2, .int word), (3, .int mg), (4, .int x4), (5, .int bt)]) hx hb d_LineReader_addWord_27 hl (by decide) rfl ?_
        clear hl
        intro ls hl
        have cut70 : ∀ (n7 : Nat) (f7 : Nat → Int32), (∀ i, i < 1024 → (f7 i).toInt < 512) → (n7 ≤ 512) → ∀ (H : Heap) (locs : List Loc) (ls : Array Slot), va_K (dC, dI) vcl [(ct, .int)] s → va_P (dC, dI) vcl [(h0, .inr (5, [.ref l_tree, .int (nI n7), .ref l_bytes, .int l_at, .int l_end, .int l_turned, .ref l_above, .int l_aboveCount, .ref l_line, .int l_lineCount, .int l_width, .int l_a, .int l_colour, .int l_over, .int l_run])), (l_tree, .inl (ct, 1024, .inl f7))] H → va_D A [(h0, .inr (5, [.ref l_tree, .int (nI n7), .ref l_bytes, .int l_at, .int l_end, .int l_turned, .ref l_above, .int l_aboveCount, .ref l_line, .int l_lineCount, .int l_width, .int l_a, .int l_colour, .int l_over, .int l_run])), (l_tree, .inl (ct, 1024, .inl f7))] → va_S A s.heap H locs → lv_has ls 7 [(0, .ref h0), (2, .int word), (3, .int mg), (5, .int bt), (6, .int (nI ix))] → W p l e (headSpec w_LineReader_addWord rm_c_addWord).room s m (List.toArray [.ref h0, .int (nI rt), .int word, .int mg]) below meth c H locs 0 0 (MQ below (q_c_addWord dC dI h0 l_tree l_bytes l_at l_end l_turned l_above l_aboveCount l_line l_lineCount l_width l_a l_colour l_over l_run nd ct f rt word mg w A) (List.toArray [.ref h0, .int (nI rt), .int word, .int mg]) s 0 0 A) (F0 m 70 ls []) := by
          intro n7 f7 hT7 hN7 H locs ls hK hP hD hS hl
          refine lv_iconst (v := 0) hx hb d_LineReader_addWord_70 (by decide) ?_
          refine lv_aload_n hx hb d_LineReader_addWord_71 rfl (lv_at hl 0 rfl) ?_
          refine va_get (D := (dC, dI)) (ci := 5) (v := .ref l_tree) (C := R_LineReader) (T := F_LineReader) (N := 15) hx hb hwd i_LineReader hown hK hP 0 rfl rfl 0 (by decide) (hwd _ wd_4_70) (fun _ h9 => h9) rfl d_LineReader_addWord_72 ?_
          refine lv_iload hx hb d_LineReader_addWord_75 (lv_at hl 4 rfl) ?_
          refine va_iald hx hb hK hP 1 0 rfl rfl (vp_in_nI hix (by omega)) d_LineReader_addWord_77 ?_
          refine lv_topi (fun y_6 ey_6 => ?_)
          obtain rfl : y_6 = f7 ix := ey_6.trans (by rw [nI_clamp (by omega)])
          refine va_mmax hx hb (hml.trans hl.1.symm) hown (hwd _ wd_4_53) (hwd _ wd_1_179) (hwd _ wd_1_3) (hwd _ wd_1_180) (Nat.le_of_ble_eq_true rfl) (Nat.le_of_ble_eq_true rfl) (Nat.le_of_ble_eq_true rfl) (Nat.le_of_ble_eq_true rfl) d_LineReader_addWord_78 ?_
          obtain ⟨q2, hq2, eq2⟩ := mx_0 (hT7 ix hix)
          refine lv_istore (lv' := [(4, .int (if 0 < (f7 ix) then (f7 ix) else 0)), (0, .ref h0), (2, .int word), (3, .int mg), (5, .int bt), (6, .int (nI ix))]) hx hb d_LineReader_addWord_81 hl (by decide) rfl ?_
          clear hl
          intro ls hl
          refine lv_iinc (v := bt + (-1)) (lv' := [(5, .int (bt + (-1))), (4, .int (if 0 < (f7 ix) then (f7 ix) else 0)), (0, .ref h0), (2, .int word), (3, .int mg), (6, .int (nI ix))]) hx hb d_LineReader_addWord_83 hl (k := 4) rfl rfl (by decide) rfl ?_
          clear hl
          intro ls hl
          refine lv_goto (tgt := 11) hx hb d_LineReader_addWord_86 (by decide) ?_
          exact ih (j - 1) q2 (if 0 < (f7 ix) then (f7 ix) else 0) (bt + (-1)) n7 f7 (eq2) (hq2) (by obtain ⟨i, rfl⟩ : ∃ i, j = i + 1 := ⟨j - 1, by omega⟩; rw [e5, nI_pred, Nat.add_sub_cancel, Int32.sub_eq_add_neg]) (hT7) (hN7) (by omega) _ _ _ hK hP hD hS (lv_sub hl [2, 3, 4, 1, 0] rfl)
        refine lv_aload_n hx hb d_LineReader_addWord_29 rfl (lv_at hl 1 rfl) ?_
        refine va_get (D := (dC, dI)) (ci := 5) (v := .ref l_tree) (C := R_LineReader) (T := F_LineReader) (N := 15) hx hb hwd i_LineReader hown hK hP 0 rfl rfl 0 (by decide) (hwd _ wd_4_70) (fun _ h9 => h9) rfl d_LineReader_addWord_30 ?_
        refine lv_iload hx hb d_LineReader_addWord_33 (lv_at hl 0 rfl) ?_
        refine va_iald hx hb hK hP 1 0 rfl rfl (vp_in_nI hix (by omega)) d_LineReader_addWord_35 ?_
        refine lv_topi (fun y_7 ey_7 => ?_)
        obtain rfl : y_7 = fc ix := ey_7.trans (by rw [nI_clamp (by omega)])
        refine lv_if_ne (tgt := 70) hx hb d_LineReader_addWord_36 (by decide) (fun c36 => ?_) (fun c36 => ?_)
        · exact cut70 nc fc (by first | exact hTc | exact fun i hi => if e : i = ix then (by rw [e, pk_us, nI_toInt (by omega)]; omega) else (by rw [pk_un e]; exact hTc i hi)) (by omega) _ _ _ hK hP hD hS (lv_sub hl [1, 2, 3, 5, 0] rfl)
        · refine lv_aload_n hx hb d_LineReader_addWord_39 rfl (lv_at hl 1 rfl) ?_
          refine va_get (D := (dC, dI)) (ci := 5) (v := .int (nI nc)) (C := R_LineReader) (T := F_LineReader) (N := 15) hx hb hwd i_LineReader hown hK hP 0 rfl rfl 1 (by decide) (hwd _ wd_4_71) (fun _ h9 => h9) rfl d_LineReader_addWord_40 ?_
          refine lv_sipush (v := 512) hx hb d_LineReader_addWord_43 (by decide) ?_
          refine lv_icmp_ge (tgt := 70) hx hb d_LineReader_addWord_46 (by decide) (fun c46 => ?_) (fun c46 => ?_)
          · exact cut70 nc fc (by first | exact hTc | exact fun i hi => if e : i = ix then (by rw [e, pk_us, nI_toInt (by omega)]; omega) else (by rw [pk_un e]; exact hTc i hi)) (by omega) _ _ _ hK hP hD hS (lv_sub hl [1, 2, 3, 5, 0] rfl)
          · have hn5 : nc < 512 := by
              rcases Nat.lt_or_ge nc 512 with q9 | q9
              · exact q9
              · exact absurd (nI_le (a := 512) q9 (by omega)) c46
            refine lv_aload_n hx hb d_LineReader_addWord_49 rfl (lv_at hl 1 rfl) ?_
            refine va_get (D := (dC, dI)) (ci := 5) (v := .ref l_tree) (C := R_LineReader) (T := F_LineReader) (N := 15) hx hb hwd i_LineReader hown hK hP 0 rfl rfl 0 (by decide) (hwd _ wd_4_70) (fun _ h9 => h9) rfl d_LineReader_addWord_50 ?_
            refine lv_iload hx hb d_LineReader_addWord_53 (lv_at hl 0 rfl) ?_
            refine lv_aload_n hx hb d_LineReader_addWord_55 rfl (lv_at hl 1 rfl) ?_
            refine va_get (D := (dC, dI)) (ci := 5) (v := .int (nI nc)) (C := R_LineReader) (T := F_LineReader) (N := 15) hx hb hwd i_LineReader hown hK hP 0 rfl rfl 1 (by decide) (hwd _ wd_4_71) (fun _ h9 => h9) rfl d_LineReader_addWord_56 ?_
            refine va_iast hx hb hK hP hD hS 1 0 rfl rfl (vp_in_nI hix (by omega)) d_LineReader_addWord_59 ?_
            clear hP hD hS
            intro H locs hP hD hS
            rw [show (nI ix).toNatClampNeg = ix from nI_clamp (by omega)] at hP hD
            replace hP : va_P (dC, dI) vcl [(h0, .inr (5, [.ref l_tree, .int (nI nc), .ref l_bytes, .int l_at, .int l_end, .int l_turned, .ref l_above, .int l_aboveCount, .ref l_line, .int l_lineCount, .int l_width, .int l_a, .int l_colour, .int l_over, .int l_run])), (l_tree, .inl (ct, 1024, .inl (upd fc ix (nI nc))))] H := hP
            replace hD : va_D A [(h0, .inr (5, [.ref l_tree, .int (nI nc), .ref l_bytes, .int l_at, .int l_end, .int l_turned, .ref l_above, .int l_aboveCount, .ref l_line, .int l_lineCount, .int l_width, .int l_a, .int l_colour, .int l_over, .int l_run])), (l_tree, .inl (ct, 1024, .inl (upd fc ix (nI nc))))] := hD
            refine lv_aload_n hx hb d_LineReader_addWord_60 rfl (lv_at hl 1 rfl) ?_
            refine lv_dup hx hb d_LineReader_addWord_61 rfl ?_
            refine va_get (D := (dC, dI)) (ci := 5) (v := .int (nI nc)) (C := R_LineReader) (T := F_LineReader) (N := 15) hx hb hwd i_LineReader hown hK hP 0 rfl rfl 1 (by decide) (hwd _ wd_4_71) (fun _ h9 => h9) rfl d_LineReader_addWord_62 ?_
            refine lv_iconst (v := 1) hx hb d_LineReader_addWord_65 (by decide) ?_
            refine lv_iadd hx hb d_LineReader_addWord_66 ?_
            refine lv_topi (fun y_8 ey_8 => ?_)
            obtain rfl : y_8 = nI (nc + 1) := ey_8.trans (nI_1 nc)
            refine va_put (D := (dC, dI)) (ci := 5) (v := .int (nI (nc + 1))) (ty := .int) (C := R_LineReader) (T := F_LineReader) (N := 15) hx hb hwd i_LineReader t_LineReader to_LineReader no_LineReader hown hK hP hD hS 0 rfl rfl 1 (by decide) (hwd _ wd_4_71) (fun _ h9 => h9) rfl (by decide +kernel) rfl rfl (Nat.le_of_ble_eq_true rfl) d_LineReader_addWord_67 ?_
            clear hP hD hS
            intro H locs hP hD hS
            replace hP : va_P (dC, dI) vcl [(h0, .inr (5, [.ref l_tree, .int (nI (nc + 1)), .ref l_bytes, .int l_at, .int l_end, .int l_turned, .ref l_above, .int l_aboveCount, .ref l_line, .int l_lineCount, .int l_width, .int l_a, .int l_colour, .int l_over, .int l_run])), (l_tree, .inl (ct, 1024, .inl (upd fc ix (nI nc))))] H := hP
            replace hD : va_D A [(h0, .inr (5, [.ref l_tree, .int (nI (nc + 1)), .ref l_bytes, .int l_at, .int l_end, .int l_turned, .ref l_above, .int l_aboveCount, .ref l_line, .int l_lineCount, .int l_width, .int l_a, .int l_colour, .int l_over, .int l_run])), (l_tree, .inl (ct, 1024, .inl (upd fc ix (nI nc))))] := hD
            exact cut70 (nc + 1) (upd fc ix (nI nc)) (by first | exact hTc | exact fun i hi => if e : i = ix then (by rw [e, pk_us, nI_toInt (by omega)]; omega) else (by rw [pk_un e]; exact hTc i hi)) (by omega) _ _ _ hK hP hD hS (lv_sub hl [1, 2, 3, 5, 0] rfl)
  exact cut11 (k_3 + 1) k_3 rt (nI rt) (r_1 - 1) nd f (rfl) (hrt) (by rw [r_1e]) (hTI) (hNd) (Nat.lt_succ_self _) _ _ _ hK hP hD hS (lv_sub hl [2, 4, 5, 1, 0] rfl)
