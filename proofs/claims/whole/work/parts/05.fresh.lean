theorem wd_1_13 : (Jvm.Cond.initialized "SheetPrinter$OutFile") ∈ gT := gT_in (in_1 _ (List.mem_of_getElem? (i := 13) rfl)) rfl
theorem wd_2_40 : (Jvm.Cond.code ({ cls := "java/util/Arrays", name := "fill", desc := "([II)V" } : Jvm.MethodName) prog_30_method_103_code (4 : Nat) (Option.none : Option Jvm.ClassFile.FieldType)) ∈ gT := gT_in (in_2 _ (List.mem_of_getElem? (i := 40) rfl)) rfl
theorem wd_3_217 : (Jvm.Cond.fieldLink "SheetPrinter$OutFile" (18 : Nat) "SheetPrinter$OutFile" "length" "I") ∈ gT := gT_in (in_3 _ (List.mem_of_getElem? (i := 217) rfl)) rfl
theorem wd_3_220 : (Jvm.Cond.fieldLink "SheetPrinter$OutFile" (22 : Nat) "SheetPrinter$OutFile" "pages" "I") ∈ gT := gT_in (in_3 _ (List.mem_of_getElem? (i := 220) rfl)) rfl
theorem wd_3_223 : (Jvm.Cond.fieldLink "SheetPrinter$OutFile" (29 : Nat) "SheetPrinter$OutFile" "link" "I") ∈ gT := gT_in (in_3 _ (List.mem_of_getElem? (i := 223) rfl)) rfl
theorem wd_4_121 : (Jvm.Cond.code ({ cls := "SheetPrinter$OutFile", name := "begin", desc := "()V" } : Jvm.MethodName) prog_7_method_2_code (1 : Nat) (Option.none : Option Jvm.ClassFile.FieldType)) ∈ gT := gT_in (in_4 _ (List.mem_of_getElem? (i := 121) rfl)) rfl
theorem wd_4_122 : (Jvm.Cond.methodLink "SheetPrinter$OutFile" (25 : Nat) ({ cls := "SheetPrinter$OutFile", name := "putNumber", desc := "(II)V" } : Jvm.MethodName)) ∈ gT := gT_in (in_4 _ (List.mem_of_getElem? (i := 122) rfl)) rfl
theorem wd_4_124 : (Jvm.Cond.instanceMethod ({ cls := "SheetPrinter$OutFile", name := "putNumber", desc := "(II)V" } : Jvm.MethodName)) ∈ gT := gT_in (in_4 _ (List.mem_of_getElem? (i := 124) rfl)) rfl
theorem wd_4_125 : (Jvm.Cond.code ({ cls := "SheetPrinter$OutFile", name := "putNumber", desc := "(II)V" } : Jvm.MethodName) prog_7_method_12_code (4 : Nat) (Option.none : Option Jvm.ClassFile.FieldType)) ∈ gT := gT_in (in_4 _ (List.mem_of_getElem? (i := 125) rfl)) rfl
theorem ws_21 : Cond.selects "SheetPrinter$OutFile" ⟨"SheetPrinter$OutFile", "putNumber", "(II)V"⟩ ⟨"SheetPrinter$OutFile", "putNumber", "(II)V"⟩ ∈ gT := gT_in (List.mem_append_left _ (List.mem_of_getElem? (i := 21) rfl)) rfl

abbrev b_JArrays_fill1 : ByteArray := prog_30_method_103_code
abbrev y_JArrays_fill1 : MethodName := ⟨"java/util/Arrays", "fill", "([II)V"⟩
abbrev w_JArrays_fill1 : List Cond := .code y_JArrays_fill1 b_JArrays_fill1 4 none :: gT
theorem gd_JArrays_fill1 : GoodIn gT w_JArrays_fill1 := gW wd_2_40
theorem d_JArrays_fill1_0 : decode b_JArrays_fill1 0 = .ok (.iconst 0, 1) := by decide +kernel
theorem d_JArrays_fill1_1 : decode b_JArrays_fill1 1 = .ok (.istore_n 2, 1) := by decide +kernel
theorem d_JArrays_fill1_2 : decode b_JArrays_fill1 2 = .ok (.aload_n 0, 1) := by decide +kernel
theorem d_JArrays_fill1_3 : decode b_JArrays_fill1 3 = .ok (.arraylength, 1) := by decide +kernel
theorem d_JArrays_fill1_4 : decode b_JArrays_fill1 4 = .ok (.istore_n 3, 1) := by decide +kernel
theorem d_JArrays_fill1_5 : decode b_JArrays_fill1 5 = .ok (.iload_n 2, 1) := by decide +kernel
theorem d_JArrays_fill1_6 : decode b_JArrays_fill1 6 = .ok (.iload_n 3, 1) := by decide +kernel
theorem d_JArrays_fill1_7 : decode b_JArrays_fill1 7 = .ok (.if_icmp .ge 13, 3) := by decide +kernel
theorem d_JArrays_fill1_10 : decode b_JArrays_fill1 10 = .ok (.aload_n 0, 1) := by decide +kernel
theorem d_JArrays_fill1_11 : decode b_JArrays_fill1 11 = .ok (.iload_n 2, 1) := by decide +kernel
theorem d_JArrays_fill1_12 : decode b_JArrays_fill1 12 = .ok (.iload_n 1, 1) := by decide +kernel
theorem d_JArrays_fill1_13 : decode b_JArrays_fill1 13 = .ok (.iastore, 1) := by decide +kernel
theorem d_JArrays_fill1_14 : decode b_JArrays_fill1 14 = .ok (.iinc 2 1, 3) := by decide +kernel
theorem d_JArrays_fill1_17 : decode b_JArrays_fill1 17 = .ok (.goto (-12), 3) := by decide +kernel
theorem d_JArrays_fill1_20 : decode b_JArrays_fill1 20 = .ok (.return_, 1) := by decide +kernel
abbrev b_OutFile_putNumber : ByteArray := prog_7_method_12_code
abbrev y_OutFile_putNumber : MethodName := ⟨"SheetPrinter$OutFile", "putNumber", "(II)V"⟩
abbrev w_OutFile_putNumber : List Cond := .code y_OutFile_putNumber b_OutFile_putNumber 4 none :: gT
theorem gd_OutFile_putNumber : GoodIn gT w_OutFile_putNumber := gW wd_4_125
theorem d_OutFile_putNumber_0 : decode b_OutFile_putNumber 0 = .ok (.iconst 0, 1) := by decide +kernel
theorem d_OutFile_putNumber_1 : decode b_OutFile_putNumber 1 = .ok (.istore_n 3, 1) := by decide +kernel
theorem d_OutFile_putNumber_2 : decode b_OutFile_putNumber 2 = .ok (.iload_n 3, 1) := by decide +kernel
theorem d_OutFile_putNumber_3 : decode b_OutFile_putNumber 3 = .ok (.iload_n 2, 1) := by decide +kernel
theorem d_OutFile_putNumber_4 : decode b_OutFile_putNumber 4 = .ok (.if_icmp .ge 47, 3) := by decide +kernel
theorem d_OutFile_putNumber_7 : decode b_OutFile_putNumber 7 = .ok (.aload_n 0, 1) := by decide +kernel
theorem d_OutFile_putNumber_8 : decode b_OutFile_putNumber 8 = .ok (.getfield 18, 3) := by decide +kernel
theorem d_OutFile_putNumber_11 : decode b_OutFile_putNumber 11 = .ok (.aload_n 0, 1) := by decide +kernel
theorem d_OutFile_putNumber_12 : decode b_OutFile_putNumber 12 = .ok (.getfield 10, 3) := by decide +kernel
theorem d_OutFile_putNumber_15 : decode b_OutFile_putNumber 15 = .ok (.arraylength, 1) := by decide +kernel
theorem d_OutFile_putNumber_16 : decode b_OutFile_putNumber 16 = .ok (.if_icmp .ge 35, 3) := by decide +kernel
theorem d_OutFile_putNumber_19 : decode b_OutFile_putNumber 19 = .ok (.aload_n 0, 1) := by decide +kernel
theorem d_OutFile_putNumber_20 : decode b_OutFile_putNumber 20 = .ok (.getfield 10, 3) := by decide +kernel
theorem d_OutFile_putNumber_23 : decode b_OutFile_putNumber 23 = .ok (.aload_n 0, 1) := by decide +kernel
theorem d_OutFile_putNumber_24 : decode b_OutFile_putNumber 24 = .ok (.getfield 18, 3) := by decide +kernel
theorem d_OutFile_putNumber_27 : decode b_OutFile_putNumber 27 = .ok (.iload_n 1, 1) := by decide +kernel
theorem d_OutFile_putNumber_28 : decode b_OutFile_putNumber 28 = .ok (.bipush 8, 2) := by decide +kernel
theorem d_OutFile_putNumber_30 : decode b_OutFile_putNumber 30 = .ok (.iload_n 3, 1) := by decide +kernel
theorem d_OutFile_putNumber_31 : decode b_OutFile_putNumber 31 = .ok (.imul, 1) := by decide +kernel
theorem d_OutFile_putNumber_32 : decode b_OutFile_putNumber 32 = .ok (.ishr, 1) := by decide +kernel
theorem d_OutFile_putNumber_33 : decode b_OutFile_putNumber 33 = .ok (.i2b, 1) := by decide +kernel
theorem d_OutFile_putNumber_34 : decode b_OutFile_putNumber 34 = .ok (.bastore, 1) := by decide +kernel
theorem d_OutFile_putNumber_35 : decode b_OutFile_putNumber 35 = .ok (.aload_n 0, 1) := by decide +kernel
theorem d_OutFile_putNumber_36 : decode b_OutFile_putNumber 36 = .ok (.dup, 1) := by decide +kernel
theorem d_OutFile_putNumber_37 : decode b_OutFile_putNumber 37 = .ok (.getfield 18, 3) := by decide +kernel
theorem d_OutFile_putNumber_40 : decode b_OutFile_putNumber 40 = .ok (.iconst 1, 1) := by decide +kernel
theorem d_OutFile_putNumber_41 : decode b_OutFile_putNumber 41 = .ok (.iadd, 1) := by decide +kernel
theorem d_OutFile_putNumber_42 : decode b_OutFile_putNumber 42 = .ok (.putfield 18, 3) := by decide +kernel
theorem d_OutFile_putNumber_45 : decode b_OutFile_putNumber 45 = .ok (.iinc 3 1, 3) := by decide +kernel
theorem d_OutFile_putNumber_48 : decode b_OutFile_putNumber 48 = .ok (.goto (-46), 3) := by decide +kernel
theorem d_OutFile_putNumber_51 : decode b_OutFile_putNumber 51 = .ok (.return_, 1) := by decide +kernel
abbrev b_OutFile_begin : ByteArray := prog_7_method_2_code
abbrev y_OutFile_begin : MethodName := ⟨"SheetPrinter$OutFile", "begin", "()V"⟩
abbrev w_OutFile_begin : List Cond := .code y_OutFile_begin b_OutFile_begin 1 none :: gT
theorem gd_OutFile_begin : GoodIn gT w_OutFile_begin := gW wd_4_121
theorem d_OutFile_begin_0 : decode b_OutFile_begin 0 = .ok (.aload_n 0, 1) := by decide +kernel
theorem d_OutFile_begin_1 : decode b_OutFile_begin 1 = .ok (.iconst 0, 1) := by decide +kernel
theorem d_OutFile_begin_2 : decode b_OutFile_begin 2 = .ok (.putfield 18, 3) := by decide +kernel
theorem d_OutFile_begin_5 : decode b_OutFile_begin 5 = .ok (.aload_n 0, 1) := by decide +kernel
theorem d_OutFile_begin_6 : decode b_OutFile_begin 6 = .ok (.iconst 0, 1) := by decide +kernel
theorem d_OutFile_begin_7 : decode b_OutFile_begin 7 = .ok (.putfield 22, 3) := by decide +kernel
theorem d_OutFile_begin_10 : decode b_OutFile_begin 10 = .ok (.aload_n 0, 1) := by decide +kernel
theorem d_OutFile_begin_11 : decode b_OutFile_begin 11 = .ok (.bipush 73, 2) := by decide +kernel
theorem d_OutFile_begin_13 : decode b_OutFile_begin 13 = .ok (.iconst 1, 1) := by decide +kernel
theorem d_OutFile_begin_14 : decode b_OutFile_begin 14 = .ok (.invokevirtual 25, 3) := by decide +kernel
theorem d_OutFile_begin_17 : decode b_OutFile_begin 17 = .ok (.aload_n 0, 1) := by decide +kernel
theorem d_OutFile_begin_18 : decode b_OutFile_begin 18 = .ok (.bipush 73, 2) := by decide +kernel
theorem d_OutFile_begin_20 : decode b_OutFile_begin 20 = .ok (.iconst 1, 1) := by decide +kernel
theorem d_OutFile_begin_21 : decode b_OutFile_begin 21 = .ok (.invokevirtual 25, 3) := by decide +kernel
theorem d_OutFile_begin_24 : decode b_OutFile_begin 24 = .ok (.aload_n 0, 1) := by decide +kernel
theorem d_OutFile_begin_25 : decode b_OutFile_begin 25 = .ok (.bipush 42, 2) := by decide +kernel
theorem d_OutFile_begin_27 : decode b_OutFile_begin 27 = .ok (.iconst 2, 1) := by decide +kernel
theorem d_OutFile_begin_28 : decode b_OutFile_begin 28 = .ok (.invokevirtual 25, 3) := by decide +kernel
theorem d_OutFile_begin_31 : decode b_OutFile_begin 31 = .ok (.aload_n 0, 1) := by decide +kernel
theorem d_OutFile_begin_32 : decode b_OutFile_begin 32 = .ok (.aload_n 0, 1) := by decide +kernel
theorem d_OutFile_begin_33 : decode b_OutFile_begin 33 = .ok (.getfield 18, 3) := by decide +kernel
theorem d_OutFile_begin_36 : decode b_OutFile_begin 36 = .ok (.putfield 29, 3) := by decide +kernel
theorem d_OutFile_begin_39 : decode b_OutFile_begin 39 = .ok (.aload_n 0, 1) := by decide +kernel
theorem d_OutFile_begin_40 : decode b_OutFile_begin 40 = .ok (.iconst 0, 1) := by decide +kernel
theorem d_OutFile_begin_41 : decode b_OutFile_begin 41 = .ok (.iconst 4, 1) := by decide +kernel
theorem d_OutFile_begin_42 : decode b_OutFile_begin 42 = .ok (.invokevirtual 25, 3) := by decide +kernel
theorem d_OutFile_begin_45 : decode b_OutFile_begin 45 = .ok (.return_, 1) := by decide +kernel
abbrev at_c_fill_2 (dC : Nat → ClassId) (dI : Nat → Nat → Nat) (a : Nat) (cA : ClassId) (f : Nat → Int32) (v : Int32) (A : Nat → Prop) (u : Unit) (t : State) : Prop := match u with
  | _ => va_P (dC, dI) vcl [(a, .inl (cA, 2, .inl (upd (upd f 0 v) 1 v)))] t.heap ∧ va_K (dC, dI) vcl [(cA, .int)] t ∧ va_D A [(a, .inl (cA, 2, .inl (upd (upd f 0 v) 1 v)))]
abbrev po_c_fill_2 (a : Nat) (cA : ClassId) (f : Nat → Int32) (v : Int32) (u : Unit) : Prop := match u with
  | _ => True
abbrev q_c_fill_2 (dC : Nat → ClassId) (dI : Nat → Nat → Nat) (a : Nat) (cA : ClassId) (f : Nat → Int32) (v : Int32) (A : Nat → Prop) : Array Value → State → Outcome → State → Prop := va_Qv (po_c_fill_2 a cA f v) (at_c_fill_2 dC dI a cA f v A) A
abbrev rm_c_fill_2 : Room := { frames := 0, cells := 0, slots := 0, locals := 0 }
set_option maxHeartbeats 4000000 in
set_option maxRecDepth 100000 in
theorem c_fill_2 (l : Launch) (dC : Nat → ClassId) (dI : Nat → Nat → Nat) (tt : Nat → Nat) (a : Nat) (cA : ClassId) (f : Nat → Int32) (v : Int32) (sz : Nat)  : Met l y_JArrays_fill1 w_JArrays_fill1 rm_c_fill_2 (va_Pc [.ref a, .int v] (fun U => U.heap.size = sz ∧ va_P (dC, dI) vcl [(a, .inl (cA, 2, .inl f))] U.heap ∧ va_K (dC, dI) vcl [(cA, .int)] U ∧ va_D (fun _ => True) [(a, .inl (cA, 2, .inl f))] ∧ SF tt (va_A [(a, .inl (cA, 2, .inl f))] sz) U U.heap)) (q_c_fill_2 dC dI a cA f v (va_A [(a, .inl (cA, 2, .inl f))] sz)) 0 0 (va_A [(a, .inl (cA, 2, .inl f))] sz) := by
  refine Met.ofW (cc := b_JArrays_fill1) (maxL := 4) (ret := none) (by decide) rfl ?_
  intro p e s m args below meth c s₁ B hml hv
  obtain ⟨rfl, hsz, hP, hK, hD0, hF⟩ := hv
  have hx := B.exec
  have hb := B.bytes
  have hr := B.returns
  have hwd : ∀ w ∈ gT, w.before _ s = true := fun w h => atoms_spec (ws := w_JArrays_fill1) B.pre w (List.mem_cons_of_mem _ h)
  have hown : s.vm.findClass R_JArrays = some m.cls := findClass_of_methodNamed B.named
  have hlocks := B.notSynchronized
  subst hsz
  have hD := hD0.self (sz := s.heap.size)
  generalize hAe : va_A [(a, .inl (cA, 2, .inl f))] s.heap.size = A at hD hF ⊢
  have hA : ∀ q : Nat, s.heap.size ≤ q → A q := fun q h => by rw [← hAe]; exact Or.inr h
  have hS : va_S A s.heap s.heap [] := va_S.rf
  have hP : va_P (dC, dI) vcl [(a, .inl (cA, 2, .inl f))] s.heap := hP
  have hl := lv_entry ([.ref a, .int v]) (n := 4) (Nat.le_of_ble_eq_true rfl)
  rw [lg_entry_eq]
  generalize (lg_sl ([.ref a, .int v]) ++ List.replicate (4 - (lg_sl ([.ref a, .int v])).length) Slot.unset).toArray = ls at hl ⊢
  have hl : lv_has ls 4 [(0, .ref a), (1, .int v)] := hl
  refine lv_iconst (v := 0) hx hb d_JArrays_fill1_0 (by decide) ?_
  refine lv_istore_n (lv' := [(2, .int 0), (0, .ref a), (1, .int v)]) hx hb d_JArrays_fill1_1 rfl hl (by decide) rfl ?_
  clear hl
  intro ls hl
  refine lv_aload_n hx hb d_JArrays_fill1_2 rfl (lv_at hl 1 rfl) ?_
  refine va_alen (v := 2) hx hb hK hP 0 0 rfl rfl rfl d_JArrays_fill1_3 ?_
  refine lv_istore_n (lv' := [(3, .int 2), (2, .int 0), (0, .ref a), (1, .int v)]) hx hb d_JArrays_fill1_4 rfl hl (by decide) rfl ?_
  clear hl
  intro ls hl
  refine lv_iload_n hx hb d_JArrays_fill1_5 rfl (lv_at hl 1 rfl) ?_
  refine lv_iload_n hx hb d_JArrays_fill1_6 rfl (lv_at hl 0 rfl) ?_
  refine lv_icmp_ge (tgt := 20) hx hb d_JArrays_fill1_7 (by decide) (fun c7 => absurd c7 (by decide)) (fun _ => ?_)
  refine lv_aload_n hx hb d_JArrays_fill1_10 rfl (lv_at hl 2 rfl) ?_
  refine lv_iload_n hx hb d_JArrays_fill1_11 rfl (lv_at hl 1 rfl) ?_
  refine lv_iload_n hx hb d_JArrays_fill1_12 rfl (lv_at hl 3 rfl) ?_
  refine va_iast hx hb hK hP hD hS 0 0 rfl rfl (show ¬ ((0 : Int32) < 0 ∨ 2 ≤ (0 : Int32).toNatClampNeg) by decide) d_JArrays_fill1_13 ?_
  clear hP hD hS
  intro H locs hP hD hS
  rw [show (0 : Int32).toNatClampNeg = 0 by decide] at hP hD
  replace hP : va_P (dC, dI) vcl [(a, .inl (cA, 2, .inl (upd f 0 v)))] H := hP
  replace hD : va_D A [(a, .inl (cA, 2, .inl (upd f 0 v)))] := hD
  refine lv_iinc (v := 1) (lv' := [(2, .int 1), (3, .int 2), (0, .ref a), (1, .int v)]) hx hb d_JArrays_fill1_14 hl (k := 1) rfl (by decide) (by decide) rfl ?_
  clear hl
  intro ls hl
  refine lv_goto (tgt := 5) hx hb d_JArrays_fill1_17 (by decide) ?_
  refine lv_iload_n hx hb d_JArrays_fill1_5 rfl (lv_at hl 0 rfl) ?_
  refine lv_iload_n hx hb d_JArrays_fill1_6 rfl (lv_at hl 1 rfl) ?_
  refine lv_icmp_ge (tgt := 20) hx hb d_JArrays_fill1_7 (by decide) (fun c7 => absurd c7 (by decide)) (fun _ => ?_)
  refine lv_aload_n hx hb d_JArrays_fill1_10 rfl (lv_at hl 2 rfl) ?_
  refine lv_iload_n hx hb d_JArrays_fill1_11 rfl (lv_at hl 0 rfl) ?_
  refine lv_iload_n hx hb d_JArrays_fill1_12 rfl (lv_at hl 3 rfl) ?_
  refine va_iast hx hb hK hP hD hS 0 0 rfl rfl (show ¬ ((1 : Int32) < 0 ∨ 2 ≤ (1 : Int32).toNatClampNeg) by decide) d_JArrays_fill1_13 ?_
  clear hP hD hS
  intro H locs hP hD hS
  rw [show (1 : Int32).toNatClampNeg = 1 by decide] at hP hD
  replace hP : va_P (dC, dI) vcl [(a, .inl (cA, 2, .inl (upd (upd f 0 v) 1 v)))] H := hP
  replace hD : va_D A [(a, .inl (cA, 2, .inl (upd (upd f 0 v) 1 v)))] := hD
  refine lv_iinc (v := 2) (lv' := [(2, .int 2), (3, .int 2), (0, .ref a), (1, .int v)]) hx hb d_JArrays_fill1_14 hl (k := 0) rfl (by decide) (by decide) rfl ?_
  clear hl
  intro ls hl
  refine lv_goto (tgt := 5) hx hb d_JArrays_fill1_17 (by decide) ?_
  refine lv_iload_n hx hb d_JArrays_fill1_5 rfl (lv_at hl 0 rfl) ?_
  refine lv_iload_n hx hb d_JArrays_fill1_6 rfl (lv_at hl 1 rfl) ?_
  refine lv_icmp_ge (tgt := 20) hx hb d_JArrays_fill1_7 (by decide) (fun _ => ?_) (fun c7 => absurd (by decide) c7)
  have hP9 := hP.sub (ws' := [(a, .inl (cA, 2, .inl (upd (upd f 0 v) 1 v)))]) [0] rfl
  have hD9 := hD.sub (ws' := [(a, .inl (cA, 2, .inl (upd (upd f 0 v) 1 v)))]) [0] (by decide) rfl
  have hK9 := hK.sub (tys' := [(cA, .int)]) [0] rfl
  exact W.vret hx hb hr (fun t ht hW => ⟨⟨(), rfl, (trivial), by rw [ht]; exact hP9, va_K.moved hW.alike hK9, hD9⟩, hS.F ht⟩) hS.2.2 d_JArrays_fill1_20

abbrev at_c_putNumber_1 (dC : Nat → ClassId) (dI : Nat → Nat → Nat) (h0 : Nat) (b : Nat) (tb : Nat) (n : Nat) (pg : Int32) (lk : Int32) (number : Int32) (cb : ClassId) (f : Nat → Int32) (A : Nat → Prop) (u : Unit) (t : State) : Prop := match u with
  | _ => va_P (dC, dI) vcl [(h0, .inr (7, [.ref b, .ref tb, .int (nI (n + 1)), .int pg, .int lk])), (b, .inl (cb, 60160, .inl (upd f n ((number >>> (0 &&& 31)).toInt8.toInt32))))] t.heap ∧ va_K (dC, dI) vcl [(cb, .byte)] t ∧ va_D A [(h0, .inr (7, [.ref b, .ref tb, .int (nI (n + 1)), .int pg, .int lk])), (b, .inl (cb, 60160, .inl (upd f n ((number >>> (0 &&& 31)).toInt8.toInt32))))]
abbrev po_c_putNumber_1 (h0 : Nat) (b : Nat) (tb : Nat) (n : Nat) (pg : Int32) (lk : Int32) (number : Int32) (cb : ClassId) (f : Nat → Int32) (u : Unit) : Prop := match u with
  | _ => True
abbrev q_c_putNumber_1 (dC : Nat → ClassId) (dI : Nat → Nat → Nat) (h0 : Nat) (b : Nat) (tb : Nat) (n : Nat) (pg : Int32) (lk : Int32) (number : Int32) (cb : ClassId) (f : Nat → Int32) (A : Nat → Prop) : Array Value → State → Outcome → State → Prop := va_Qv (po_c_putNumber_1 h0 b tb n pg lk number cb f) (at_c_putNumber_1 dC dI h0 b tb n pg lk number cb f A) A
abbrev rm_c_putNumber_1 : Room := { frames := 0, cells := 0, slots := 0, locals := 0 }
set_option maxHeartbeats 4000000 in
set_option maxRecDepth 100000 in
theorem c_putNumber_1 (l : Launch) (dC : Nat → ClassId) (dI : Nat → Nat → Nat) (tt : Nat → Nat) (h0 : Nat) (b : Nat) (tb : Nat) (n : Nat) (pg : Int32) (lk : Int32) (number : Int32) (cb : ClassId) (f : Nat → Int32) (sz : Nat) (hn : n + 1 ≤ 60160) : Met l y_OutFile_putNumber w_OutFile_putNumber rm_c_putNumber_1 (va_Pc [.ref h0, .int number, .int 1] (fun U => U.heap.size = sz ∧ va_P (dC, dI) vcl [(h0, .inr (7, [.ref b, .ref tb, .int (nI n), .int pg, .int lk])), (b, .inl (cb, 60160, .inl f))] U.heap ∧ va_K (dC, dI) vcl [(cb, .byte)] U ∧ va_D (fun _ => True) [(h0, .inr (7, [.ref b, .ref tb, .int (nI n), .int pg, .int lk])), (b, .inl (cb, 60160, .inl f))] ∧ SF tt (va_A [(h0, .inr (7, [.ref b, .ref tb, .int (nI n), .int pg, .int lk])), (b, .inl (cb, 60160, .inl f))] sz) U U.heap)) (q_c_putNumber_1 dC dI h0 b tb n pg lk number cb f (va_A [(h0, .inr (7, [.ref b, .ref tb, .int (nI n), .int pg, .int lk])), (b, .inl (cb, 60160, .inl f))] sz)) 0 0 (va_A [(h0, .inr (7, [.ref b, .ref tb, .int (nI n), .int pg, .int lk])), (b, .inl (cb, 60160, .inl f))] sz) := by
  refine Met.ofW (cc := b_OutFile_putNumber) (maxL := 4) (ret := none) (by decide) rfl ?_
  intro p e s m args below meth c s₁ B hml hv
  obtain ⟨rfl, hsz, hP, hK, hD0, hF⟩ := hv
  have hx := B.exec
  have hb := B.bytes
  have hr := B.returns
  have hwd : ∀ w ∈ gT, w.before _ s = true := fun w h => atoms_spec (ws := w_OutFile_putNumber) B.pre w (List.mem_cons_of_mem _ h)
  have hown : s.vm.findClass R_OutFile = some m.cls := findClass_of_methodNamed B.named
  have hlocks := B.notSynchronized
  subst hsz
  have hD := hD0.self (sz := s.heap.size)
  generalize hAe : va_A [(h0, .inr (7, [.ref b, .ref tb, .int (nI n), .int pg, .int lk])), (b, .inl (cb, 60160, .inl f))] s.heap.size = A at hD hF ⊢
  have hA : ∀ q : Nat, s.heap.size ≤ q → A q := fun q h => by rw [← hAe]; exact Or.inr h
  have hS : va_S A s.heap s.heap [] := va_S.rf
  have hP : va_P (dC, dI) vcl [(h0, .inr (7, [.ref b, .ref tb, .int (nI n), .int pg, .int lk])), (b, .inl (cb, 60160, .inl f))] s.heap := hP
  have hl := lv_entry ([.ref h0, .int number, .int 1]) (n := 4) (Nat.le_of_ble_eq_true rfl)
  rw [lg_entry_eq]
  generalize (lg_sl ([.ref h0, .int number, .int 1]) ++ List.replicate (4 - (lg_sl ([.ref h0, .int number, .int 1])).length) Slot.unset).toArray = ls at hl ⊢
  have hl : lv_has ls 4 [(0, .ref h0), (1, .int number), (2, .int 1)] := hl
  refine lv_iconst (v := 0) hx hb d_OutFile_putNumber_0 (by decide) ?_
  refine lv_istore_n (lv' := [(3, .int 0), (0, .ref h0), (1, .int number), (2, .int 1)]) hx hb d_OutFile_putNumber_1 rfl hl (by decide) rfl ?_
  clear hl
  intro ls hl
  refine lv_iload_n hx hb d_OutFile_putNumber_2 rfl (lv_at hl 0 rfl) ?_
  refine lv_iload_n hx hb d_OutFile_putNumber_3 rfl (lv_at hl 3 rfl) ?_
  refine lv_icmp_ge (tgt := 51) hx hb d_OutFile_putNumber_4 (by decide) (fun c4 => absurd c4 (by decide)) (fun _ => ?_)
  refine lv_aload_n hx hb d_OutFile_putNumber_7 rfl (lv_at hl 1 rfl) ?_
  refine va_get (D := (dC, dI)) (ci := 7) (v := .int (nI n)) (C := R_OutFile) (T := F_OutFile) (N := 5) hx hb hwd i_OutFile hown hK hP 0 rfl rfl 2 (by decide) (hwd _ wd_3_217) (fun _ h9 => h9) rfl d_OutFile_putNumber_8 ?_
  refine lv_aload_n hx hb d_OutFile_putNumber_11 rfl (lv_at hl 1 rfl) ?_
  refine va_get (D := (dC, dI)) (ci := 7) (v := .ref b) (C := R_OutFile) (T := F_OutFile) (N := 5) hx hb hwd i_OutFile hown hK hP 0 rfl rfl 0 (by decide) (hwd _ wd_3_213) (fun _ h9 => h9) rfl d_OutFile_putNumber_12 ?_
  refine va_alen (v := 60160) hx hb hK hP 1 0 rfl rfl rfl d_OutFile_putNumber_15 ?_
  refine lv_icmp_ge (tgt := 51) hx hb d_OutFile_putNumber_16 (by decide) (fun c16 => absurd c16 (nI_ge (a := n + 0) (b := 60160) (by omega) (by omega))) (fun c16 => ?_)
  refine lv_aload_n hx hb d_OutFile_putNumber_19 rfl (lv_at hl 1 rfl) ?_
  refine va_get (D := (dC, dI)) (ci := 7) (v := .ref b) (C := R_OutFile) (T := F_OutFile) (N := 5) hx hb hwd i_OutFile hown hK hP 0 rfl rfl 0 (by decide) (hwd _ wd_3_213) (fun _ h9 => h9) rfl d_OutFile_putNumber_20 ?_
  refine lv_aload_n hx hb d_OutFile_putNumber_23 rfl (lv_at hl 1 rfl) ?_
  refine va_get (D := (dC, dI)) (ci := 7) (v := .int (nI n)) (C := R_OutFile) (T := F_OutFile) (N := 5) hx hb hwd i_OutFile hown hK hP 0 rfl rfl 2 (by decide) (hwd _ wd_3_217) (fun _ h9 => h9) rfl d_OutFile_putNumber_24 ?_
  refine lv_iload_n hx hb d_OutFile_putNumber_27 rfl (lv_at hl 2 rfl) ?_
  refine lv_bipush (v := 8) hx hb d_OutFile_putNumber_28 (by decide) ?_
  refine lv_iload_n hx hb d_OutFile_putNumber_30 rfl (lv_at hl 0 rfl) ?_
  refine lv_imul hx hb d_OutFile_putNumber_31 ?_
  refine lv_topi (fun y_1 ey_1 => ?_)
  obtain rfl : y_1 = (0 : Int32) := ey_1.trans (by decide)
  refine lv_ishr hx hb d_OutFile_putNumber_32 ?_
  refine lv_i2b (v := (number >>> (0 &&& 31)).toInt8.toInt32) hx hb d_OutFile_putNumber_33 rfl ?_
  refine va_bast hx hb hK hP hD hS 1 0 rfl rfl (vp_in_nI (n := n + 0) (by omega) (by omega)) d_OutFile_putNumber_34 ?_
  clear hP hD hS
  intro H locs hP hD hS
  rw [show (nI n).toNatClampNeg = n from nI_clamp (by omega)] at hP hD
  rw [pk_vb] at hP hD
  replace hP : va_P (dC, dI) vcl [(h0, .inr (7, [.ref b, .ref tb, .int (nI n), .int pg, .int lk])), (b, .inl (cb, 60160, .inl (upd f n ((number >>> (0 &&& 31)).toInt8.toInt32))))] H := hP
  replace hD : va_D A [(h0, .inr (7, [.ref b, .ref tb, .int (nI n), .int pg, .int lk])), (b, .inl (cb, 60160, .inl (upd f n ((number >>> (0 &&& 31)).toInt8.toInt32))))] := hD
  refine lv_aload_n hx hb d_OutFile_putNumber_35 rfl (lv_at hl 1 rfl) ?_
  refine lv_dup hx hb d_OutFile_putNumber_36 rfl ?_
  refine va_get (D := (dC, dI)) (ci := 7) (v := .int (nI n)) (C := R_OutFile) (T := F_OutFile) (N := 5) hx hb hwd i_OutFile hown hK hP 0 rfl rfl 2 (by decide) (hwd _ wd_3_217) (fun _ h9 => h9) rfl d_OutFile_putNumber_37 ?_
  refine lv_iconst (v := 1) hx hb d_OutFile_putNumber_40 (by decide) ?_
  refine lv_iadd hx hb d_OutFile_putNumber_41 ?_
  refine lv_topi (fun y_2 ey_2 => ?_)
  obtain rfl : y_2 = nI (n + 1) := ey_2.trans (nI_1 (n + 0))
  refine va_put (D := (dC, dI)) (ci := 7) (v := .int (nI (n + 1))) (ty := .int) (C := R_OutFile) (T := F_OutFile) (N := 5) hx hb hwd i_OutFile t_OutFile to_OutFile no_OutFile hown hK hP hD hS 0 rfl rfl 2 (by decide) (hwd _ wd_3_217) (fun _ h9 => h9) rfl (by decide +kernel) rfl rfl (Nat.le_of_ble_eq_true rfl) d_OutFile_putNumber_42 ?_
  clear hP hD hS
  intro H locs hP hD hS
  replace hP : va_P (dC, dI) vcl [(h0, .inr (7, [.ref b, .ref tb, .int (nI (n + 1)), .int pg, .int lk])), (b, .inl (cb, 60160, .inl (upd f n ((number >>> (0 &&& 31)).toInt8.toInt32))))] H := hP
  replace hD : va_D A [(h0, .inr (7, [.ref b, .ref tb, .int (nI (n + 1)), .int pg, .int lk])), (b, .inl (cb, 60160, .inl (upd f n ((number >>> (0 &&& 31)).toInt8.toInt32))))] := hD
  refine lv_iinc (v := 1) (lv' := [(3, .int 1), (0, .ref h0), (1, .int number), (2, .int 1)]) hx hb d_OutFile_putNumber_45 hl (k := 0) rfl (by decide) (by decide) rfl ?_
  clear hl
  intro ls hl
  refine lv_goto (tgt := 2) hx hb d_OutFile_putNumber_48 (by decide) ?_
  refine lv_iload_n hx hb d_OutFile_putNumber_2 rfl (lv_at hl 0 rfl) ?_
  refine lv_iload_n hx hb d_OutFile_putNumber_3 rfl (lv_at hl 3 rfl) ?_
  refine lv_icmp_ge (tgt := 51) hx hb d_OutFile_putNumber_4 (by decide) (fun _ => ?_) (fun c4 => absurd (by decide) c4)
  have hP9 := hP.sub (ws' := [(h0, .inr (7, [.ref b, .ref tb, .int (nI (n + 1)), .int pg, .int lk])), (b, .inl (cb, 60160, .inl (upd f n ((number >>> (0 &&& 31)).toInt8.toInt32))))]) [0, 1] rfl
  have hD9 := hD.sub (ws' := [(h0, .inr (7, [.ref b, .ref tb, .int (nI (n + 1)), .int pg, .int lk])), (b, .inl (cb, 60160, .inl (upd f n ((number >>> (0 &&& 31)).toInt8.toInt32))))]) [0, 1] (by decide) rfl
  have hK9 := hK.sub (tys' := [(cb, .byte)]) [0] rfl
  exact W.vret hx hb hr (fun t ht hW => ⟨⟨(), rfl, (trivial), by rw [ht]; exact hP9, va_K.moved hW.alike hK9, hD9⟩, hS.F ht⟩) hS.2.2 d_OutFile_putNumber_51

abbrev at_c_putNumber_2 (dC : Nat → ClassId) (dI : Nat → Nat → Nat) (h0 : Nat) (b : Nat) (tb : Nat) (n : Nat) (pg : Int32) (lk : Int32) (number : Int32) (cb : ClassId) (f : Nat → Int32) (A : Nat → Prop) (u : Unit) (t : State) : Prop := match u with
  | _ => va_P (dC, dI) vcl [(h0, .inr (7, [.ref b, .ref tb, .int (nI (n + 2)), .int pg, .int lk])), (b, .inl (cb, 60160, .inl (upd (upd f n ((number >>> (0 &&& 31)).toInt8.toInt32)) (n + 1) ((number >>> (8 &&& 31)).toInt8.toInt32))))] t.heap ∧ va_K (dC, dI) vcl [(cb, .byte)] t ∧ va_D A [(h0, .inr (7, [.ref b, .ref tb, .int (nI (n + 2)), .int pg, .int lk])), (b, .inl (cb, 60160, .inl (upd (upd f n ((number >>> (0 &&& 31)).toInt8.toInt32)) (n + 1) ((number >>> (8 &&& 31)).toInt8.toInt32))))]
abbrev po_c_putNumber_2 (h0 : Nat) (b : Nat) (tb : Nat) (n : Nat) (pg : Int32) (lk : Int32) (number : Int32) (cb : ClassId) (f : Nat → Int32) (u : Unit) : Prop := match u with
  | _ => True
abbrev q_c_putNumber_2 (dC : Nat → ClassId) (dI : Nat → Nat → Nat) (h0 : Nat) (b : Nat) (tb : Nat) (n : Nat) (pg : Int32) (lk : Int32) (number : Int32) (cb : ClassId) (f : Nat → Int32) (A : Nat → Prop) : Array Value → State → Outcome → State → Prop := va_Qv (po_c_putNumber_2 h0 b tb n pg lk number cb f) (at_c_putNumber_2 dC dI h0 b tb n pg lk number cb f A) A
abbrev rm_c_putNumber_2 : Room := { frames := 0, cells := 0, slots := 0, locals := 0 }
set_option maxHeartbeats 4000000 in
set_option maxRecDepth 100000 in
theorem c_putNumber_2 (l : Launch) (dC : Nat → ClassId) (dI : Nat → Nat → Nat) (tt : Nat → Nat) (h0 : Nat) (b : Nat) (tb : Nat) (n : Nat) (pg : Int32) (lk : Int32) (number : Int32) (cb : ClassId) (f : Nat → Int32) (sz : Nat) (hn : n + 2 ≤ 60160) : Met l y_OutFile_putNumber w_OutFile_putNumber rm_c_putNumber_2 (va_Pc [.ref h0, .int number, .int 2] (fun U => U.heap.size = sz ∧ va_P (dC, dI) vcl [(h0, .inr (7, [.ref b, .ref tb, .int (nI n), .int pg, .int lk])), (b, .inl (cb, 60160, .inl f))] U.heap ∧ va_K (dC, dI) vcl [(cb, .byte)] U ∧ va_D (fun _ => True) [(h0, .inr (7, [.ref b, .ref tb, .int (nI n), .int pg, .int lk])), (b, .inl (cb, 60160, .inl f))] ∧ SF tt (va_A [(h0, .inr (7, [.ref b, .ref tb, .int (nI n), .int pg, .int lk])), (b, .inl (cb, 60160, .inl f))] sz) U U.heap)) (q_c_putNumber_2 dC dI h0 b tb n pg lk number cb f (va_A [(h0, .inr (7, [.ref b, .ref tb, .int (nI n), .int pg, .int lk])), (b, .inl (cb, 60160, .inl f))] sz)) 0 0 (va_A [(h0, .inr (7, [.ref b, .ref tb, .int (nI n), .int pg, .int lk])), (b, .inl (cb, 60160, .inl f))] sz) := by
  refine Met.ofW (cc := b_OutFile_putNumber) (maxL := 4) (ret := none) (by decide) rfl ?_
  intro p e s m args below meth c s₁ B hml hv
  obtain ⟨rfl, hsz, hP, hK, hD0, hF⟩ := hv
  have hx := B.exec
  have hb := B.bytes
  have hr := B.returns
  have hwd : ∀ w ∈ gT, w.before _ s = true := fun w h => atoms_spec (ws := w_OutFile_putNumber) B.pre w (List.mem_cons_of_mem _ h)
  have hown : s.vm.findClass R_OutFile = some m.cls := findClass_of_methodNamed B.named
  have hlocks := B.notSynchronized
  subst hsz
  have hD := hD0.self (sz := s.heap.size)
  generalize hAe : va_A [(h0, .inr (7, [.ref b, .ref tb, .int (nI n), .int pg, .int lk])), (b, .inl (cb, 60160, .inl f))] s.heap.size = A at hD hF ⊢
  have hA : ∀ q : Nat, s.heap.size ≤ q → A q := fun q h => by rw [← hAe]; exact Or.inr h
  have hS : va_S A s.heap s.heap [] := va_S.rf
  have hP : va_P (dC, dI) vcl [(h0, .inr (7, [.ref b, .ref tb, .int (nI n), .int pg, .int lk])), (b, .inl (cb, 60160, .inl f))] s.heap := hP
  have hl := lv_entry ([.ref h0, .int number, .int 2]) (n := 4) (Nat.le_of_ble_eq_true rfl)
  rw [lg_entry_eq]
  generalize (lg_sl ([.ref h0, .int number, .int 2]) ++ List.replicate (4 - (lg_sl ([.ref h0, .int number, .int 2])).length) Slot.unset).toArray = ls at hl ⊢
  have hl : lv_has ls 4 [(0, .ref h0), (1, .int number), (2, .int 2)] := hl
  refine lv_iconst (v := 0) hx hb d_OutFile_putNumber_0 (by decide) ?_
  refine lv_istore_n (lv' := [(3, .int 0), (0, .ref h0), (1, .int number), (2, .int 2)]) hx hb d_OutFile_putNumber_1 rfl hl (by decide) rfl ?_
  clear hl
  intro ls hl
  refine lv_iload_n hx hb d_OutFile_putNumber_2 rfl (lv_at hl 0 rfl) ?_
  refine lv_iload_n hx hb d_OutFile_putNumber_3 rfl (lv_at hl 3 rfl) ?_
  refine lv_icmp_ge (tgt := 51) hx hb d_OutFile_putNumber_4 (by decide) (fun c4 => absurd c4 (by decide)) (fun _ => ?_)
  refine lv_aload_n hx hb d_OutFile_putNumber_7 rfl (lv_at hl 1 rfl) ?_
  refine va_get (D := (dC, dI)) (ci := 7) (v := .int (nI n)) (C := R_OutFile) (T := F_OutFile) (N := 5) hx hb hwd i_OutFile hown hK hP 0 rfl rfl 2 (by decide) (hwd _ wd_3_217) (fun _ h9 => h9) rfl d_OutFile_putNumber_8 ?_
  refine lv_aload_n hx hb d_OutFile_putNumber_11 rfl (lv_at hl 1 rfl) ?_
  refine va_get (D := (dC, dI)) (ci := 7) (v := .ref b) (C := R_OutFile) (T := F_OutFile) (N := 5) hx hb hwd i_OutFile hown hK hP 0 rfl rfl 0 (by decide) (hwd _ wd_3_213) (fun _ h9 => h9) rfl d_OutFile_putNumber_12 ?_
  refine va_alen (v := 60160) hx hb hK hP 1 0 rfl rfl rfl d_OutFile_putNumber_15 ?_
  refine lv_icmp_ge (tgt := 51) hx hb d_OutFile_putNumber_16 (by decide) (fun c16 => absurd c16 (nI_ge (a := n + 0) (b := 60160) (by omega) (by omega))) (fun c16 => ?_)
  refine lv_aload_n hx hb d_OutFile_putNumber_19 rfl (lv_at hl 1 rfl) ?_
  refine va_get (D := (dC, dI)) (ci := 7) (v := .ref b) (C := R_OutFile) (T := F_OutFile) (N := 5) hx hb hwd i_OutFile hown hK hP 0 rfl rfl 0 (by decide) (hwd _ wd_3_213) (fun _ h9 => h9) rfl d_OutFile_putNumber_20 ?_
  refine lv_aload_n hx hb d_OutFile_putNumber_23 rfl (lv_at hl 1 rfl) ?_
  refine va_get (D := (dC, dI)) (ci := 7) (v := .int (nI n)) (C := R_OutFile) (T := F_OutFile) (N := 5) hx hb hwd i_OutFile hown hK hP 0 rfl rfl 2 (by decide) (hwd _ wd_3_217) (fun _ h9 => h9) rfl d_OutFile_putNumber_24 ?_
  refine lv_iload_n hx hb d_OutFile_putNumber_27 rfl (lv_at hl 2 rfl) ?_
  refine lv_bipush (v := 8) hx hb d_OutFile_putNumber_28 (by decide) ?_
  refine lv_iload_n hx hb d_OutFile_putNumber_30 rfl (lv_at hl 0 rfl) ?_
  refine lv_imul hx hb d_OutFile_putNumber_31 ?_
  refine lv_topi (fun y_1 ey_1 => ?_)
  obtain rfl : y_1 = (0 : Int32) := ey_1.trans (by decide)
  refine lv_ishr hx hb d_OutFile_putNumber_32 ?_
  refine lv_i2b (v := (number >>> (0 &&& 31)).toInt8.toInt32) hx hb d_OutFile_putNumber_33 rfl ?_
  refine va_bast hx hb hK hP hD hS 1 0 rfl rfl (vp_in_nI (n := n + 0) (by omega) (by omega)) d_OutFile_putNumber_34 ?_
  clear hP hD hS
  intro H locs hP hD hS
  rw [show (nI n).toNatClampNeg = n from nI_clamp (by omega)] at hP hD
  rw [pk_vb] at hP hD
  replace hP : va_P (dC, dI) vcl [(h0, .inr (7, [.ref b, .ref tb, .int (nI n), .int pg, .int lk])), (b, .inl (cb, 60160, .inl (upd f n ((number >>> (0 &&& 31)).toInt8.toInt32))))] H := hP
  replace hD : va_D A [(h0, .inr (7, [.ref b, .ref tb, .int (nI n), .int pg, .int lk])), (b, .inl (cb, 60160, .inl (upd f n ((number >>> (0 &&& 31)).toInt8.toInt32))))] := hD
  refine lv_aload_n hx hb d_OutFile_putNumber_35 rfl (lv_at hl 1 rfl) ?_
  refine lv_dup hx hb d_OutFile_putNumber_36 rfl ?_
  refine va_get (D := (dC, dI)) (ci := 7) (v := .int (nI n)) (C := R_OutFile) (T := F_OutFile) (N := 5) hx hb hwd i_OutFile hown hK hP 0 rfl rfl 2 (by decide) (hwd _ wd_3_217) (fun _ h9 => h9) rfl d_OutFile_putNumber_37 ?_
  refine lv_iconst (v := 1) hx hb d_OutFile_putNumber_40 (by decide) ?_
  refine lv_iadd hx hb d_OutFile_putNumber_41 ?_
  refine lv_topi (fun y_2 ey_2 => ?_)
  obtain rfl : y_2 = nI (n + 1) := ey_2.trans (nI_1 (n + 0))
  refine va_put (D := (dC, dI)) (ci := 7) (v := .int (nI (n + 1))) (ty := .int) (C := R_OutFile) (T := F_OutFile) (N := 5) hx hb hwd i_OutFile t_OutFile to_OutFile no_OutFile hown hK hP hD hS 0 rfl rfl 2 (by decide) (hwd _ wd_3_217) (fun _ h9 => h9) rfl (by decide +kernel) rfl rfl (Nat.le_of_ble_eq_true rfl) d_OutFile_putNumber_42 ?_
  clear hP hD hS
  intro H locs hP hD hS
  replace hP : va_P (dC, dI) vcl [(h0, .inr (7, [.ref b, .ref tb, .int (nI (n + 1)), .int pg, .int lk])), (b, .inl (cb, 60160, .inl (upd f n ((number >>> (0 &&& 31)).toInt8.toInt32))))] H := hP
  replace hD : va_D A [(h0, .inr (7, [.ref b, .ref tb, .int (nI (n + 1)), .int pg, .int lk])), (b, .inl (cb, 60160, .inl (upd f n ((number >>> (0 &&& 31)).toInt8.toInt32))))] := hD
  refine lv_iinc (v := 1) (lv' := [(3, .int 1), (0, .ref h0), (1, .int number), (2, .int 2)]) hx hb d_OutFile_putNumber_45 hl (k := 0) rfl (by decide) (by decide) rfl ?_
  clear hl
  intro ls hl
  refine lv_goto (tgt := 2) hx hb d_OutFile_putNumber_48 (by decide) ?_
  refine lv_iload_n hx hb d_OutFile_putNumber_2 rfl (lv_at hl 0 rfl) ?_
  refine lv_iload_n hx hb d_OutFile_putNumber_3 rfl (lv_at hl 3 rfl) ?_
  refine lv_icmp_ge (tgt := 51) hx hb d_OutFile_putNumber_4 (by decide) (fun c4 => absurd c4 (by decide)) (fun _ => ?_)
  refine lv_aload_n hx hb d_OutFile_putNumber_7 rfl (lv_at hl 1 rfl) ?_
  refine va_get (D := (dC, dI)) (ci := 7) (v := .int (nI (n + 1))) (C := R_OutFile) (T := F_OutFile) (N := 5) hx hb hwd i_OutFile hown hK hP 0 rfl rfl 2 (by decide) (hwd _ wd_3_217) (fun _ h9 => h9) rfl d_OutFile_putNumber_8 ?_
  refine lv_aload_n hx hb d_OutFile_putNumber_11 rfl (lv_at hl 1 rfl) ?_
  refine va_get (D := (dC, dI)) (ci := 7) (v := .ref b) (C := R_OutFile) (T := F_OutFile) (N := 5) hx hb hwd i_OutFile hown hK hP 0 rfl rfl 0 (by decide) (hwd _ wd_3_213) (fun _ h9 => h9) rfl d_OutFile_putNumber_12 ?_
  refine va_alen (v := 60160) hx hb hK hP 1 0 rfl rfl rfl d_OutFile_putNumber_15 ?_
  refine lv_icmp_ge (tgt := 51) hx hb d_OutFile_putNumber_16 (by decide) (fun c16 => absurd c16 (nI_ge (a := n + 1) (b := 60160) (by omega) (by omega))) (fun c16 => ?_)
  refine lv_aload_n hx hb d_OutFile_putNumber_19 rfl (lv_at hl 1 rfl) ?_
  refine va_get (D := (dC, dI)) (ci := 7) (v := .ref b) (C := R_OutFile) (T := F_OutFile) (N := 5) hx hb hwd i_OutFile hown hK hP 0 rfl rfl 0 (by decide) (hwd _ wd_3_213) (fun _ h9 => h9) rfl d_OutFile_putNumber_20 ?_
  refine lv_aload_n hx hb d_OutFile_putNumber_23 rfl (lv_at hl 1 rfl) ?_
  refine va_get (D := (dC, dI)) (ci := 7) (v := .int (nI (n + 1))) (C := R_OutFile) (T := F_OutFile) (N := 5) hx hb hwd i_OutFile hown hK hP 0 rfl rfl 2 (by decide) (hwd _ wd_3_217) (fun _ h9 => h9) rfl d_OutFile_putNumber_24 ?_
  refine lv_iload_n hx hb d_OutFile_putNumber_27 rfl (lv_at hl 2 rfl) ?_
  refine lv_bipush (v := 8) hx hb d_OutFile_putNumber_28 (by decide) ?_
  refine lv_iload_n hx hb d_OutFile_putNumber_30 rfl (lv_at hl 0 rfl) ?_
  refine lv_imul hx hb d_OutFile_putNumber_31 ?_
  refine lv_topi (fun y_3 ey_3 => ?_)
  obtain rfl : y_3 = (8 : Int32) := ey_3.trans (by decide)
  refine lv_ishr hx hb d_OutFile_putNumber_32 ?_
  refine lv_i2b (v := (number >>> (8 &&& 31)).toInt8.toInt32) hx hb d_OutFile_putNumber_33 rfl ?_
  refine va_bast hx hb hK hP hD hS 1 0 rfl rfl (vp_in_nI (n := n + 1) (by omega) (by omega)) d_OutFile_putNumber_34 ?_
  clear hP hD hS
  intro H locs hP hD hS
  rw [show (nI (n + 1)).toNatClampNeg = n + 1 from nI_clamp (by omega)] at hP hD
  rw [pk_vb] at hP hD
  replace hP : va_P (dC, dI) vcl [(h0, .inr (7, [.ref b, .ref tb, .int (nI (n + 1)), .int pg, .int lk])), (b, .inl (cb, 60160, .inl (upd (upd f n ((number >>> (0 &&& 31)).toInt8.toInt32)) (n + 1) ((number >>> (8 &&& 31)).toInt8.toInt32))))] H := hP
  replace hD : va_D A [(h0, .inr (7, [.ref b, .ref tb, .int (nI (n + 1)), .int pg, .int lk])), (b, .inl (cb, 60160, .inl (upd (upd f n ((number >>> (0 &&& 31)).toInt8.toInt32)) (n + 1) ((number >>> (8 &&& 31)).toInt8.toInt32))))] := hD
  refine lv_aload_n hx hb d_OutFile_putNumber_35 rfl (lv_at hl 1 rfl) ?_
  refine lv_dup hx hb d_OutFile_putNumber_36 rfl ?_
  refine va_get (D := (dC, dI)) (ci := 7) (v := .int (nI (n + 1))) (C := R_OutFile) (T := F_OutFile) (N := 5) hx hb hwd i_OutFile hown hK hP 0 rfl rfl 2 (by decide) (hwd _ wd_3_217) (fun _ h9 => h9) rfl d_OutFile_putNumber_37 ?_
  refine lv_iconst (v := 1) hx hb d_OutFile_putNumber_40 (by decide) ?_
  refine lv_iadd hx hb d_OutFile_putNumber_41 ?_
  refine lv_topi (fun y_4 ey_4 => ?_)
  obtain rfl : y_4 = nI (n + 2) := ey_4.trans (nI_1 (n + 1))
  refine va_put (D := (dC, dI)) (ci := 7) (v := .int (nI (n + 2))) (ty := .int) (C := R_OutFile) (T := F_OutFile) (N := 5) hx hb hwd i_OutFile t_OutFile to_OutFile no_OutFile hown hK hP hD hS 0 rfl rfl 2 (by decide) (hwd _ wd_3_217) (fun _ h9 => h9) rfl (by decide +kernel) rfl rfl (Nat.le_of_ble_eq_true rfl) d_OutFile_putNumber_42 ?_
  clear hP hD hS
  intro H locs hP hD hS
  replace hP : va_P (dC, dI) vcl [(h0, .inr (7, [.ref b, .ref tb, .int (nI (n + 2)), .int pg, .int lk])), (b, .inl (cb, 60160, .inl (upd (upd f n ((number >>> (0 &&& 31)).toInt8.toInt32)) (n + 1) ((number >>> (8 &&& 31)).toInt8.toInt32))))] H := hP
  replace hD : va_D A [(h0, .inr (7, [.ref b, .ref tb, .int (nI (n + 2)), .int pg, .int lk])), (b, .inl (cb, 60160, .inl (upd (upd f n ((number >>> (0 &&& 31)).toInt8.toInt32)) (n + 1) ((number >>> (8 &&& 31)).toInt8.toInt32))))] := hD
  refine lv_iinc (v := 2) (lv' := [(3, .int 2), (0, .ref h0), (1, .int number), (2, .int 2)]) hx hb d_OutFile_putNumber_45 hl (k := 0) rfl (by decide) (by decide) rfl ?_
  clear hl
  intro ls hl
  refine lv_goto (tgt := 2) hx hb d_OutFile_putNumber_48 (by decide) ?_
  refine lv_iload_n hx hb d_OutFile_putNumber_2 rfl (lv_at hl 0 rfl) ?_
  refine lv_iload_n hx hb d_OutFile_putNumber_3 rfl (lv_at hl 3 rfl) ?_
  refine lv_icmp_ge (tgt := 51) hx hb d_OutFile_putNumber_4 (by decide) (fun _ => ?_) (fun c4 => absurd (by decide) c4)
  have hP9 := hP.sub (ws' := [(h0, .inr (7, [.ref b, .ref tb, .int (nI (n + 2)), .int pg, .int lk])), (b, .inl (cb, 60160, .inl (upd (upd f n ((number >>> (0 &&& 31)).toInt8.toInt32)) (n + 1) ((number >>> (8 &&& 31)).toInt8.toInt32))))]) [0, 1] rfl
  have hD9 := hD.sub (ws' := [(h0, .inr (7, [.ref b, .ref tb, .int (nI (n + 2)), .int pg, .int lk])), (b, .inl (cb, 60160, .inl (upd (upd f n ((number >>> (0 &&& 31)).toInt8.toInt32)) (n + 1) ((number >>> (8 &&& 31)).toInt8.toInt32))))]) [0, 1] (by decide) rfl
  have hK9 := hK.sub (tys' := [(cb, .byte)]) [0] rfl
  exact W.vret hx hb hr (fun t ht hW => ⟨⟨(), rfl, (trivial), by rw [ht]; exact hP9, va_K.moved hW.alike hK9, hD9⟩, hS.F ht⟩) hS.2.2 d_OutFile_putNumber_51

abbrev at_c_putNumber_4 (dC : Nat → ClassId) (dI : Nat → Nat → Nat) (h0 : Nat) (b : Nat) (tb : Nat) (n : Nat) (pg : Int32) (lk : Int32) (number : Int32) (cb : ClassId) (f : Nat → Int32) (A : Nat → Prop) (u : Unit) (t : State) : Prop := match u with
  | _ => va_P (dC, dI) vcl [(h0, .inr (7, [.ref b, .ref tb, .int (nI (n + 4)), .int pg, .int lk])), (b, .inl (cb, 60160, .inl (upd (upd (upd (upd f n ((number >>> (0 &&& 31)).toInt8.toInt32)) (n + 1) ((number >>> (8 &&& 31)).toInt8.toInt32)) (n + 2) ((number >>> (16 &&& 31)).toInt8.toInt32)) (n + 3) ((number >>> (24 &&& 31)).toInt8.toInt32))))] t.heap ∧ va_K (dC, dI) vcl [(cb, .byte)] t ∧ va_D A [(h0, .inr (7, [.ref b, .ref tb, .int (nI (n + 4)), .int pg, .int lk])), (b, .inl (cb, 60160, .inl (upd (upd (upd (upd f n ((number >>> (0 &&& 31)).toInt8.toInt32)) (n + 1) ((number >>> (8 &&& 31)).toInt8.toInt32)) (n + 2) ((number >>> (16 &&& 31)).toInt8.toInt32)) (n + 3) ((number >>> (24 &&& 31)).toInt8.toInt32))))]
abbrev po_c_putNumber_4 (h0 : Nat) (b : Nat) (tb : Nat) (n : Nat) (pg : Int32) (lk : Int32) (number : Int32) (cb : ClassId) (f : Nat → Int32) (u : Unit) : Prop := match u with
  | _ => True
abbrev q_c_putNumber_4 (dC : Nat → ClassId) (dI : Nat → Nat → Nat) (h0 : Nat) (b : Nat) (tb : Nat) (n : Nat) (pg : Int32) (lk : Int32) (number : Int32) (cb : ClassId) (f : Nat → Int32) (A : Nat → Prop) : Array Value → State → Outcome → State → Prop := va_Qv (po_c_putNumber_4 h0 b tb n pg lk number cb f) (at_c_putNumber_4 dC dI h0 b tb n pg lk number cb f A) A
abbrev rm_c_putNumber_4 : Room := { frames := 0, cells := 0, slots := 0, locals := 0 }
set_option maxHeartbeats 4000000 in
set_option maxRecDepth 100000 in
theorem c_putNumber_4 (l : Launch) (dC : Nat → ClassId) (dI : Nat → Nat → Nat) (tt : Nat → Nat) (h0 : Nat) (b : Nat) (tb : Nat) (n : Nat) (pg : Int32) (lk : Int32) (number : Int32) (cb : ClassId) (f : Nat → Int32) (sz : Nat) (hn : n + 4 ≤ 60160) : Met l y_OutFile_putNumber w_OutFile_putNumber rm_c_putNumber_4 (va_Pc [.ref h0, .int number, .int 4] (fun U => U.heap.size = sz ∧ va_P (dC, dI) vcl [(h0, .inr (7, [.ref b, .ref tb, .int (nI n), .int pg, .int lk])), (b, .inl (cb, 60160, .inl f))] U.heap ∧ va_K (dC, dI) vcl [(cb, .byte)] U ∧ va_D (fun _ => True) [(h0, .inr (7, [.ref b, .ref tb, .int (nI n), .int pg, .int lk])), (b, .inl (cb, 60160, .inl f))] ∧ SF tt (va_A [(h0, .inr (7, [.ref b, .ref tb, .int (nI n), .int pg, .int lk])), (b, .inl (cb, 60160, .inl f))] sz) U U.heap)) (q_c_putNumber_4 dC dI h0 b tb n pg lk number cb f (va_A [(h0, .inr (7, [.ref b, .ref tb, .int (nI n), .int pg, .int lk])), (b, .inl (cb, 60160, .inl f))] sz)) 0 0 (va_A [(h0, .inr (7, [.ref b, .ref tb, .int (nI n), .int pg, .int lk])), (b, .inl (cb, 60160, .inl f))] sz) := by
  refine Met.ofW (cc := b_OutFile_putNumber) (maxL := 4) (ret := none) (by decide) rfl ?_
  intro p e s m args below meth c s₁ B hml hv
  obtain ⟨rfl, hsz, hP, hK, hD0, hF⟩ := hv
  have hx := B.exec
  have hb := B.bytes
  have hr := B.returns
  have hwd : ∀ w ∈ gT, w.before _ s = true := fun w h => atoms_spec (ws := w_OutFile_putNumber) B.pre w (List.mem_cons_of_mem _ h)
  have hown : s.vm.findClass R_OutFile = some m.cls := findClass_of_methodNamed B.named
  have hlocks := B.notSynchronized
  subst hsz
  have hD := hD0.self (sz := s.heap.size)
  generalize hAe : va_A [(h0, .inr (7, [.ref b, .ref tb, .int (nI n), .int pg, .int lk])), (b, .inl (cb, 60160, .inl f))] s.heap.size = A at hD hF ⊢
  have hA : ∀ q : Nat, s.heap.size ≤ q → A q := fun q h => by rw [← hAe]; exact Or.inr h
  have hS : va_S A s.heap s.heap [] := va_S.rf
  have hP : va_P (dC, dI) vcl [(h0, .inr (7, [.ref b, .ref tb, .int (nI n), .int pg, .int lk])), (b, .inl (cb, 60160, .inl f))] s.heap := hP
  have hl := lv_entry ([.ref h0, .int number, .int 4]) (n := 4) (Nat.le_of_ble_eq_true rfl)
  rw [lg_entry_eq]
  generalize (lg_sl ([.ref h0, .int number, .int 4]) ++ List.replicate (4 - (lg_sl ([.ref h0, .int number, .int 4])).length) Slot.unset).toArray = ls at hl ⊢
  have hl : lv_has ls 4 [(0, .ref h0), (1, .int number), (2, .int 4)] := hl
  refine lv_iconst (v := 0) hx hb d_OutFile_putNumber_0 (by decide) ?_
  refine lv_istore_n (lv' := [(3, .int 0), (0, .ref h0), (1, .int number), (2, .int 4)]) hx hb d_OutFile_putNumber_1 rfl hl (by decide) rfl ?_
  clear hl
  intro ls hl
  refine lv_iload_n hx hb d_OutFile_putNumber_2 rfl (lv_at hl 0 rfl) ?_
  refine lv_iload_n hx hb d_OutFile_putNumber_3 rfl (lv_at hl 3 rfl) ?_
  refine lv_icmp_ge (tgt := 51) hx hb d_OutFile_putNumber_4 (by decide) (fun c4 => absurd c4 (by decide)) (fun _ => ?_)
  refine lv_aload_n hx hb d_OutFile_putNumber_7 rfl (lv_at hl 1 rfl) ?_
  refine va_get (D := (dC, dI)) (ci := 7) (v := .int (nI n)) (C := R_OutFile) (T := F_OutFile) (N := 5) hx hb hwd i_OutFile hown hK hP 0 rfl rfl 2 (by decide) (hwd _ wd_3_217) (fun _ h9 => h9) rfl d_OutFile_putNumber_8 ?_
  refine lv_aload_n hx hb d_OutFile_putNumber_11 rfl (lv_at hl 1 rfl) ?_
  refine va_get (D := (dC, dI)) (ci := 7) (v := .ref b) (C := R_OutFile) (T := F_OutFile) (N := 5) hx hb hwd i_OutFile hown hK hP 0 rfl rfl 0 (by decide) (hwd _ wd_3_213) (fun _ h9 => h9) rfl d_OutFile_putNumber_12 ?_
  refine va_alen (v := 60160) hx hb hK hP 1 0 rfl rfl rfl d_OutFile_putNumber_15 ?_
  refine lv_icmp_ge (tgt := 51) hx hb d_OutFile_putNumber_16 (by decide) (fun c16 => absurd c16 (nI_ge (a := n + 0) (b := 60160) (by omega) (by omega))) (fun c16 => ?_)
  refine lv_aload_n hx hb d_OutFile_putNumber_19 rfl (lv_at hl 1 rfl) ?_
  refine va_get (D := (dC, dI)) (ci := 7) (v := .ref b) (C := R_OutFile) (T := F_OutFile) (N := 5) hx hb hwd i_OutFile hown hK hP 0 rfl rfl 0 (by decide) (hwd _ wd_3_213) (fun _ h9 => h9) rfl d_OutFile_putNumber_20 ?_
  refine lv_aload_n hx hb d_OutFile_putNumber_23 rfl (lv_at hl 1 rfl) ?_
  refine va_get (D := (dC, dI)) (ci := 7) (v := .int (nI n)) (C := R_OutFile) (T := F_OutFile) (N := 5) hx hb hwd i_OutFile hown hK hP 0 rfl rfl 2 (by decide) (hwd _ wd_3_217) (fun _ h9 => h9) rfl d_OutFile_putNumber_24 ?_
  refine lv_iload_n hx hb d_OutFile_putNumber_27 rfl (lv_at hl 2 rfl) ?_
  refine lv_bipush (v := 8) hx hb d_OutFile_putNumber_28 (by decide) ?_
  refine lv_iload_n hx hb d_OutFile_putNumber_30 rfl (lv_at hl 0 rfl) ?_
  refine lv_imul hx hb d_OutFile_putNumber_31 ?_
  refine lv_topi (fun y_1 ey_1 => ?_)
  obtain rfl : y_1 = (0 : Int32) := ey_1.trans (by decide)
  refine lv_ishr hx hb d_OutFile_putNumber_32 ?_
  refine lv_i2b (v := (number >>> (0 &&& 31)).toInt8.toInt32) hx hb d_OutFile_putNumber_33 rfl ?_
  refine va_bast hx hb hK hP hD hS 1 0 rfl rfl (vp_in_nI (n := n + 0) (by omega) (by omega)) d_OutFile_putNumber_34 ?_
  clear hP hD hS
  intro H locs hP hD hS
  rw [show (nI n).toNatClampNeg = n from nI_clamp (by omega)] at hP hD
  rw [pk_vb] at hP hD
  replace hP : va_P (dC, dI) vcl [(h0, .inr (7, [.ref b, .ref tb, .int (nI n), .int pg, .int lk])), (b, .inl (cb, 60160, .inl (upd f n ((number >>> (0 &&& 31)).toInt8.toInt32))))] H := hP
  replace hD : va_D A [(h0, .inr (7, [.ref b, .ref tb, .int (nI n), .int pg, .int lk])), (b, .inl (cb, 60160, .inl (upd f n ((number >>> (0 &&& 31)).toInt8.toInt32))))] := hD
  refine lv_aload_n hx hb d_OutFile_putNumber_35 rfl (lv_at hl 1 rfl) ?_
  refine lv_dup hx hb d_OutFile_putNumber_36 rfl ?_
  refine va_get (D := (dC, dI)) (ci := 7) (v := .int (nI n)) (C := R_OutFile) (T := F_OutFile) (N := 5) hx hb hwd i_OutFile hown hK hP 0 rfl rfl 2 (by decide) (hwd _ wd_3_217) (fun _ h9 => h9) rfl d_OutFile_putNumber_37 ?_
  refine lv_iconst (v := 1) hx hb d_OutFile_putNumber_40 (by decide) ?_
  refine lv_iadd hx hb d_OutFile_putNumber_41 ?_
  refine lv_topi (fun y_2 ey_2 => ?_)
  obtain rfl : y_2 = nI (n + 1) := ey_2.trans (nI_1 (n + 0))
  refine va_put (D := (dC, dI)) (ci := 7) (v := .int (nI (n + 1))) (ty := .int) (C := R_OutFile) (T := F_OutFile) (N := 5) hx hb hwd i_OutFile t_OutFile to_OutFile no_OutFile hown hK hP hD hS 0 rfl rfl 2 (by decide) (hwd _ wd_3_217) (fun _ h9 => h9) rfl (by decide +kernel) rfl rfl (Nat.le_of_ble_eq_true rfl) d_OutFile_putNumber_42 ?_
  clear hP hD hS
  intro H locs hP hD hS
  replace hP : va_P (dC, dI) vcl [(h0, .inr (7, [.ref b, .ref tb, .int (nI (n + 1)), .int pg, .int lk])), (b, .inl (cb, 60160, .inl (upd f n ((number >>> (0 &&& 31)).toInt8.toInt32))))] H := hP
  replace hD : va_D A [(h0, .inr (7, [.ref b, .ref tb, .int (nI (n + 1)), .int pg, .int lk])), (b, .inl (cb, 60160, .inl (upd f n ((number >>> (0 &&& 31)).toInt8.toInt32))))] := hD
  refine lv_iinc (v := 1) (lv' := [(3, .int 1), (0, .ref h0), (1, .int number), (2, .int 4)]) hx hb d_OutFile_putNumber_45 hl (k := 0) rfl (by decide) (by decide) rfl ?_
  clear hl
  intro ls hl
  refine lv_goto (tgt := 2) hx hb d_OutFile_putNumber_48 (by decide) ?_
  refine lv_iload_n hx hb d_OutFile_putNumber_2 rfl (lv_at hl 0 rfl) ?_
  refine lv_iload_n hx hb d_OutFile_putNumber_3 rfl (lv_at hl 3 rfl) ?_
  refine lv_icmp_ge (tgt := 51) hx hb d_OutFile_putNumber_4 (by decide) (fun c4 => absurd c4 (by decide)) (fun _ => ?_)
  refine lv_aload_n hx hb d_OutFile_putNumber_7 rfl (lv_at hl 1 rfl) ?_
  refine va_get (D := (dC, dI)) (ci := 7) (v := .int (nI (n + 1))) (C := R_OutFile) (T := F_OutFile) (N := 5) hx hb hwd i_OutFile hown hK hP 0 rfl rfl 2 (by decide) (hwd _ wd_3_217) (fun _ h9 => h9) rfl d_OutFile_putNumber_8 ?_
  refine lv_aload_n hx hb d_OutFile_putNumber_11 rfl (lv_at hl 1 rfl) ?_
  refine va_get (D := (dC, dI)) (ci := 7) (v := .ref b) (C := R_OutFile) (T := F_OutFile) (N := 5) hx hb hwd i_OutFile hown hK hP 0 rfl rfl 0 (by decide) (hwd _ wd_3_213) (fun _ h9 => h9) rfl d_OutFile_putNumber_12 ?_
  refine va_alen (v := 60160) hx hb hK hP 1 0 rfl rfl rfl d_OutFile_putNumber_15 ?_
  refine lv_icmp_ge (tgt := 51) hx hb d_OutFile_putNumber_16 (by decide) (fun c16 => absurd c16 (nI_ge (a := n + 1) (b := 60160) (by omega) (by omega))) (fun c16 => ?_)
  refine lv_aload_n hx hb d_OutFile_putNumber_19 rfl (lv_at hl 1 rfl) ?_
  refine va_get (D := (dC, dI)) (ci := 7) (v := .ref b) (C := R_OutFile) (T := F_OutFile) (N := 5) hx hb hwd i_OutFile hown hK hP 0 rfl rfl 0 (by decide) (hwd _ wd_3_213) (fun _ h9 => h9) rfl d_OutFile_putNumber_20 ?_
  refine lv_aload_n hx hb d_OutFile_putNumber_23 rfl (lv_at hl 1 rfl) ?_
  refine va_get (D := (dC, dI)) (ci := 7) (v := .int (nI (n + 1))) (C := R_OutFile) (T := F_OutFile) (N := 5) hx hb hwd i_OutFile hown hK hP 0 rfl rfl 2 (by decide) (hwd _ wd_3_217) (fun _ h9 => h9) rfl d_OutFile_putNumber_24 ?_
  refine lv_iload_n hx hb d_OutFile_putNumber_27 rfl (lv_at hl 2 rfl) ?_
  refine lv_bipush (v := 8) hx hb d_OutFile_putNumber_28 (by decide) ?_
  refine lv_iload_n hx hb d_OutFile_putNumber_30 rfl (lv_at hl 0 rfl) ?_
  refine lv_imul hx hb d_OutFile_putNumber_31 ?_
  refine lv_topi (fun y_3 ey_3 => ?_)
  obtain rfl : y_3 = (8 : Int32) := ey_3.trans (by decide)
  refine lv_ishr hx hb d_OutFile_putNumber_32 ?_
  refine lv_i2b (v := (number >>> (8 &&& 31)).toInt8.toInt32) hx hb d_OutFile_putNumber_33 rfl ?_
  refine va_bast hx hb hK hP hD hS 1 0 rfl rfl (vp_in_nI (n := n + 1) (by omega) (by omega)) d_OutFile_putNumber_34 ?_
  clear hP hD hS
  intro H locs hP hD hS
  rw [show (nI (n + 1)).toNatClampNeg = n + 1 from nI_clamp (by omega)] at hP hD
  rw [pk_vb] at hP hD
  replace hP : va_P (dC, dI) vcl [(h0, .inr (7, [.ref b, .ref tb, .int (nI (n + 1)), .int pg, .int lk])), (b, .inl (cb, 60160, .inl (upd (upd f n ((number >>> (0 &&& 31)).toInt8.toInt32)) (n + 1) ((number >>> (8 &&& 31)).toInt8.toInt32))))] H := hP
  replace hD : va_D A [(h0, .inr (7, [.ref b, .ref tb, .int (nI (n + 1)), .int pg, .int lk])), (b, .inl (cb, 60160, .inl (upd (upd f n ((number >>> (0 &&& 31)).toInt8.toInt32)) (n + 1) ((number >>> (8 &&& 31)).toInt8.toInt32))))] := hD
  refine lv_aload_n hx hb d_OutFile_putNumber_35 rfl (lv_at hl 1 rfl) ?_
  refine lv_dup hx hb d_OutFile_putNumber_36 rfl ?_
  refine va_get (D := (dC, dI)) (ci := 7) (v := .int (nI (n + 1))) (C := R_OutFile) (T := F_OutFile) (N := 5) hx hb hwd i_OutFile hown hK hP 0 rfl rfl 2 (by decide) (hwd _ wd_3_217) (fun _ h9 => h9) rfl d_OutFile_putNumber_37 ?_
  refine lv_iconst (v := 1) hx hb d_OutFile_putNumber_40 (by decide) ?_
  refine lv_iadd hx hb d_OutFile_putNumber_41 ?_
  refine lv_topi (fun y_4 ey_4 => ?_)
  obtain rfl : y_4 = nI (n + 2) := ey_4.trans (nI_1 (n + 1))
  refine va_put (D := (dC, dI)) (ci := 7) (v := .int (nI (n + 2))) (ty := .int) (C := R_OutFile) (T := F_OutFile) (N := 5) hx hb hwd i_OutFile t_OutFile to_OutFile no_OutFile hown hK hP hD hS 0 rfl rfl 2 (by decide) (hwd _ wd_3_217) (fun _ h9 => h9) rfl (by decide +kernel) rfl rfl (Nat.le_of_ble_eq_true rfl) d_OutFile_putNumber_42 ?_
  clear hP hD hS
  intro H locs hP hD hS
  replace hP : va_P (dC, dI) vcl [(h0, .inr (7, [.ref b, .ref tb, .int (nI (n + 2)), .int pg, .int lk])), (b, .inl (cb, 60160, .inl (upd (upd f n ((number >>> (0 &&& 31)).toInt8.toInt32)) (n + 1) ((number >>> (8 &&& 31)).toInt8.toInt32))))] H := hP
  replace hD : va_D A [(h0, .inr (7, [.ref b, .ref tb, .int (nI (n + 2)), .int pg, .int lk])), (b, .inl (cb, 60160, .inl (upd (upd f n ((number >>> (0 &&& 31)).toInt8.toInt32)) (n + 1) ((number >>> (8 &&& 31)).toInt8.toInt32))))] := hD
  refine lv_iinc (v := 2) (lv' := [(3, .int 2), (0, .ref h0), (1, .int number), (2, .int 4)]) hx hb d_OutFile_putNumber_45 hl (k := 0) rfl (by decide) (by decide) rfl ?_
  clear hl
  intro ls hl
  refine lv_goto (tgt := 2) hx hb d_OutFile_putNumber_48 (by decide) ?_
  refine lv_iload_n hx hb d_OutFile_putNumber_2 rfl (lv_at hl 0 rfl) ?_
  refine lv_iload_n hx hb d_OutFile_putNumber_3 rfl (lv_at hl 3 rfl) ?_
  refine lv_icmp_ge (tgt := 51) hx hb d_OutFile_putNumber_4 (by decide) (fun c4 => absurd c4 (by decide)) (fun _ => ?_)
  refine lv_aload_n hx hb d_OutFile_putNumber_7 rfl (lv_at hl 1 rfl) ?_
  refine va_get (D := (dC, dI)) (ci := 7) (v := .int (nI (n + 2))) (C := R_OutFile) (T := F_OutFile) (N := 5) hx hb hwd i_OutFile hown hK hP 0 rfl rfl 2 (by decide) (hwd _ wd_3_217) (fun _ h9 => h9) rfl d_OutFile_putNumber_8 ?_
  refine lv_aload_n hx hb d_OutFile_putNumber_11 rfl (lv_at hl 1 rfl) ?_
  refine va_get (D := (dC, dI)) (ci := 7) (v := .ref b) (C := R_OutFile) (T := F_OutFile) (N := 5) hx hb hwd i_OutFile hown hK hP 0 rfl rfl 0 (by decide) (hwd _ wd_3_213) (fun _ h9 => h9) rfl d_OutFile_putNumber_12 ?_
  refine va_alen (v := 60160) hx hb hK hP 1 0 rfl rfl rfl d_OutFile_putNumber_15 ?_
  refine lv_icmp_ge (tgt := 51) hx hb d_OutFile_putNumber_16 (by decide) (fun c16 => absurd c16 (nI_ge (a := n + 2) (b := 60160) (by omega) (by omega))) (fun c16 => ?_)
  refine lv_aload_n hx hb d_OutFile_putNumber_19 rfl (lv_at hl 1 rfl) ?_
  refine va_get (D := (dC, dI)) (ci := 7) (v := .ref b) (C := R_OutFile) (T := F_OutFile) (N := 5) hx hb hwd i_OutFile hown hK hP 0 rfl rfl 0 (by decide) (hwd _ wd_3_213) (fun _ h9 => h9) rfl d_OutFile_putNumber_20 ?_
  refine lv_aload_n hx hb d_OutFile_putNumber_23 rfl (lv_at hl 1 rfl) ?_
  refine va_get (D := (dC, dI)) (ci := 7) (v := .int (nI (n + 2))) (C := R_OutFile) (T := F_OutFile) (N := 5) hx hb hwd i_OutFile hown hK hP 0 rfl rfl 2 (by decide) (hwd _ wd_3_217) (fun _ h9 => h9) rfl d_OutFile_putNumber_24 ?_
  refine lv_iload_n hx hb d_OutFile_putNumber_27 rfl (lv_at hl 2 rfl) ?_
  refine lv_bipush (v := 8) hx hb d_OutFile_putNumber_28 (by decide) ?_
  refine lv_iload_n hx hb d_OutFile_putNumber_30 rfl (lv_at hl 0 rfl) ?_
  refine lv_imul hx hb d_OutFile_putNumber_31 ?_
  refine lv_topi (fun y_5 ey_5 => ?_)
  obtain rfl : y_5 = (16 : Int32) := ey_5.trans (by decide)
  refine lv_ishr hx hb d_OutFile_putNumber_32 ?_
  refine lv_i2b (v := (number >>> (16 &&& 31)).toInt8.toInt32) hx hb d_OutFile_putNumber_33 rfl ?_
  refine va_bast hx hb hK hP hD hS 1 0 rfl rfl (vp_in_nI (n := n + 2) (by omega) (by omega)) d_OutFile_putNumber_34 ?_
  clear hP hD hS
  intro H locs hP hD hS
  rw [show (nI (n + 2)).toNatClampNeg = n + 2 from nI_clamp (by omega)] at hP hD
  rw [pk_vb] at hP hD
  replace hP : va_P (dC, dI) vcl [(h0, .inr (7, [.ref b, .ref tb, .int (nI (n + 2)), .int pg, .int lk])), (b, .inl (cb, 60160, .inl (upd (upd (upd f n ((number >>> (0 &&& 31)).toInt8.toInt32)) (n + 1) ((number >>> (8 &&& 31)).toInt8.toInt32)) (n + 2) ((number >>> (16 &&& 31)).toInt8.toInt32))))] H := hP
  replace hD : va_D A [(h0, .inr (7, [.ref b, .ref tb, .int (nI (n + 2)), .int pg, .int lk])), (b, .inl (cb, 60160, .inl (upd (upd (upd f n ((number >>> (0 &&& 31)).toInt8.toInt32)) (n + 1) ((number >>> (8 &&& 31)).toInt8.toInt32)) (n + 2) ((number >>> (16 &&& 31)).toInt8.toInt32))))] := hD
  refine lv_aload_n hx hb d_OutFile_putNumber_35 rfl (lv_at hl 1 rfl) ?_
  refine lv_dup hx hb d_OutFile_putNumber_36 rfl ?_
  refine va_get (D := (dC, dI)) (ci := 7) (v := .int (nI (n + 2))) (C := R_OutFile) (T := F_OutFile) (N := 5) hx hb hwd i_OutFile hown hK hP 0 rfl rfl 2 (by decide) (hwd _ wd_3_217) (fun _ h9 => h9) rfl d_OutFile_putNumber_37 ?_
  refine lv_iconst (v := 1) hx hb d_OutFile_putNumber_40 (by decide) ?_
  refine lv_iadd hx hb d_OutFile_putNumber_41 ?_
  refine lv_topi (fun y_6 ey_6 => ?_)
  obtain rfl : y_6 = nI (n + 3) := ey_6.trans (nI_1 (n + 2))
  refine va_put (D := (dC, dI)) (ci := 7) (v := .int (nI (n + 3))) (ty := .int) (C := R_OutFile) (T := F_OutFile) (N := 5) hx hb hwd i_OutFile t_OutFile to_OutFile no_OutFile hown hK hP hD hS 0 rfl rfl 2 (by decide) (hwd _ wd_3_217) (fun _ h9 => h9) rfl (by decide +kernel) rfl rfl (Nat.le_of_ble_eq_true rfl) d_OutFile_putNumber_42 ?_
  clear hP hD hS
  intro H locs hP hD hS
  replace hP : va_P (dC, dI) vcl [(h0, .inr (7, [.ref b, .ref tb, .int (nI (n + 3)), .int pg, .int lk])), (b, .inl (cb, 60160, .inl (upd (upd (upd f n ((number >>> (0 &&& 31)).toInt8.toInt32)) (n + 1) ((number >>> (8 &&& 31)).toInt8.toInt32)) (n + 2) ((number >>> (16 &&& 31)).toInt8.toInt32))))] H := hP
  replace hD : va_D A [(h0, .inr (7, [.ref b, .ref tb, .int (nI (n + 3)), .int pg, .int lk])), (b, .inl (cb, 60160, .inl (upd (upd (upd f n ((number >>> (0 &&& 31)).toInt8.toInt32)) (n + 1) ((number >>> (8 &&& 31)).toInt8.toInt32)) (n + 2) ((number >>> (16 &&& 31)).toInt8.toInt32))))] := hD
  refine lv_iinc (v := 3) (lv' := [(3, .int 3), (0, .ref h0), (1, .int number), (2, .int 4)]) hx hb d_OutFile_putNumber_45 hl (k := 0) rfl (by decide) (by decide) rfl ?_
  clear hl
  intro ls hl
  refine lv_goto (tgt := 2) hx hb d_OutFile_putNumber_48 (by decide) ?_
  refine lv_iload_n hx hb d_OutFile_putNumber_2 rfl (lv_at hl 0 rfl) ?_
  refine lv_iload_n hx hb d_OutFile_putNumber_3 rfl (lv_at hl 3 rfl) ?_
  refine lv_icmp_ge (tgt := 51) hx hb d_OutFile_putNumber_4 (by decide) (fun c4 => absurd c4 (by decide)) (fun _ => ?_)
  refine lv_aload_n hx hb d_OutFile_putNumber_7 rfl (lv_at hl 1 rfl) ?_
  refine va_get (D := (dC, dI)) (ci := 7) (v := .int (nI (n + 3))) (C := R_OutFile) (T := F_OutFile) (N := 5) hx hb hwd i_OutFile hown hK hP 0 rfl rfl 2 (by decide) (hwd _ wd_3_217) (fun _ h9 => h9) rfl d_OutFile_putNumber_8 ?_
  refine lv_aload_n hx hb d_OutFile_putNumber_11 rfl (lv_at hl 1 rfl) ?_
  refine va_get (D := (dC, dI)) (ci := 7) (v := .ref b) (C := R_OutFile) (T := F_OutFile) (N := 5) hx hb hwd i_OutFile hown hK hP 0 rfl rfl 0 (by decide) (hwd _ wd_3_213) (fun _ h9 => h9) rfl d_OutFile_putNumber_12 ?_
  refine va_alen (v := 60160) hx hb hK hP 1 0 rfl rfl rfl d_OutFile_putNumber_15 ?_
  refine lv_icmp_ge (tgt := 51) hx hb d_OutFile_putNumber_16 (by decide) (fun c16 => absurd c16 (nI_ge (a := n + 3) (b := 60160) (by omega) (by omega))) (fun c16 => ?_)
  refine lv_aload_n hx hb d_OutFile_putNumber_19 rfl (lv_at hl 1 rfl) ?_
  refine va_get (D := (dC, dI)) (ci := 7) (v := .ref b) (C := R_OutFile) (T := F_OutFile) (N := 5) hx hb hwd i_OutFile hown hK hP 0 rfl rfl 0 (by decide) (hwd _ wd_3_213) (fun _ h9 => h9) rfl d_OutFile_putNumber_20 ?_
  refine lv_aload_n hx hb d_OutFile_putNumber_23 rfl (lv_at hl 1 rfl) ?_
  refine va_get (D := (dC, dI)) (ci := 7) (v := .int (nI (n + 3))) (C := R_OutFile) (T := F_OutFile) (N := 5) hx hb hwd i_OutFile hown hK hP 0 rfl rfl 2 (by decide) (hwd _ wd_3_217) (fun _ h9 => h9) rfl d_OutFile_putNumber_24 ?_
  refine lv_iload_n hx hb d_OutFile_putNumber_27 rfl (lv_at hl 2 rfl) ?_
  refine lv_bipush (v := 8) hx hb d_OutFile_putNumber_28 (by decide) ?_
  refine lv_iload_n hx hb d_OutFile_putNumber_30 rfl (lv_at hl 0 rfl) ?_
  refine lv_imul hx hb d_OutFile_putNumber_31 ?_
  refine lv_topi (fun y_7 ey_7 => ?_)
  obtain rfl : y_7 = (24 : Int32) := ey_7.trans (by decide)
  refine lv_ishr hx hb d_OutFile_putNumber_32 ?_
  refine lv_i2b (v := (number >>> (24 &&& 31)).toInt8.toInt32) hx hb d_OutFile_putNumber_33 rfl ?_
  refine va_bast hx hb hK hP hD hS 1 0 rfl rfl (vp_in_nI (n := n + 3) (by omega) (by omega)) d_OutFile_putNumber_34 ?_
  clear hP hD hS
  intro H locs hP hD hS
  rw [show (nI (n + 3)).toNatClampNeg = n + 3 from nI_clamp (by omega)] at hP hD
  rw [pk_vb] at hP hD
  replace hP : va_P (dC, dI) vcl [(h0, .inr (7, [.ref b, .ref tb, .int (nI (n + 3)), .int pg, .int lk])), (b, .inl (cb, 60160, .inl (upd (upd (upd (upd f n ((number >>> (0 &&& 31)).toInt8.toInt32)) (n + 1) ((number >>> (8 &&& 31)).toInt8.toInt32)) (n + 2) ((number >>> (16 &&& 31)).toInt8.toInt32)) (n + 3) ((number >>> (24 &&& 31)).toInt8.toInt32))))] H := hP
  replace hD : va_D A [(h0, .inr (7, [.ref b, .ref tb, .int (nI (n + 3)), .int pg, .int lk])), (b, .inl (cb, 60160, .inl (upd (upd (upd (upd f n ((number >>> (0 &&& 31)).toInt8.toInt32)) (n + 1) ((number >>> (8 &&& 31)).toInt8.toInt32)) (n + 2) ((number >>> (16 &&& 31)).toInt8.toInt32)) (n + 3) ((number >>> (24 &&& 31)).toInt8.toInt32))))] := hD
  refine lv_aload_n hx hb d_OutFile_putNumber_35 rfl (lv_at hl 1 rfl) ?_
  refine lv_dup hx hb d_OutFile_putNumber_36 rfl ?_
  refine va_get (D := (dC, dI)) (ci := 7) (v := .int (nI (n + 3))) (C := R_OutFile) (T := F_OutFile) (N := 5) hx hb hwd i_OutFile hown hK hP 0 rfl rfl 2 (by decide) (hwd _ wd_3_217) (fun _ h9 => h9) rfl d_OutFile_putNumber_37 ?_
  refine lv_iconst (v := 1) hx hb d_OutFile_putNumber_40 (by decide) ?_
  refine lv_iadd hx hb d_OutFile_putNumber_41 ?_
  refine lv_topi (fun y_8 ey_8 => ?_)
  obtain rfl : y_8 = nI (n + 4) := ey_8.trans (nI_1 (n + 3))
  refine va_put (D := (dC, dI)) (ci := 7) (v := .int (nI (n + 4))) (ty := .int) (C := R_OutFile) (T := F_OutFile) (N := 5) hx hb hwd i_OutFile t_OutFile to_OutFile no_OutFile hown hK hP hD hS 0 rfl rfl 2 (by decide) (hwd _ wd_3_217) (fun _ h9 => h9) rfl (by decide +kernel) rfl rfl (Nat.le_of_ble_eq_true rfl) d_OutFile_putNumber_42 ?_
  clear hP hD hS
  intro H locs hP hD hS
  replace hP : va_P (dC, dI) vcl [(h0, .inr (7, [.ref b, .ref tb, .int (nI (n + 4)), .int pg, .int lk])), (b, .inl (cb, 60160, .inl (upd (upd (upd (upd f n ((number >>> (0 &&& 31)).toInt8.toInt32)) (n + 1) ((number >>> (8 &&& 31)).toInt8.toInt32)) (n + 2) ((number >>> (16 &&& 31)).toInt8.toInt32)) (n + 3) ((number >>> (24 &&& 31)).toInt8.toInt32))))] H := hP
  replace hD : va_D A [(h0, .inr (7, [.ref b, .ref tb, .int (nI (n + 4)), .int pg, .int lk])), (b, .inl (cb, 60160, .inl (upd (upd (upd (upd f n ((number >>> (0 &&& 31)).toInt8.toInt32)) (n + 1) ((number >>> (8 &&& 31)).toInt8.toInt32)) (n + 2) ((number >>> (16 &&& 31)).toInt8.toInt32)) (n + 3) ((number >>> (24 &&& 31)).toInt8.toInt32))))] := hD
  refine lv_iinc (v := 4) (lv' := [(3, .int 4), (0, .ref h0), (1, .int number), (2, .int 4)]) hx hb d_OutFile_putNumber_45 hl (k := 0) rfl (by decide) (by decide) rfl ?_
  clear hl
  intro ls hl
  refine lv_goto (tgt := 2) hx hb d_OutFile_putNumber_48 (by decide) ?_
  refine lv_iload_n hx hb d_OutFile_putNumber_2 rfl (lv_at hl 0 rfl) ?_
  refine lv_iload_n hx hb d_OutFile_putNumber_3 rfl (lv_at hl 3 rfl) ?_
  refine lv_icmp_ge (tgt := 51) hx hb d_OutFile_putNumber_4 (by decide) (fun _ => ?_) (fun c4 => absurd (by decide) c4)
  have hP9 := hP.sub (ws' := [(h0, .inr (7, [.ref b, .ref tb, .int (nI (n + 4)), .int pg, .int lk])), (b, .inl (cb, 60160, .inl (upd (upd (upd (upd f n ((number >>> (0 &&& 31)).toInt8.toInt32)) (n + 1) ((number >>> (8 &&& 31)).toInt8.toInt32)) (n + 2) ((number >>> (16 &&& 31)).toInt8.toInt32)) (n + 3) ((number >>> (24 &&& 31)).toInt8.toInt32))))]) [0, 1] rfl
  have hD9 := hD.sub (ws' := [(h0, .inr (7, [.ref b, .ref tb, .int (nI (n + 4)), .int pg, .int lk])), (b, .inl (cb, 60160, .inl (upd (upd (upd (upd f n ((number >>> (0 &&& 31)).toInt8.toInt32)) (n + 1) ((number >>> (8 &&& 31)).toInt8.toInt32)) (n + 2) ((number >>> (16 &&& 31)).toInt8.toInt32)) (n + 3) ((number >>> (24 &&& 31)).toInt8.toInt32))))]) [0, 1] (by decide) rfl
  have hK9 := hK.sub (tys' := [(cb, .byte)]) [0] rfl
  exact W.vret hx hb hr (fun t ht hW => ⟨⟨(), rfl, (trivial), by rw [ht]; exact hP9, va_K.moved hW.alike hK9, hD9⟩, hS.F ht⟩) hS.2.2 d_OutFile_putNumber_51

abbrev at_c_OutFile_begin (dC : Nat → ClassId) (dI : Nat → Nat → Nat) (h0 : Nat) (b : Nat) (tb : Nat) (len : Int32) (pg : Int32) (lk : Int32) (cb : ClassId) (f : Nat → Int32) (A : Nat → Prop) (u : Unit) (t : State) : Prop := match u with
  | _ => va_P (dC, dI) vcl [(h0, .inr (7, [.ref b, .ref tb, .int (nI 8), .int 0, .int (nI 4)])), (b, .inl (cb, 60160, .inl (upd (upd (upd (upd (upd (upd (upd (upd f 0 (((73 : Int32) >>> (0 &&& 31)).toInt8.toInt32)) 1 (((73 : Int32) >>> (0 &&& 31)).toInt8.toInt32)) 2 (((42 : Int32) >>> (0 &&& 31)).toInt8.toInt32)) 3 (((42 : Int32) >>> (8 &&& 31)).toInt8.toInt32)) 4 (((0 : Int32) >>> (0 &&& 31)).toInt8.toInt32)) 5 (((0 : Int32) >>> (8 &&& 31)).toInt8.toInt32)) 6 (((0 : Int32) >>> (16 &&& 31)).toInt8.toInt32)) 7 (((0 : Int32) >>> (24 &&& 31)).toInt8.toInt32))))] t.heap ∧ va_K (dC, dI) vcl [(cb, .byte)] t ∧ va_D A [(h0, .inr (7, [.ref b, .ref tb, .int (nI 8), .int 0, .int (nI 4)])), (b, .inl (cb, 60160, .inl (upd (upd (upd (upd (upd (upd (upd (upd f 0 (((73 : Int32) >>> (0 &&& 31)).toInt8.toInt32)) 1 (((73 : Int32) >>> (0 &&& 31)).toInt8.toInt32)) 2 (((42 : Int32) >>> (0 &&& 31)).toInt8.toInt32)) 3 (((42 : Int32) >>> (8 &&& 31)).toInt8.toInt32)) 4 (((0 : Int32) >>> (0 &&& 31)).toInt8.toInt32)) 5 (((0 : Int32) >>> (8 &&& 31)).toInt8.toInt32)) 6 (((0 : Int32) >>> (16 &&& 31)).toInt8.toInt32)) 7 (((0 : Int32) >>> (24 &&& 31)).toInt8.toInt32))))]
abbrev po_c_OutFile_begin (h0 : Nat) (b : Nat) (tb : Nat) (len : Int32) (pg : Int32) (lk : Int32) (cb : ClassId) (f : Nat → Int32) (u : Unit) : Prop := match u with
  | _ => True
abbrev q_c_OutFile_begin (dC : Nat → ClassId) (dI : Nat → Nat → Nat) (h0 : Nat) (b : Nat) (tb : Nat) (len : Int32) (pg : Int32) (lk : Int32) (cb : ClassId) (f : Nat → Int32) (A : Nat → Prop) : Array Value → State → Outcome → State → Prop := va_Qv (po_c_OutFile_begin h0 b tb len pg lk cb f) (at_c_OutFile_begin dC dI h0 b tb len pg lk cb f A) A
abbrev rm_c_OutFile_begin : Room := { frames := 1, cells := 0, slots := 0, locals := 23 }
set_option maxHeartbeats 4000000 in
set_option maxRecDepth 100000 in
theorem c_OutFile_begin (l : Launch) (dC : Nat → ClassId) (dI : Nat → Nat → Nat) (tt : Nat → Nat) (h0 : Nat) (b : Nat) (tb : Nat) (len : Int32) (pg : Int32) (lk : Int32) (cb : ClassId) (f : Nat → Int32) (sz : Nat)  : Met l y_OutFile_begin w_OutFile_begin rm_c_OutFile_begin (va_Pc [.ref h0] (fun U => U.heap.size = sz ∧ va_P (dC, dI) vcl [(h0, .inr (7, [.ref b, .ref tb, .int len, .int pg, .int lk])), (b, .inl (cb, 60160, .inl f))] U.heap ∧ va_K (dC, dI) vcl [(cb, .byte)] U ∧ va_D (fun _ => True) [(h0, .inr (7, [.ref b, .ref tb, .int len, .int pg, .int lk])), (b, .inl (cb, 60160, .inl f))] ∧ SF tt (va_A [(h0, .inr (7, [.ref b, .ref tb, .int len, .int pg, .int lk])), (b, .inl (cb, 60160, .inl f))] sz) U U.heap)) (q_c_OutFile_begin dC dI h0 b tb len pg lk cb f (va_A [(h0, .inr (7, [.ref b, .ref tb, .int len, .int pg, .int lk])), (b, .inl (cb, 60160, .inl f))] sz)) 0 0 (va_A [(h0, .inr (7, [.ref b, .ref tb, .int len, .int pg, .int lk])), (b, .inl (cb, 60160, .inl f))] sz) := by
  refine Met.ofW (cc := b_OutFile_begin) (maxL := 1) (ret := none) (by decide) rfl ?_
  intro p e s m args below meth c s₁ B hml hv
  obtain ⟨rfl, hsz, hP, hK, hD0, hF⟩ := hv
  have hx := B.exec
  have hb := B.bytes
  have hr := B.returns
  have hwd : ∀ w ∈ gT, w.before _ s = true := fun w h => atoms_spec (ws := w_OutFile_begin) B.pre w (List.mem_cons_of_mem _ h)
  have hown : s.vm.findClass R_OutFile = some m.cls := findClass_of_methodNamed B.named
  have hlocks := B.notSynchronized
  subst hsz
  have hD := hD0.self (sz := s.heap.size)
  generalize hAe : va_A [(h0, .inr (7, [.ref b, .ref tb, .int len, .int pg, .int lk])), (b, .inl (cb, 60160, .inl f))] s.heap.size = A at hD hF ⊢
  have hA : ∀ q : Nat, s.heap.size ≤ q → A q := fun q h => by rw [← hAe]; exact Or.inr h
  have hS : va_S A s.heap s.heap [] := va_S.rf
  have hP : va_P (dC, dI) vcl [(h0, .inr (7, [.ref b, .ref tb, .int len, .int pg, .int lk])), (b, .inl (cb, 60160, .inl f))] s.heap := hP
  have hl := lv_entry ([.ref h0]) (n := 1) (Nat.le_of_ble_eq_true rfl)
  rw [lg_entry_eq]
  generalize (lg_sl ([.ref h0]) ++ List.replicate (1 - (lg_sl ([.ref h0])).length) Slot.unset).toArray = ls at hl ⊢
  have hl : lv_has ls 1 [(0, .ref h0)] := hl
  refine lv_aload_n hx hb d_OutFile_begin_0 rfl (lv_at hl 0 rfl) ?_
  refine lv_iconst (v := 0) hx hb d_OutFile_begin_1 (by decide) ?_
  refine va_put (D := (dC, dI)) (ci := 7) (v := .int 0) (ty := .int) (C := R_OutFile) (T := F_OutFile) (N := 5) hx hb hwd i_OutFile t_OutFile to_OutFile no_OutFile hown hK hP hD hS 0 rfl rfl 2 (by decide) (hwd _ wd_3_217) (fun _ h9 => h9) rfl (by decide +kernel) rfl rfl (Nat.le_of_ble_eq_true rfl) d_OutFile_begin_2 ?_
  clear hP hD hS
  intro H locs hP hD hS
  replace hP : va_P (dC, dI) vcl [(h0, .inr (7, [.ref b, .ref tb, .int 0, .int pg, .int lk])), (b, .inl (cb, 60160, .inl f))] H := hP
  replace hD : va_D A [(h0, .inr (7, [.ref b, .ref tb, .int 0, .int pg, .int lk])), (b, .inl (cb, 60160, .inl f))] := hD
  refine lv_aload_n hx hb d_OutFile_begin_5 rfl (lv_at hl 0 rfl) ?_
  refine lv_iconst (v := 0) hx hb d_OutFile_begin_6 (by decide) ?_
  refine va_put (D := (dC, dI)) (ci := 7) (v := .int 0) (ty := .int) (C := R_OutFile) (T := F_OutFile) (N := 5) hx hb hwd i_OutFile t_OutFile to_OutFile no_OutFile hown hK hP hD hS 0 rfl rfl 3 (by decide) (hwd _ wd_3_220) (fun _ h9 => h9) rfl (by decide +kernel) rfl rfl (Nat.le_of_ble_eq_true rfl) d_OutFile_begin_7 ?_
  clear hP hD hS
  intro H locs hP hD hS
  replace hP : va_P (dC, dI) vcl [(h0, .inr (7, [.ref b, .ref tb, .int 0, .int 0, .int lk])), (b, .inl (cb, 60160, .inl f))] H := hP
  replace hD : va_D A [(h0, .inr (7, [.ref b, .ref tb, .int 0, .int 0, .int lk])), (b, .inl (cb, 60160, .inl f))] := hD
  refine lv_aload_n hx hb d_OutFile_begin_10 rfl (lv_at hl 0 rfl) ?_
  refine lv_bipush (v := 73) hx hb d_OutFile_begin_11 (by decide) ?_
  refine lv_iconst (v := 1) hx hb d_OutFile_begin_13 (by decide) ?_
  have hPc := hP.sub (ws' := [(h0, .inr (7, [.ref b, .ref tb, .int 0, .int 0, .int lk])), (b, .inl (cb, 60160, .inl f))]) [0, 1] rfl
  have hDc := hD.sub (ws' := [(h0, .inr (7, [.ref b, .ref tb, .int 0, .int 0, .int lk])), (b, .inl (cb, 60160, .inl f))]) [0, 1] (by decide) rfl
  have hKc := hK.sub (tys' := [(cb, .byte)]) [0] rfl
  have hFc := va_free (wc := [(h0, .inr (7, [.ref b, .ref tb, .int 0, .int 0, .int lk])), (b, .inl (cb, 60160, .inl f))]) hD hS hA [0, 1] rfl
  refine va_callv (va_runV (As := [.int 73, .int 1]) (rest := []) ⟨hx, hb, hml, hown, hwd⟩ (c_putNumber_1 l dC dI tt h0 b tb 0 0 lk 73 cb f H.size (by decide)) (cwV 2 hwd (gV gd_OutFile_putNumber wd_4_122 wd_4_124 ws_21 wd_1_13) rfl rfl rfl (by decide +kernel) ⟨Nat.le_of_ble_eq_true rfl, Nat.le_of_ble_eq_true rfl⟩) ⟨fun a U g mk q => by obtain ⟨q0, q1, qP, qK, qD, qF⟩ := q; exact ⟨q0, q1, qP, va_K.moved (u := U) (U := U.calling g mk a) (Vm.Alike.refl U.vm) qK, qD, SF.same (u := U) (U := U.calling g mk a) rfl qF⟩, va_recv hKc hPc (ci := 7) (q0 := 0) rfl rfl, fun U hU hW => ⟨rfl, by rw [hU], by rw [hU]; exact hPc, va_K.moved hW.alike hKc, hDc.weaken (fun _ _ _ _ => trivial), by rw [hU]; exact SF.narrow (SF.moved hW (SF.kept hF (fun a h1 h2 => hS.2.1 a h1 h2))) hFc⟩⟩ rfl rfl hl.1 rfl (lv_room (Nat.le_of_ble_eq_true rfl)) d_OutFile_begin_14 ⟨Nat.le_of_ble_eq_true rfl, Nat.le_of_ble_eq_true rfl⟩) hS (fun q _ h => hFc q h) hFc ?_
  clear hPc hDc hKc hS
  intro u_2 t H1 locs ht hvm hw hB hz1 hk1 hS
  obtain ⟨hP1, hK1, hD1⟩ := hB
  rw [ht] at hP1
  have hK1 := va_K.moved hvm.symm hK1
  try dsimp only at hw
  have hJ := va_join (wr := []) (w1 := [(h0, .inr (7, [.ref b, .ref tb, .int (nI 1), .int 0, .int lk])), (b, .inl (cb, 60160, .inl (upd f 0 (((73 : Int32) >>> (0 &&& 31)).toInt8.toInt32))))]) hP hD [0, 1] [] rfl rfl (by decide) (by decide) hk1 hFc hP1 hD1
  clear hP hD hk1 hFc hP1 hD1 hz1
  obtain ⟨hP, hD⟩ := hJ
  clear hK1 ht hvm
  generalize H1 = H at hP hS ⊢
  replace hP : va_P (dC, dI) vcl [(h0, .inr (7, [.ref b, .ref tb, .int (nI 1), .int 0, .int lk])), (b, .inl (cb, 60160, .inl (upd f 0 (((73 : Int32) >>> (0 &&& 31)).toInt8.toInt32))))] H := hP
  replace hD : va_D A [(h0, .inr (7, [.ref b, .ref tb, .int (nI 1), .int 0, .int lk])), (b, .inl (cb, 60160, .inl (upd f 0 (((73 : Int32) >>> (0 &&& 31)).toInt8.toInt32))))] := hD
  refine lv_aload_n hx hb d_OutFile_begin_17 rfl (lv_at hl 0 rfl) ?_
  refine lv_bipush (v := 73) hx hb d_OutFile_begin_18 (by decide) ?_
  refine lv_iconst (v := 1) hx hb d_OutFile_begin_20 (by decide) ?_
  have hPc := hP.sub (ws' := [(h0, .inr (7, [.ref b, .ref tb, .int (nI 1), .int 0, .int lk])), (b, .inl (cb, 60160, .inl (upd f 0 (((73 : Int32) >>> (0 &&& 31)).toInt8.toInt32))))]) [0, 1] rfl
  have hDc := hD.sub (ws' := [(h0, .inr (7, [.ref b, .ref tb, .int (nI 1), .int 0, .int lk])), (b, .inl (cb, 60160, .inl (upd f 0 (((73 : Int32) >>> (0 &&& 31)).toInt8.toInt32))))]) [0, 1] (by decide) rfl
  have hKc := hK.sub (tys' := [(cb, .byte)]) [0] rfl
  have hFc := va_free (wc := [(h0, .inr (7, [.ref b, .ref tb, .int (nI 1), .int 0, .int lk])), (b, .inl (cb, 60160, .inl (upd f 0 (((73 : Int32) >>> (0 &&& 31)).toInt8.toInt32))))]) hD hS hA [0, 1] rfl
  refine va_callv (va_runV (As := [.int 73, .int 1]) (rest := []) ⟨hx, hb, hml, hown, hwd⟩ (c_putNumber_1 l dC dI tt h0 b tb 1 0 lk 73 cb (upd f 0 (((73 : Int32) >>> (0 &&& 31)).toInt8.toInt32)) H.size (by decide)) (cwV 2 hwd (gV gd_OutFile_putNumber wd_4_122 wd_4_124 ws_21 wd_1_13) rfl rfl rfl (by decide +kernel) ⟨Nat.le_of_ble_eq_true rfl, Nat.le_of_ble_eq_true rfl⟩) ⟨fun a U g mk q => by obtain ⟨q0, q1, qP, qK, qD, qF⟩ := q; exact ⟨q0, q1, qP, va_K.moved (u := U) (U := U.calling g mk a) (Vm.Alike.refl U.vm) qK, qD, SF.same (u := U) (U := U.calling g mk a) rfl qF⟩, va_recv hKc hPc (ci := 7) (q0 := 0) rfl rfl, fun U hU hW => ⟨rfl, by rw [hU], by rw [hU]; exact hPc, va_K.moved hW.alike hKc, hDc.weaken (fun _ _ _ _ => trivial), by rw [hU]; exact SF.narrow (SF.moved hW (SF.kept hF (fun a h1 h2 => hS.2.1 a h1 h2))) hFc⟩⟩ rfl rfl hl.1 rfl (lv_room (Nat.le_of_ble_eq_true rfl)) d_OutFile_begin_21 ⟨Nat.le_of_ble_eq_true rfl, Nat.le_of_ble_eq_true rfl⟩) hS (fun q _ h => hFc q h) hFc ?_
  clear hPc hDc hKc hS
  intro u_4 t H1 locs ht hvm hw hB hz1 hk1 hS
  obtain ⟨hP1, hK1, hD1⟩ := hB
  rw [ht] at hP1
  have hK1 := va_K.moved hvm.symm hK1
  try dsimp only at hw
  have hJ := va_join (wr := []) (w1 := [(h0, .inr (7, [.ref b, .ref tb, .int (nI 2), .int 0, .int lk])), (b, .inl (cb, 60160, .inl (upd (upd f 0 (((73 : Int32) >>> (0 &&& 31)).toInt8.toInt32)) 1 (((73 : Int32) >>> (0 &&& 31)).toInt8.toInt32))))]) hP hD [0, 1] [] rfl rfl (by decide) (by decide) hk1 hFc hP1 hD1
  clear hP hD hk1 hFc hP1 hD1 hz1
  obtain ⟨hP, hD⟩ := hJ
  clear hK1 ht hvm
  generalize H1 = H at hP hS ⊢
  replace hP : va_P (dC, dI) vcl [(h0, .inr (7, [.ref b, .ref tb, .int (nI 2), .int 0, .int lk])), (b, .inl (cb, 60160, .inl (upd (upd f 0 (((73 : Int32) >>> (0 &&& 31)).toInt8.toInt32)) 1 (((73 : Int32) >>> (0 &&& 31)).toInt8.toInt32))))] H := hP
  replace hD : va_D A [(h0, .inr (7, [.ref b, .ref tb, .int (nI 2), .int 0, .int lk])), (b, .inl (cb, 60160, .inl (upd (upd f 0 (((73 : Int32) >>> (0 &&& 31)).toInt8.toInt32)) 1 (((73 : Int32) >>> (0 &&& 31)).toInt8.toInt32))))] := hD
  refine lv_aload_n hx hb d_OutFile_begin_24 rfl (lv_at hl 0 rfl) ?_
  refine lv_bipush (v := 42) hx hb d_OutFile_begin_25 (by decide) ?_
  refine lv_iconst (v := 2) hx hb d_OutFile_begin_27 (by decide) ?_
  have hPc := hP.sub (ws' := [(h0, .inr (7, [.ref b, .ref tb, .int (nI 2), .int 0, .int lk])), (b, .inl (cb, 60160, .inl (upd (upd f 0 (((73 : Int32) >>> (0 &&& 31)).toInt8.toInt32)) 1 (((73 : Int32) >>> (0 &&& 31)).toInt8.toInt32))))]) [0, 1] rfl
  have hDc := hD.sub (ws' := [(h0, .inr (7, [.ref b, .ref tb, .int (nI 2), .int 0, .int lk])), (b, .inl (cb, 60160, .inl (upd (upd f 0 (((73 : Int32) >>> (0 &&& 31)).toInt8.toInt32)) 1 (((73 : Int32) >>> (0 &&& 31)).toInt8.toInt32))))]) [0, 1] (by decide) rfl
  have hKc := hK.sub (tys' := [(cb, .byte)]) [0] rfl
  have hFc := va_free (wc := [(h0, .inr (7, [.ref b, .ref tb, .int (nI 2), .int 0, .int lk])), (b, .inl (cb, 60160, .inl (upd (upd f 0 (((73 : Int32) >>> (0 &&& 31)).toInt8.toInt32)) 1 (((73 : Int32) >>> (0 &&& 31)).toInt8.toInt32))))]) hD hS hA [0, 1] rfl
  refine va_callv (va_runV (As := [.int 42, .int 2]) (rest := []) ⟨hx, hb, hml, hown, hwd⟩ (c_putNumber_2 l dC dI tt h0 b tb 2 0 lk 42 cb (upd (upd f 0 (((73 : Int32) >>> (0 &&& 31)).toInt8.toInt32)) 1 (((73 : Int32) >>> (0 &&& 31)).toInt8.toInt32)) H.size (by decide)) (cwV 2 hwd (gV gd_OutFile_putNumber wd_4_122 wd_4_124 ws_21 wd_1_13) rfl rfl rfl (by decide +kernel) ⟨Nat.le_of_ble_eq_true rfl, Nat.le_of_ble_eq_true rfl⟩) ⟨fun a U g mk q => by obtain ⟨q0, q1, qP, qK, qD, qF⟩ := q; exact ⟨q0, q1, qP, va_K.moved (u := U) (U := U.calling g mk a) (Vm.Alike.refl U.vm) qK, qD, SF.same (u := U) (U := U.calling g mk a) rfl qF⟩, va_recv hKc hPc (ci := 7) (q0 := 0) rfl rfl, fun U hU hW => ⟨rfl, by rw [hU], by rw [hU]; exact hPc, va_K.moved hW.alike hKc, hDc.weaken (fun _ _ _ _ => trivial), by rw [hU]; exact SF.narrow (SF.moved hW (SF.kept hF (fun a h1 h2 => hS.2.1 a h1 h2))) hFc⟩⟩ rfl rfl hl.1 rfl (lv_room (Nat.le_of_ble_eq_true rfl)) d_OutFile_begin_28 ⟨Nat.le_of_ble_eq_true rfl, Nat.le_of_ble_eq_true rfl⟩) hS (fun q _ h => hFc q h) hFc ?_
  clear hPc hDc hKc hS
  intro u_6 t H1 locs ht hvm hw hB hz1 hk1 hS
  obtain ⟨hP1, hK1, hD1⟩ := hB
  rw [ht] at hP1
  have hK1 := va_K.moved hvm.symm hK1
  try dsimp only at hw
  have hJ := va_join (wr := []) (w1 := [(h0, .inr (7, [.ref b, .ref tb, .int (nI 4), .int 0, .int lk])), (b, .inl (cb, 60160, .inl (upd (upd (upd (upd f 0 (((73 : Int32) >>> (0 &&& 31)).toInt8.toInt32)) 1 (((73 : Int32) >>> (0 &&& 31)).toInt8.toInt32)) 2 (((42 : Int32) >>> (0 &&& 31)).toInt8.toInt32)) 3 (((42 : Int32) >>> (8 &&& 31)).toInt8.toInt32))))]) hP hD [0, 1] [] rfl rfl (by decide) (by decide) hk1 hFc hP1 hD1
  clear hP hD hk1 hFc hP1 hD1 hz1
  obtain ⟨hP, hD⟩ := hJ
  clear hK1 ht hvm
  generalize H1 = H at hP hS ⊢
  replace hP : va_P (dC, dI) vcl [(h0, .inr (7, [.ref b, .ref tb, .int (nI 4), .int 0, .int lk])), (b, .inl (cb, 60160, .inl (upd (upd (upd (upd f 0 (((73 : Int32) >>> (0 &&& 31)).toInt8.toInt32)) 1 (((73 : Int32) >>> (0 &&& 31)).toInt8.toInt32)) 2 (((42 : Int32) >>> (0 &&& 31)).toInt8.toInt32)) 3 (((42 : Int32) >>> (8 &&& 31)).toInt8.toInt32))))] H := hP
  replace hD : va_D A [(h0, .inr (7, [.ref b, .ref tb, .int (nI 4), .int 0, .int lk])), (b, .inl (cb, 60160, .inl (upd (upd (upd (upd f 0 (((73 : Int32) >>> (0 &&& 31)).toInt8.toInt32)) 1 (((73 : Int32) >>> (0 &&& 31)).toInt8.toInt32)) 2 (((42 : Int32) >>> (0 &&& 31)).toInt8.toInt32)) 3 (((42 : Int32) >>> (8 &&& 31)).toInt8.toInt32))))] := hD
  refine lv_aload_n hx hb d_OutFile_begin_31 rfl (lv_at hl 0 rfl) ?_
  refine lv_aload_n hx hb d_OutFile_begin_32 rfl (lv_at hl 0 rfl) ?_
  refine va_get (D := (dC, dI)) (ci := 7) (v := .int (nI 4)) (C := R_OutFile) (T := F_OutFile) (N := 5) hx hb hwd i_OutFile hown hK hP 0 rfl rfl 2 (by decide) (hwd _ wd_3_217) (fun _ h9 => h9) rfl d_OutFile_begin_33 ?_
  refine va_put (D := (dC, dI)) (ci := 7) (v := .int (nI 4)) (ty := .int) (C := R_OutFile) (T := F_OutFile) (N := 5) hx hb hwd i_OutFile t_OutFile to_OutFile no_OutFile hown hK hP hD hS 0 rfl rfl 4 (by decide) (hwd _ wd_3_223) (fun _ h9 => h9) rfl (by decide +kernel) rfl rfl (Nat.le_of_ble_eq_true rfl) d_OutFile_begin_36 ?_
  clear hP hD hS
  intro H locs hP hD hS
  replace hP : va_P (dC, dI) vcl [(h0, .inr (7, [.ref b, .ref tb, .int (nI 4), .int 0, .int (nI 4)])), (b, .inl (cb, 60160, .inl (upd (upd (upd (upd f 0 (((73 : Int32) >>> (0 &&& 31)).toInt8.toInt32)) 1 (((73 : Int32) >>> (0 &&& 31)).toInt8.toInt32)) 2 (((42 : Int32) >>> (0 &&& 31)).toInt8.toInt32)) 3 (((42 : Int32) >>> (8 &&& 31)).toInt8.toInt32))))] H := hP
  replace hD : va_D A [(h0, .inr (7, [.ref b, .ref tb, .int (nI 4), .int 0, .int (nI 4)])), (b, .inl (cb, 60160, .inl (upd (upd (upd (upd f 0 (((73 : Int32) >>> (0 &&& 31)).toInt8.toInt32)) 1 (((73 : Int32) >>> (0 &&& 31)).toInt8.toInt32)) 2 (((42 : Int32) >>> (0 &&& 31)).toInt8.toInt32)) 3 (((42 : Int32) >>> (8 &&& 31)).toInt8.toInt32))))] := hD
  refine lv_aload_n hx hb d_OutFile_begin_39 rfl (lv_at hl 0 rfl) ?_
  refine lv_iconst (v := 0) hx hb d_OutFile_begin_40 (by decide) ?_
  refine lv_iconst (v := 4) hx hb d_OutFile_begin_41 (by decide) ?_
  have hPc := hP.sub (ws' := [(h0, .inr (7, [.ref b, .ref tb, .int (nI 4), .int 0, .int (nI 4)])), (b, .inl (cb, 60160, .inl (upd (upd (upd (upd f 0 (((73 : Int32) >>> (0 &&& 31)).toInt8.toInt32)) 1 (((73 : Int32) >>> (0 &&& 31)).toInt8.toInt32)) 2 (((42 : Int32) >>> (0 &&& 31)).toInt8.toInt32)) 3 (((42 : Int32) >>> (8 &&& 31)).toInt8.toInt32))))]) [0, 1] rfl
  have hDc := hD.sub (ws' := [(h0, .inr (7, [.ref b, .ref tb, .int (nI 4), .int 0, .int (nI 4)])), (b, .inl (cb, 60160, .inl (upd (upd (upd (upd f 0 (((73 : Int32) >>> (0 &&& 31)).toInt8.toInt32)) 1 (((73 : Int32) >>> (0 &&& 31)).toInt8.toInt32)) 2 (((42 : Int32) >>> (0 &&& 31)).toInt8.toInt32)) 3 (((42 : Int32) >>> (8 &&& 31)).toInt8.toInt32))))]) [0, 1] (by decide) rfl
  have hKc := hK.sub (tys' := [(cb, .byte)]) [0] rfl
  have hFc := va_free (wc := [(h0, .inr (7, [.ref b, .ref tb, .int (nI 4), .int 0, .int (nI 4)])), (b, .inl (cb, 60160, .inl (upd (upd (upd (upd f 0 (((73 : Int32) >>> (0 &&& 31)).toInt8.toInt32)) 1 (((73 : Int32) >>> (0 &&& 31)).toInt8.toInt32)) 2 (((42 : Int32) >>> (0 &&& 31)).toInt8.toInt32)) 3 (((42 : Int32) >>> (8 &&& 31)).toInt8.toInt32))))]) hD hS hA [0, 1] rfl
  refine va_callv (va_runV (As := [.int 0, .int 4]) (rest := []) ⟨hx, hb, hml, hown, hwd⟩ (c_putNumber_4 l dC dI tt h0 b tb 4 0 (nI 4) 0 cb (upd (upd (upd (upd f 0 (((73 : Int32) >>> (0 &&& 31)).toInt8.toInt32)) 1 (((73 : Int32) >>> (0 &&& 31)).toInt8.toInt32)) 2 (((42 : Int32) >>> (0 &&& 31)).toInt8.toInt32)) 3 (((42 : Int32) >>> (8 &&& 31)).toInt8.toInt32)) H.size (by decide)) (cwV 2 hwd (gV gd_OutFile_putNumber wd_4_122 wd_4_124 ws_21 wd_1_13) rfl rfl rfl (by decide +kernel) ⟨Nat.le_of_ble_eq_true rfl, Nat.le_of_ble_eq_true rfl⟩) ⟨fun a U g mk q => by obtain ⟨q0, q1, qP, qK, qD, qF⟩ := q; exact ⟨q0, q1, qP, va_K.moved (u := U) (U := U.calling g mk a) (Vm.Alike.refl U.vm) qK, qD, SF.same (u := U) (U := U.calling g mk a) rfl qF⟩, va_recv hKc hPc (ci := 7) (q0 := 0) rfl rfl, fun U hU hW => ⟨rfl, by rw [hU], by rw [hU]; exact hPc, va_K.moved hW.alike hKc, hDc.weaken (fun _ _ _ _ => trivial), by rw [hU]; exact SF.narrow (SF.moved hW (SF.kept hF (fun a h1 h2 => hS.2.1 a h1 h2))) hFc⟩⟩ rfl rfl hl.1 rfl (lv_room (Nat.le_of_ble_eq_true rfl)) d_OutFile_begin_42 ⟨Nat.le_of_ble_eq_true rfl, Nat.le_of_ble_eq_true rfl⟩) hS (fun q _ h => hFc q h) hFc ?_
  clear hPc hDc hKc hS
  intro u_8 t H1 locs ht hvm hw hB hz1 hk1 hS
  obtain ⟨hP1, hK1, hD1⟩ := hB
  rw [ht] at hP1
  have hK1 := va_K.moved hvm.symm hK1
  try dsimp only at hw
  have hJ := va_join (wr := []) (w1 := [(h0, .inr (7, [.ref b, .ref tb, .int (nI 8), .int 0, .int (nI 4)])), (b, .inl (cb, 60160, .inl (upd (upd (upd (upd (upd (upd (upd (upd f 0 (((73 : Int32) >>> (0 &&& 31)).toInt8.toInt32)) 1 (((73 : Int32) >>> (0 &&& 31)).toInt8.toInt32)) 2 (((42 : Int32) >>> (0 &&& 31)).toInt8.toInt32)) 3 (((42 : Int32) >>> (8 &&& 31)).toInt8.toInt32)) 4 (((0 : Int32) >>> (0 &&& 31)).toInt8.toInt32)) 5 (((0 : Int32) >>> (8 &&& 31)).toInt8.toInt32)) 6 (((0 : Int32) >>> (16 &&& 31)).toInt8.toInt32)) 7 (((0 : Int32) >>> (24 &&& 31)).toInt8.toInt32))))]) hP hD [0, 1] [] rfl rfl (by decide) (by decide) hk1 hFc hP1 hD1
  clear hP hD hk1 hFc hP1 hD1 hz1
  obtain ⟨hP, hD⟩ := hJ
  clear hK1 ht hvm
  generalize H1 = H at hP hS ⊢
  replace hP : va_P (dC, dI) vcl [(h0, .inr (7, [.ref b, .ref tb, .int (nI 8), .int 0, .int (nI 4)])), (b, .inl (cb, 60160, .inl (upd (upd (upd (upd (upd (upd (upd (upd f 0 (((73 : Int32) >>> (0 &&& 31)).toInt8.toInt32)) 1 (((73 : Int32) >>> (0 &&& 31)).toInt8.toInt32)) 2 (((42 : Int32) >>> (0 &&& 31)).toInt8.toInt32)) 3 (((42 : Int32) >>> (8 &&& 31)).toInt8.toInt32)) 4 (((0 : Int32) >>> (0 &&& 31)).toInt8.toInt32)) 5 (((0 : Int32) >>> (8 &&& 31)).toInt8.toInt32)) 6 (((0 : Int32) >>> (16 &&& 31)).toInt8.toInt32)) 7 (((0 : Int32) >>> (24 &&& 31)).toInt8.toInt32))))] H := hP
  replace hD : va_D A [(h0, .inr (7, [.ref b, .ref tb, .int (nI 8), .int 0, .int (nI 4)])), (b, .inl (cb, 60160, .inl (upd (upd (upd (upd (upd (upd (upd (upd f 0 (((73 : Int32) >>> (0 &&& 31)).toInt8.toInt32)) 1 (((73 : Int32) >>> (0 &&& 31)).toInt8.toInt32)) 2 (((42 : Int32) >>> (0 &&& 31)).toInt8.toInt32)) 3 (((42 : Int32) >>> (8 &&& 31)).toInt8.toInt32)) 4 (((0 : Int32) >>> (0 &&& 31)).toInt8.toInt32)) 5 (((0 : Int32) >>> (8 &&& 31)).toInt8.toInt32)) 6 (((0 : Int32) >>> (16 &&& 31)).toInt8.toInt32)) 7 (((0 : Int32) >>> (24 &&& 31)).toInt8.toInt32))))] := hD
  have hP9 := hP.sub (ws' := [(h0, .inr (7, [.ref b, .ref tb, .int (nI 8), .int 0, .int (nI 4)])), (b, .inl (cb, 60160, .inl (upd (upd (upd (upd (upd (upd (upd (upd f 0 (((73 : Int32) >>> (0 &&& 31)).toInt8.toInt32)) 1 (((73 : Int32) >>> (0 &&& 31)).toInt8.toInt32)) 2 (((42 : Int32) >>> (0 &&& 31)).toInt8.toInt32)) 3 (((42 : Int32) >>> (8 &&& 31)).toInt8.toInt32)) 4 (((0 : Int32) >>> (0 &&& 31)).toInt8.toInt32)) 5 (((0 : Int32) >>> (8 &&& 31)).toInt8.toInt32)) 6 (((0 : Int32) >>> (16 &&& 31)).toInt8.toInt32)) 7 (((0 : Int32) >>> (24 &&& 31)).toInt8.toInt32))))]) [0, 1] rfl
  have hD9 := hD.sub (ws' := [(h0, .inr (7, [.ref b, .ref tb, .int (nI 8), .int 0, .int (nI 4)])), (b, .inl (cb, 60160, .inl (upd (upd (upd (upd (upd (upd (upd (upd f 0 (((73 : Int32) >>> (0 &&& 31)).toInt8.toInt32)) 1 (((73 : Int32) >>> (0 &&& 31)).toInt8.toInt32)) 2 (((42 : Int32) >>> (0 &&& 31)).toInt8.toInt32)) 3 (((42 : Int32) >>> (8 &&& 31)).toInt8.toInt32)) 4 (((0 : Int32) >>> (0 &&& 31)).toInt8.toInt32)) 5 (((0 : Int32) >>> (8 &&& 31)).toInt8.toInt32)) 6 (((0 : Int32) >>> (16 &&& 31)).toInt8.toInt32)) 7 (((0 : Int32) >>> (24 &&& 31)).toInt8.toInt32))))]) [0, 1] (by decide) rfl
  have hK9 := hK.sub (tys' := [(cb, .byte)]) [0] rfl
  exact W.vret hx hb hr (fun t ht hW => ⟨⟨(), rfl, (trivial), by rw [ht]; exact hP9, va_K.moved hW.alike hK9, hD9⟩, hS.F ht⟩) hS.2.2 d_OutFile_begin_45
