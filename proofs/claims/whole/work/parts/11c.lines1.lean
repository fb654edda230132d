abbrev at_c_Lines_init_1 (dC : Nat → ClassId) (dI : Nat → Nat → Nat) (h0 : Nat) (A : Nat → Prop) (u : (Nat → Int32) × (Nat → Int32) × (Nat → Int32) × (Nat → Int32) × (Nat → Int32) × (Nat → Int32)) (t : State) : Prop := match u with
  | (fc0, fc1, fc2, fc3, fc4, fc5) => ∃ (q_1 : Nat) (q_15 : Nat) (q_29 : Nat) (q_36 : Nat) (q_43 : Nat) (q_47 : Nat) (q_50 : Nat) (q_52 : Nat) (q_54 : Nat) (q_56 : Nat) (q_58 : Nat) (cA_2 : ClassId) (cA_16 : ClassId) (cA_30 : ClassId) (cA_37 : ClassId) (cA_44 : ClassId) (cA_48 : ClassId) (cA_51 : ClassId) (cA_53 : ClassId) (cA_55 : ClassId) (cA_57 : ClassId) (cA_59 : ClassId), va_P (dC, dI) vcl [(h0, .inr (14, [.ref q_1, .ref q_15, .ref q_29, .ref q_36, .ref q_43, .ref q_47, .int 0, .ref q_50, .ref q_52, .ref q_58, .long 0, .null, .int 0, .int 0, .int 0, .int 0, .int 0, .int 0, .int 0, .ref q_54, .ref q_56])), (q_1, .inl (cA_2, 64, .inl (upd (upd (upd fc0 61 306) 62 307) 63 308))), (q_15, .inl (cA_16, 64, .inl (upd (upd (upd fc1 61 4186) 62 4198) 63 4199))), (q_29, .inl (cA_30, 27, .inl (upd (upd fc2 25 88) 26 667))), (q_36, .inl (cA_37, 27, .inl (upd (upd (upd fc3 24 8283) 25 8292) 26 8293))), (q_43, .inl (cA_44, 13, .inl (upd (upd (upd (upd fc4 9 4124) 10 4125) 11 4126) 12 4127))), (q_47, .inl (cA_48, 10, .inl (upd (upd (upd (upd (upd fc5 5 3) 6 11) 7 67) 8 131) 9 4097))), (q_50, .inl (cA_51, 10000, .inl (fun _ => 0))), (q_52, .inl (cA_53, 10000, .inl (fun _ => 0))), (q_54, .inl (cA_55, 10000, .inl (fun _ => 0))), (q_56, .inl (cA_57, 10000, .inl (fun _ => 0))), (q_58, .inl (cA_59, 1, .inl (fun _ => 0)))] t.heap ∧ va_K (dC, dI) vcl [(cA_2, .int), (cA_16, .int), (cA_30, .int), (cA_37, .int), (cA_44, .int), (cA_48, .int), (cA_51, .boolean), (cA_53, .boolean), (cA_55, .boolean), (cA_57, .boolean), (cA_59, .byte)] t ∧ va_D A [(h0, .inr (14, [.ref q_1, .ref q_15, .ref q_29, .ref q_36, .ref q_43, .ref q_47, .int 0, .ref q_50, .ref q_52, .ref q_58, .long 0, .null, .int 0, .int 0, .int 0, .int 0, .int 0, .int 0, .int 0, .ref q_54, .ref q_56])), (q_1, .inl (cA_2, 64, .inl (upd (upd (upd fc0 61 306) 62 307) 63 308))), (q_15, .inl (cA_16, 64, .inl (upd (upd (upd fc1 61 4186) 62 4198) 63 4199))), (q_29, .inl (cA_30, 27, .inl (upd (upd fc2 25 88) 26 667))), (q_36, .inl (cA_37, 27, .inl (upd (upd (upd fc3 24 8283) 25 8292) 26 8293))), (q_43, .inl (cA_44, 13, .inl (upd (upd (upd (upd fc4 9 4124) 10 4125) 11 4126) 12 4127))), (q_47, .inl (cA_48, 10, .inl (upd (upd (upd (upd (upd fc5 5 3) 6 11) 7 67) 8 131) 9 4097))), (q_50, .inl (cA_51, 10000, .inl (fun _ => 0))), (q_52, .inl (cA_53, 10000, .inl (fun _ => 0))), (q_54, .inl (cA_55, 10000, .inl (fun _ => 0))), (q_56, .inl (cA_57, 10000, .inl (fun _ => 0))), (q_58, .inl (cA_59, 1, .inl (fun _ => 0)))]
abbrev po_c_Lines_init_1 (h0 : Nat) (u : (Nat → Int32) × (Nat → Int32) × (Nat → Int32) × (Nat → Int32) × (Nat → Int32) × (Nat → Int32)) : Prop := match u with
  | (fc0, fc1, fc2, fc3, fc4, fc5) => True
abbrev q_c_Lines_init_1 (dC : Nat → ClassId) (dI : Nat → Nat → Nat) (h0 : Nat) (A : Nat → Prop) : Array Value → State → Outcome → State → Prop := va_Qv (po_c_Lines_init_1 h0) (at_c_Lines_init_1 dC dI h0 A) A
abbrev rm_c_Lines_init_1 : Room := { frames := 1, cells := 11, slots := 40206, locals := 12 }
set_option maxHeartbeats 4000000 in
set_option maxRecDepth 100000 in
theorem c_Lines_init_1 (l : Launch) (dC : Nat → ClassId) (dI : Nat → Nat → Nat) (tt : Nat → Nat) (h0 : Nat) (sz : Nat)  : Met l y_mLines_init w_mLines_init rm_c_Lines_init_1 (va_Pc [.ref h0, .int 1] (fun U => U.heap.size = sz ∧ va_P (dC, dI) vcl [(h0, .inr (14, [.null, .null, .null, .null, .null, .null, .int 0, .null, .null, .null, .long 0, .null, .int 0, .int 0, .int 0, .int 0, .int 0, .int 0, .int 0, .null, .null]))] U.heap ∧ va_K (dC, dI) vcl [] U ∧ va_D (fun _ => True) [(h0, .inr (14, [.null, .null, .null, .null, .null, .null, .int 0, .null, .null, .null, .long 0, .null, .int 0, .int 0, .int 0, .int 0, .int 0, .int 0, .int 0, .null, .null]))] ∧ SF tt (va_A [(h0, .inr (14, [.null, .null, .null, .null, .null, .null, .int 0, .null, .null, .null, .long 0, .null, .int 0, .int 0, .int 0, .int 0, .int 0, .int 0, .int 0, .null, .null]))] sz) U U.heap)) (q_c_Lines_init_1 dC dI h0 (va_A [(h0, .inr (14, [.null, .null, .null, .null, .null, .null, .int 0, .null, .null, .null, .long 0, .null, .int 0, .int 0, .int 0, .int 0, .int 0, .int 0, .int 0, .null, .null]))] sz)) 11 40206 (va_A [(h0, .inr (14, [.null, .null, .null, .null, .null, .null, .int 0, .null, .null, .null, .long 0, .null, .int 0, .int 0, .int 0, .int 0, .int 0, .int 0, .int 0, .null, .null]))] sz) := by
  refine Met.ofW (cc := b_mLines_init) (maxL := 2) (ret := none) (by decide) rfl ?_
  intro p e s m args below meth c s₁ B hml hv
  obtain ⟨rfl, hsz, hP, hK, hD0, hF⟩ := hv
  have hx := B.exec
  have hb := B.bytes
  have hr := B.returns
  have hwd : ∀ w ∈ gT, w.before _ s = true := fun w h => atoms_spec (ws := w_mLines_init) B.pre w (List.mem_cons_of_mem _ h)
  have hown : s.vm.findClass R_mLines = some m.cls := findClass_of_methodNamed B.named
  have hlocks := B.notSynchronized
  have hin : meth.name = "<init>" := (name_of_methodNamed B.named B.method).1
  subst hsz
  have hD := hD0.self (sz := s.heap.size)
  generalize hAe : va_A [(h0, .inr (14, [.null, .null, .null, .null, .null, .null, .int 0, .null, .null, .null, .long 0, .null, .int 0, .int 0, .int 0, .int 0, .int 0, .int 0, .int 0, .null, .null]))] s.heap.size = A at hD hF ⊢
  have hA : ∀ q : Nat, s.heap.size ≤ q → A q := fun q h => by rw [← hAe]; exact Or.inr h
  have hS : va_S A s.heap s.heap [] := va_S.rf
  have hP : va_P (dC, dI) vcl [(h0, .inr (14, [.null, .null, .null, .null, .null, .null, .int 0, .null, .null, .null, .long 0, .null, .int 0, .int 0, .int 0, .int 0, .int 0, .int 0, .int 0, .null, .null]))] s.heap := hP
  have hl := lv_entry ([.ref h0, .int 1]) (n := 2) (Nat.le_of_ble_eq_true rfl)
  rw [lg_entry_eq]
  generalize (lg_sl ([.ref h0, .int 1]) ++ List.replicate (2 - (lg_sl ([.ref h0, .int 1])).length) Slot.unset).toArray = ls at hl ⊢
  have hl : lv_has ls 2 [(0, .ref h0), (1, .int 1)] := hl
  refine lv_aload_n hx hb d_mLines_init_0 rfl (lv_at hl 0 rfl) ?_
  refine W.objInit hx hb hown (hwd _ wd_10_82) (hwd _ wd_1_35) (hwd _ wd_1_36) rfl (by rw [hml]; exact hl.1) rfl d_mLines_init_1 (Nat.le_of_ble_eq_true rfl) (Nat.le_of_ble_eq_true rfl) ?_
  refine W.eq (g2 := F0 m 4 ls []) rfl ?_
  refine lv_aload_n hx hb d_mLines_init_4 rfl (lv_at hl 0 rfl) ?_
  refine lv_bipush (v := 64) hx hb d_mLines_init_5 (by decide) ?_
  refine va_newa (atype := .int) (N' := 64) (a0 := (64, .inl (fun _ => 0))) (ty := .int) (n := 64) hx hb (hwd _ wd_1_167) rfl hK hP hD hS hA (fun _ => rfl) (by decide) (by decide) (by decide) (Nat.le_of_ble_eq_true rfl) (Nat.le_of_ble_eq_true rfl) d_mLines_init_7 ?_
  clear hP hD hS hK
  intro q_1 cA_2 H hK hP hD hS
  replace hP : va_P (dC, dI) vcl [(h0, .inr (14, [.null, .null, .null, .null, .null, .null, .int 0, .null, .null, .null, .long 0, .null, .int 0, .int 0, .int 0, .int 0, .int 0, .int 0, .int 0, .null, .null])), (q_1, .inl (cA_2, 64, .inl (fun _ => 0)))] H := hP
  replace hD : va_D A [(h0, .inr (14, [.null, .null, .null, .null, .null, .null, .int 0, .null, .null, .null, .long 0, .null, .int 0, .int 0, .int 0, .int 0, .int 0, .int 0, .int 0, .null, .null])), (q_1, .inl (cA_2, 64, .inl (fun _ => 0)))] := hD
  replace hK : va_K (dC, dI) vcl [(cA_2, .int)] s := hK
  refine W.widen (k := 1) (n := 64) (by decide) (by decide) ?_
  refine lv_dup hx hb d_mLines_init_9 rfl ?_
  refine lv_iconst (v := 0) hx hb d_mLines_init_10 (by decide) ?_
  refine lv_sipush (v := 309) hx hb d_mLines_init_11 (by decide) ?_
  refine va_iast hx hb hK hP hD hS 1 0 rfl rfl (show ¬ ((0 : Int32) < 0 ∨ 64 ≤ (0 : Int32).toNatClampNeg) by decide) d_mLines_init_14 ?_
  clear hP hD hS
  intro H locs hP hD hS
  rw [show (0 : Int32).toNatClampNeg = 0 by decide] at hP hD
  replace hP : va_P (dC, dI) vcl [(h0, .inr (14, [.null, .null, .null, .null, .null, .null, .int 0, .null, .null, .null, .long 0, .null, .int 0, .int 0, .int 0, .int 0, .int 0, .int 0, .int 0, .null, .null])), (q_1, .inl (cA_2, 64, .inl (upd (fun _ => 0) 0 309)))] H := hP
  replace hD : va_D A [(h0, .inr (14, [.null, .null, .null, .null, .null, .null, .int 0, .null, .null, .null, .long 0, .null, .int 0, .int 0, .int 0, .int 0, .int 0, .int 0, .int 0, .null, .null])), (q_1, .inl (cA_2, 64, .inl (upd (fun _ => 0) 0 309)))] := hD
  refine lv_dup hx hb d_mLines_init_15 rfl ?_
  refine lv_iconst (v := 1) hx hb d_mLines_init_16 (by decide) ?_
  refine lv_bipush (v := 71) hx hb d_mLines_init_17 (by decide) ?_
  refine va_iast hx hb hK hP hD hS 1 0 rfl rfl (show ¬ ((1 : Int32) < 0 ∨ 64 ≤ (1 : Int32).toNatClampNeg) by decide) d_mLines_init_19 ?_
  clear hP hD hS
  intro H locs hP hD hS
  rw [show (1 : Int32).toNatClampNeg = 1 by decide] at hP hD
  replace hP : va_P (dC, dI) vcl [(h0, .inr (14, [.null, .null, .null, .null, .null, .null, .int 0, .null, .null, .null, .long 0, .null, .int 0, .int 0, .int 0, .int 0, .int 0, .int 0, .int 0, .null, .null])), (q_1, .inl (cA_2, 64, .inl (upd (upd (fun _ => 0) 0 309) 1 71)))] H := hP
  replace hD : va_D A [(h0, .inr (14, [.null, .null, .null, .null, .null, .null, .int 0, .null, .null, .null, .long 0, .null, .int 0, .int 0, .int 0, .int 0, .int 0, .int 0, .int 0, .null, .null])), (q_1, .inl (cA_2, 64, .inl (upd (upd (fun _ => 0) 0 309) 1 71)))] := hD
  refine lv_dup hx hb d_mLines_init_20 rfl ?_
  refine lv_iconst (v := 2) hx hb d_mLines_init_21 (by decide) ?_
  refine lv_bipush (v := 23) hx hb d_mLines_init_22 (by decide) ?_
  refine va_iast hx hb hK hP hD hS 1 0 rfl rfl (show ¬ ((2 : Int32) < 0 ∨ 64 ≤ (2 : Int32).toNatClampNeg) by decide) d_mLines_init_24 ?_
  clear hP hD hS
  intro H locs hP hD hS
  rw [show (2 : Int32).toNatClampNeg = 2 by decide] at hP hD
  replace hP : va_P (dC, dI) vcl [(h0, .inr (14, [.null, .null, .null, .null, .null, .null, .int 0, .null, .null, .null, .long 0, .null, .int 0, .int 0, .int 0, .int 0, .int 0, .int 0, .int 0, .null, .null])), (q_1, .inl (cA_2, 64, .inl (upd (upd (upd (fun _ => 0) 0 309) 1 71) 2 23)))] H := hP
  replace hD : va_D A [(h0, .inr (14, [.null, .null, .null, .null, .null, .null, .int 0, .null, .null, .null, .long 0, .null, .int 0, .int 0, .int 0, .int 0, .int 0, .int 0, .int 0, .null, .null])), (q_1, .inl (cA_2, 64, .inl (upd (upd (upd (fun _ => 0) 0 309) 1 71) 2 23)))] := hD
  refine lv_dup hx hb d_mLines_init_25 rfl ?_
  refine lv_iconst (v := 3) hx hb d_mLines_init_26 (by decide) ?_
  refine lv_bipush (v := 24) hx hb d_mLines_init_27 (by decide) ?_
  refine va_iast hx hb hK hP hD hS 1 0 rfl rfl (show ¬ ((3 : Int32) < 0 ∨ 64 ≤ (3 : Int32).toNatClampNeg) by decide) d_mLines_init_29 ?_
  clear hP hD hS
  intro H locs hP hD hS
  rw [show (3 : Int32).toNatClampNeg = 3 by decide] at hP hD
  replace hP : va_P (dC, dI) vcl [(h0, .inr (14, [.null, .null, .null, .null, .null, .null, .int 0, .null, .null, .null, .long 0, .null, .int 0, .int 0, .int 0, .int 0, .int 0, .int 0, .int 0, .null, .null])), (q_1, .inl (cA_2, 64, .inl (upd (upd (upd (upd (fun _ => 0) 0 309) 1 71) 2 23) 3 24)))] H := hP
  replace hD : va_D A [(h0, .inr (14, [.null, .null, .null, .null, .null, .null, .int 0, .null, .null, .null, .long 0, .null, .int 0, .int 0, .int 0, .int 0, .int 0, .int 0, .int 0, .null, .null])), (q_1, .inl (cA_2, 64, .inl (upd (upd (upd (upd (fun _ => 0) 0 309) 1 71) 2 23) 3 24)))] := hD
  refine lv_dup hx hb d_mLines_init_30 rfl ?_
  refine lv_iconst (v := 4) hx hb d_mLines_init_31 (by decide) ?_
  refine lv_bipush (v := 27) hx hb d_mLines_init_32 (by decide) ?_
  refine va_iast hx hb hK hP hD hS 1 0 rfl rfl (show ¬ ((4 : Int32) < 0 ∨ 64 ≤ (4 : Int32).toNatClampNeg) by decide) d_mLines_init_34 ?_
  clear hP hD hS
  intro H locs hP hD hS
  rw [show (4 : Int32).toNatClampNeg = 4 by decide] at hP hD
  obtain ⟨f_3, ef_3⟩ : ∃ y : Nat → Int32, y = upd (upd (upd (upd (upd (fun _ => 0) 0 309) 1 71) 2 23) 3 24) 4 27 := ⟨_, rfl⟩
  replace hP : va_P (dC, dI) vcl [(h0, .inr (14, [.null, .null, .null, .null, .null, .null, .int 0, .null, .null, .null, .long 0, .null, .int 0, .int 0, .int 0, .int 0, .int 0, .int 0, .int 0, .null, .null])), (q_1, .inl (cA_2, 64, .inl (upd (upd (upd (upd (upd (fun _ => 0) 0 309) 1 71) 2 23) 3 24) 4 27)))] H := hP
  replace hD : va_D A [(h0, .inr (14, [.null, .null, .null, .null, .null, .null, .int 0, .null, .null, .null, .long 0, .null, .int 0, .int 0, .int 0, .int 0, .int 0, .int 0, .int 0, .null, .null])), (q_1, .inl (cA_2, 64, .inl (upd (upd (upd (upd (upd (fun _ => 0) 0 309) 1 71) 2 23) 3 24) 4 27)))] := hD
  rw [← ef_3] at hP hD
  replace hP : va_P (dC, dI) vcl [(h0, .inr (14, [.null, .null, .null, .null, .null, .null, .int 0, .null, .null, .null, .long 0, .null, .int 0, .int 0, .int 0, .int 0, .int 0, .int 0, .int 0, .null, .null])), (q_1, .inl (cA_2, 64, .inl f_3))] H := hP
  replace hD : va_D A [(h0, .inr (14, [.null, .null, .null, .null, .null, .null, .int 0, .null, .null, .null, .long 0, .null, .int 0, .int 0, .int 0, .int 0, .int 0, .int 0, .int 0, .null, .null])), (q_1, .inl (cA_2, 64, .inl f_3))] := hD
  refine lv_dup hx hb d_mLines_init_35 rfl ?_
  refine lv_iconst (v := 5) hx hb d_mLines_init_36 (by decide) ?_
  refine lv_bipush (v := 28) hx hb d_mLines_init_37 (by decide) ?_
  refine va_iast hx hb hK hP hD hS 1 0 rfl rfl (show ¬ ((5 : Int32) < 0 ∨ 64 ≤ (5 : Int32).toNatClampNeg) by decide) d_mLines_init_39 ?_
  clear hP hD hS
  intro H locs hP hD hS
  rw [show (5 : Int32).toNatClampNeg = 5 by decide] at hP hD
  replace hP : va_P (dC, dI) vcl [(h0, .inr (14, [.null, .null, .null, .null, .null, .null, .int 0, .null, .null, .null, .long 0, .null, .int 0, .int 0, .int 0, .int 0, .int 0, .int 0, .int 0, .null, .null])), (q_1, .inl (cA_2, 64, .inl (upd f_3 5 28)))] H := hP
  replace hD : va_D A [(h0, .inr (14, [.null, .null, .null, .null, .null, .null, .int 0, .null, .null, .null, .long 0, .null, .int 0, .int 0, .int 0, .int 0, .int 0, .int 0, .int 0, .null, .null])), (q_1, .inl (cA_2, 64, .inl (upd f_3 5 28)))] := hD
  refine lv_dup hx hb d_mLines_init_40 rfl ?_
  refine lv_bipush (v := 6) hx hb d_mLines_init_41 (by decide) ?_
  refine lv_bipush (v := 30) hx hb d_mLines_init_43 (by decide) ?_
  refine va_iast hx hb hK hP hD hS 1 0 rfl rfl (show ¬ ((6 : Int32) < 0 ∨ 64 ≤ (6 : Int32).toNatClampNeg) by decide) d_mLines_init_45 ?_
  clear hP hD hS
  intro H locs hP hD hS
  rw [show (6 : Int32).toNatClampNeg = 6 by decide] at hP hD
  replace hP : va_P (dC, dI) vcl [(h0, .inr (14, [.null, .null, .null, .null, .null, .null, .int 0, .null, .null, .null, .long 0, .null, .int 0, .int 0, .int 0, .int 0, .int 0, .int 0, .int 0, .null, .null])), (q_1, .inl (cA_2, 64, .inl (upd (upd f_3 5 28) 6 30)))] H := hP
  replace hD : va_D A [(h0, .inr (14, [.null, .null, .null, .null, .null, .null, .int 0, .null, .null, .null, .long 0, .null, .int 0, .int 0, .int 0, .int 0, .int 0, .int 0, .int 0, .null, .null])), (q_1, .inl (cA_2, 64, .inl (upd (upd f_3 5 28) 6 30)))] := hD
  refine lv_dup hx hb d_mLines_init_46 rfl ?_
  refine lv_bipush (v := 7) hx hb d_mLines_init_47 (by decide) ?_
  refine lv_bipush (v := 31) hx hb d_mLines_init_49 (by decide) ?_
  refine va_iast hx hb hK hP hD hS 1 0 rfl rfl (show ¬ ((7 : Int32) < 0 ∨ 64 ≤ (7 : Int32).toNatClampNeg) by decide) d_mLines_init_51 ?_
  clear hP hD hS
  intro H locs hP hD hS
  rw [show (7 : Int32).toNatClampNeg = 7 by decide] at hP hD
  replace hP : va_P (dC, dI) vcl [(h0, .inr (14, [.null, .null, .null, .null, .null, .null, .int 0, .null, .null, .null, .long 0, .null, .int 0, .int 0, .int 0, .int 0, .int 0, .int 0, .int 0, .null, .null])), (q_1, .inl (cA_2, 64, .inl (upd (upd (upd f_3 5 28) 6 30) 7 31)))] H := hP
  replace hD : va_D A [(h0, .inr (14, [.null, .null, .null, .null, .null, .null, .int 0, .null, .null, .null, .long 0, .null, .int 0, .int 0, .int 0, .int 0, .int 0, .int 0, .int 0, .null, .null])), (q_1, .inl (cA_2, 64, .inl (upd (upd (upd f_3 5 28) 6 30) 7 31)))] := hD
  refine lv_dup hx hb d_mLines_init_52 rfl ?_
  refine lv_bipush (v := 8) hx hb d_mLines_init_53 (by decide) ?_
  refine lv_bipush (v := 51) hx hb d_mLines_init_55 (by decide) ?_
  refine va_iast hx hb hK hP hD hS 1 0 rfl rfl (show ¬ ((8 : Int32) < 0 ∨ 64 ≤ (8 : Int32).toNatClampNeg) by decide) d_mLines_init_57 ?_
  clear hP hD hS
  intro H locs hP hD hS
  rw [show (8 : Int32).toNatClampNeg = 8 by decide] at hP hD
  replace hP : va_P (dC, dI) vcl [(h0, .inr (14, [.null, .null, .null, .null, .null, .null, .int 0, .null, .null, .null, .long 0, .null, .int 0, .int 0, .int 0, .int 0, .int 0, .int 0, .int 0, .null, .null])), (q_1, .inl (cA_2, 64, .inl (upd (upd (upd (upd f_3 5 28) 6 30) 7 31) 8 51)))] H := hP
  replace hD : va_D A [(h0, .inr (14, [.null, .null, .null, .null, .null, .null, .int 0, .null, .null, .null, .long 0, .null, .int 0, .int 0, .int 0, .int 0, .int 0, .int 0, .int 0, .null, .null])), (q_1, .inl (cA_2, 64, .inl (upd (upd (upd (upd f_3 5 28) 6 30) 7 31) 8 51)))] := hD
  refine lv_dup hx hb d_mLines_init_58 rfl ?_
  refine lv_bipush (v := 9) hx hb d_mLines_init_59 (by decide) ?_
  refine lv_bipush (v := 52) hx hb d_mLines_init_61 (by decide) ?_
  refine va_iast hx hb hK hP hD hS 1 0 rfl rfl (show ¬ ((9 : Int32) < 0 ∨ 64 ≤ (9 : Int32).toNatClampNeg) by decide) d_mLines_init_63 ?_
  clear hP hD hS
  intro H locs hP hD hS
  rw [show (9 : Int32).toNatClampNeg = 9 by decide] at hP hD
  replace hP : va_P (dC, dI) vcl [(h0, .inr (14, [.null, .null, .null, .null, .null, .null, .int 0, .null, .null, .null, .long 0, .null, .int 0, .int 0, .int 0, .int 0, .int 0, .int 0, .int 0, .null, .null])), (q_1, .inl (cA_2, 64, .inl (upd (upd (upd (upd (upd f_3 5 28) 6 30) 7 31) 8 51) 9 52)))] H := hP
  replace hD : va_D A [(h0, .inr (14, [.null, .null, .null, .null, .null, .null, .int 0, .null, .null, .null, .long 0, .null, .int 0, .int 0, .int 0, .int 0, .int 0, .int 0, .int 0, .null, .null])), (q_1, .inl (cA_2, 64, .inl (upd (upd (upd (upd (upd f_3 5 28) 6 30) 7 31) 8 51) 9 52)))] := hD
  refine lv_dup hx hb d_mLines_init_64 rfl ?_
  refine lv_bipush (v := 10) hx hb d_mLines_init_65 (by decide) ?_
  refine lv_bipush (v := 39) hx hb d_mLines_init_67 (by decide) ?_
  refine va_iast hx hb hK hP hD hS 1 0 rfl rfl (show ¬ ((10 : Int32) < 0 ∨ 64 ≤ (10 : Int32).toNatClampNeg) by decide) d_mLines_init_69 ?_
  clear hP hD hS
  intro H locs hP hD hS
  rw [show (10 : Int32).toNatClampNeg = 10 by decide] at hP hD
  obtain ⟨f_4, ef_4⟩ : ∃ y : Nat → Int32, y = upd (upd (upd (upd (upd (upd f_3 5 28) 6 30) 7 31) 8 51) 9 52) 10 39 := ⟨_, rfl⟩
  replace hP : va_P (dC, dI) vcl [(h0, .inr (14, [.null, .null, .null, .null, .null, .null, .int 0, .null, .null, .null, .long 0, .null, .int 0, .int 0, .int 0, .int 0, .int 0, .int 0, .int 0, .null, .null])), (q_1, .inl (cA_2, 64, .inl (upd (upd (upd (upd (upd (upd f_3 5 28) 6 30) 7 31) 8 51) 9 52) 10 39)))] H := hP
  replace hD : va_D A [(h0, .inr (14, [.null, .null, .null, .null, .null, .null, .int 0, .null, .null, .null, .long 0, .null, .int 0, .int 0, .int 0, .int 0, .int 0, .int 0, .int 0, .null, .null])), (q_1, .inl (cA_2, 64, .inl (upd (upd (upd (upd (upd (upd f_3 5 28) 6 30) 7 31) 8 51) 9 52) 10 39)))] := hD
  rw [← ef_4] at hP hD
  replace hP : va_P (dC, dI) vcl [(h0, .inr (14, [.null, .null, .null, .null, .null, .null, .int 0, .null, .null, .null, .long 0, .null, .int 0, .int 0, .int 0, .int 0, .int 0, .int 0, .int 0, .null, .null])), (q_1, .inl (cA_2, 64, .inl f_4))] H := hP
  replace hD : va_D A [(h0, .inr (14, [.null, .null, .null, .null, .null, .null, .int 0, .null, .null, .null, .long 0, .null, .int 0, .int 0, .int 0, .int 0, .int 0, .int 0, .int 0, .null, .null])), (q_1, .inl (cA_2, 64, .inl f_4))] := hD
  refine lv_dup hx hb d_mLines_init_70 rfl ?_
  refine lv_bipush (v := 11) hx hb d_mLines_init_71 (by decide) ?_
  refine lv_bipush (v := 40) hx hb d_mLines_init_73 (by decide) ?_
  refine va_iast hx hb hK hP hD hS 1 0 rfl rfl (show ¬ ((11 : Int32) < 0 ∨ 64 ≤ (11 : Int32).toNatClampNeg) by decide) d_mLines_init_75 ?_
  clear hP hD hS
  intro H locs hP hD hS
  rw [show (11 : Int32).toNatClampNeg = 11 by decide] at hP hD
  replace hP : va_P (dC, dI) vcl [(h0, .inr (14, [.null, .null, .null, .null, .null, .null, .int 0, .null, .null, .null, .long 0, .null, .int 0, .int 0, .int 0, .int 0, .int 0, .int 0, .int 0, .null, .null])), (q_1, .inl (cA_2, 64, .inl (upd f_4 11 40)))] H := hP
  replace hD : va_D A [(h0, .inr (14, [.null, .null, .null, .null, .null, .null, .int 0, .null, .null, .null, .long 0, .null, .int 0, .int 0, .int 0, .int 0, .int 0, .int 0, .int 0, .null, .null])), (q_1, .inl (cA_2, 64, .inl (upd f_4 11 40)))] := hD
  refine lv_dup hx hb d_mLines_init_76 rfl ?_
  refine lv_bipush (v := 12) hx hb d_mLines_init_77 (by decide) ?_
  refine lv_bipush (v := 72) hx hb d_mLines_init_79 (by decide) ?_
  refine va_iast hx hb hK hP hD hS 1 0 rfl rfl (show ¬ ((12 : Int32) < 0 ∨ 64 ≤ (12 : Int32).toNatClampNeg) by decide) d_mLines_init_81 ?_
  clear hP hD hS
  intro H locs hP hD hS
  rw [show (12 : Int32).toNatClampNeg = 12 by decide] at hP hD
  replace hP : va_P (dC, dI) vcl [(h0, .inr (14, [.null, .null, .null, .null, .null, .null, .int 0, .null, .null, .null, .long 0, .null, .int 0, .int 0, .int 0, .int 0, .int 0, .int 0, .int 0, .null, .null])), (q_1, .inl (cA_2, 64, .inl (upd (upd f_4 11 40) 12 72)))] H := hP
  replace hD : va_D A [(h0, .inr (14, [.null, .null, .null, .null, .null, .null, .int 0, .null, .null, .null, .long 0, .null, .int 0, .int 0, .int 0, .int 0, .int 0, .int 0, .int 0, .null, .null])), (q_1, .inl (cA_2, 64, .inl (upd (upd f_4 11 40) 12 72)))] := hD
  refine lv_dup hx hb d_mLines_init_82 rfl ?_
  refine lv_bipush (v := 13) hx hb d_mLines_init_83 (by decide) ?_
  refine lv_bipush (v := 67) hx hb d_mLines_init_85 (by decide) ?_
  refine va_iast hx hb hK hP hD hS 1 0 rfl rfl (show ¬ ((13 : Int32) < 0 ∨ 64 ≤ (13 : Int32).toNatClampNeg) by decide) d_mLines_init_87 ?_
  clear hP hD hS
  intro H locs hP hD hS
  rw [show (13 : Int32).toNatClampNeg = 13 by decide] at hP hD
  replace hP : va_P (dC, dI) vcl [(h0, .inr (14, [.null, .null, .null, .null, .null, .null, .int 0, .null, .null, .null, .long 0, .null, .int 0, .int 0, .int 0, .int 0, .int 0, .int 0, .int 0, .null, .null])), (q_1, .inl (cA_2, 64, .inl (upd (upd (upd f_4 11 40) 12 72) 13 67)))] H := hP
  replace hD : va_D A [(h0, .inr (14, [.null, .null, .null, .null, .null, .null, .int 0, .null, .null, .null, .long 0, .null, .int 0, .int 0, .int 0, .int 0, .int 0, .int 0, .int 0, .null, .null])), (q_1, .inl (cA_2, 64, .inl (upd (upd (upd f_4 11 40) 12 72) 13 67)))] := hD
  refine lv_dup hx hb d_mLines_init_88 rfl ?_
  refine lv_bipush (v := 14) hx hb d_mLines_init_89 (by decide) ?_
  refine lv_bipush (v := 116) hx hb d_mLines_init_91 (by decide) ?_
  refine va_iast hx hb hK hP hD hS 1 0 rfl rfl (show ¬ ((14 : Int32) < 0 ∨ 64 ≤ (14 : Int32).toNatClampNeg) by decide) d_mLines_init_93 ?_
  clear hP hD hS
  intro H locs hP hD hS
  rw [show (14 : Int32).toNatClampNeg = 14 by decide] at hP hD
  replace hP : va_P (dC, dI) vcl [(h0, .inr (14, [.null, .null, .null, .null, .null, .null, .int 0, .null, .null, .null, .long 0, .null, .int 0, .int 0, .int 0, .int 0, .int 0, .int 0, .int 0, .null, .null])), (q_1, .inl (cA_2, 64, .inl (upd (upd (upd (upd f_4 11 40) 12 72) 13 67) 14 116)))] H := hP
  replace hD : va_D A [(h0, .inr (14, [.null, .null, .null, .null, .null, .null, .int 0, .null, .null, .null, .long 0, .null, .int 0, .int 0, .int 0, .int 0, .int 0, .int 0, .int 0, .null, .null])), (q_1, .inl (cA_2, 64, .inl (upd (upd (upd (upd f_4 11 40) 12 72) 13 67) 14 116)))] := hD
  refine lv_dup hx hb d_mLines_init_94 rfl ?_
  refine lv_bipush (v := 15) hx hb d_mLines_init_95 (by decide) ?_
  refine lv_bipush (v := 117) hx hb d_mLines_init_97 (by decide) ?_
  refine va_iast hx hb hK hP hD hS 1 0 rfl rfl (show ¬ ((15 : Int32) < 0 ∨ 64 ≤ (15 : Int32).toNatClampNeg) by decide) d_mLines_init_99 ?_
  clear hP hD hS
  intro H locs hP hD hS
  rw [show (15 : Int32).toNatClampNeg = 15 by decide] at hP hD
  obtain ⟨f_5, ef_5⟩ : ∃ y : Nat → Int32, y = upd (upd (upd (upd (upd f_4 11 40) 12 72) 13 67) 14 116) 15 117 := ⟨_, rfl⟩
  replace hP : va_P (dC, dI) vcl [(h0, .inr (14, [.null, .null, .null, .null, .null, .null, .int 0, .null, .null, .null, .long 0, .null, .int 0, .int 0, .int 0, .int 0, .int 0, .int 0, .int 0, .null, .null])), (q_1, .inl (cA_2, 64, .inl (upd (upd (upd (upd (upd f_4 11 40) 12 72) 13 67) 14 116) 15 117)))] H := hP
  replace hD : va_D A [(h0, .inr (14, [.null, .null, .null, .null, .null, .null, .int 0, .null, .null, .null, .long 0, .null, .int 0, .int 0, .int 0, .int 0, .int 0, .int 0, .int 0, .null, .null])), (q_1, .inl (cA_2, 64, .inl (upd (upd (upd (upd (upd f_4 11 40) 12 72) 13 67) 14 116) 15 117)))] := hD
  rw [← ef_5] at hP hD
  replace hP : va_P (dC, dI) vcl [(h0, .inr (14, [.null, .null, .null, .null, .null, .null, .int 0, .null, .null, .null, .long 0, .null, .int 0, .int 0, .int 0, .int 0, .int 0, .int 0, .int 0, .null, .null])), (q_1, .inl (cA_2, 64, .inl f_5))] H := hP
  replace hD : va_D A [(h0, .inr (14, [.null, .null, .null, .null, .null, .null, .int 0, .null, .null, .null, .long 0, .null, .int 0, .int 0, .int 0, .int 0, .int 0, .int 0, .int 0, .null, .null])), (q_1, .inl (cA_2, 64, .inl f_5))] := hD
  refine lv_dup hx hb d_mLines_init_100 rfl ?_
  refine lv_bipush (v := 16) hx hb d_mLines_init_101 (by decide) ?_
  refine lv_bipush (v := 106) hx hb d_mLines_init_103 (by decide) ?_
  refine va_iast hx hb hK hP hD hS 1 0 rfl rfl (show ¬ ((16 : Int32) < 0 ∨ 64 ≤ (16 : Int32).toNatClampNeg) by decide) d_mLines_init_105 ?_
  clear hP hD hS
  intro H locs hP hD hS
  rw [show (16 : Int32).toNatClampNeg = 16 by decide] at hP hD
  replace hP : va_P (dC, dI) vcl [(h0, .inr (14, [.null, .null, .null, .null, .null, .null, .int 0, .null, .null, .null, .long 0, .null, .int 0, .int 0, .int 0, .int 0, .int 0, .int 0, .int 0, .null, .null])), (q_1, .inl (cA_2, 64, .inl (upd f_5 16 106)))] H := hP
  replace hD : va_D A [(h0, .inr (14, [.null, .null, .null, .null, .null, .null, .int 0, .null, .null, .null, .long 0, .null, .int 0, .int 0, .int 0, .int 0, .int 0, .int 0, .int 0, .null, .null])), (q_1, .inl (cA_2, 64, .inl (upd f_5 16 106)))] := hD
  refine lv_dup hx hb d_mLines_init_106 rfl ?_
  refine lv_bipush (v := 17) hx hb d_mLines_init_107 (by decide) ?_
  refine lv_bipush (v := 107) hx hb d_mLines_init_109 (by decide) ?_
  refine va_iast hx hb hK hP hD hS 1 0 rfl rfl (show ¬ ((17 : Int32) < 0 ∨ 64 ≤ (17 : Int32).toNatClampNeg) by decide) d_mLines_init_111 ?_
  clear hP hD hS
  intro H locs hP hD hS
  rw [show (17 : Int32).toNatClampNeg = 17 by decide] at hP hD
  replace hP : va_P (dC, dI) vcl [(h0, .inr (14, [.null, .null, .null, .null, .null, .null, .int 0, .null, .null, .null, .long 0, .null, .int 0, .int 0, .int 0, .int 0, .int 0, .int 0, .int 0, .null, .null])), (q_1, .inl (cA_2, 64, .inl (upd (upd f_5 16 106) 17 107)))] H := hP
  replace hD : va_D A [(h0, .inr (14, [.null, .null, .null, .null, .null, .null, .int 0, .null, .null, .null, .long 0, .null, .int 0, .int 0, .int 0, .int 0, .int 0, .int 0, .int 0, .null, .null])), (q_1, .inl (cA_2, 64, .inl (upd (upd f_5 16 106) 17 107)))] := hD
  refine lv_dup hx hb d_mLines_init_112 rfl ?_
  refine lv_bipush (v := 18) hx hb d_mLines_init_113 (by decide) ?_
  refine lv_sipush (v := 167) hx hb d_mLines_init_115 (by decide) ?_
  refine va_iast hx hb hK hP hD hS 1 0 rfl rfl (show ¬ ((18 : Int32) < 0 ∨ 64 ≤ (18 : Int32).toNatClampNeg) by decide) d_mLines_init_118 ?_
  clear hP hD hS
  intro H locs hP hD hS
  rw [show (18 : Int32).toNatClampNeg = 18 by decide] at hP hD
  replace hP : va_P (dC, dI) vcl [(h0, .inr (14, [.null, .null, .null, .null, .null, .null, .int 0, .null, .null, .null, .long 0, .null, .int 0, .int 0, .int 0, .int 0, .int 0, .int 0, .int 0, .null, .null])), (q_1, .inl (cA_2, 64, .inl (upd (upd (upd f_5 16 106) 17 107) 18 167)))] H := hP
  replace hD : va_D A [(h0, .inr (14, [.null, .null, .null, .null, .null, .null, .int 0, .null, .null, .null, .long 0, .null, .int 0, .int 0, .int 0, .int 0, .int 0, .int 0, .int 0, .null, .null])), (q_1, .inl (cA_2, 64, .inl (upd (upd (upd f_5 16 106) 17 107) 18 167)))] := hD
  refine lv_dup hx hb d_mLines_init_119 rfl ?_
  refine lv_bipush (v := 19) hx hb d_mLines_init_120 (by decide) ?_
  refine lv_sipush (v := 140) hx hb d_mLines_init_122 (by decide) ?_
  refine va_iast hx hb hK hP hD hS 1 0 rfl rfl (show ¬ ((19 : Int32) < 0 ∨ 64 ≤ (19 : Int32).toNatClampNeg) by decide) d_mLines_init_125 ?_
  clear hP hD hS
  intro H locs hP hD hS
  rw [show (19 : Int32).toNatClampNeg = 19 by decide] at hP hD
  replace hP : va_P (dC, dI) vcl [(h0, .inr (14, [.null, .null, .null, .null, .null, .null, .int 0, .null, .null, .null, .long 0, .null, .int 0, .int 0, .int 0, .int 0, .int 0, .int 0, .int 0, .null, .null])), (q_1, .inl (cA_2, 64, .inl (upd (upd (upd (upd f_5 16 106) 17 107) 18 167) 19 140)))] H := hP
  replace hD : va_D A [(h0, .inr (14, [.null, .null, .null, .null, .null, .null, .int 0, .null, .null, .null, .long 0, .null, .int 0, .int 0, .int 0, .int 0, .int 0, .int 0, .int 0, .null, .null])), (q_1, .inl (cA_2, 64, .inl (upd (upd (upd (upd f_5 16 106) 17 107) 18 167) 19 140)))] := hD
  refine lv_dup hx hb d_mLines_init_126 rfl ?_
  refine lv_bipush (v := 20) hx hb d_mLines_init_127 (by decide) ?_
  refine lv_sipush (v := 136) hx hb d_mLines_init_129 (by decide) ?_
  refine va_iast hx hb hK hP hD hS 1 0 rfl rfl (show ¬ ((20 : Int32) < 0 ∨ 64 ≤ (20 : Int32).toNatClampNeg) by decide) d_mLines_init_132 ?_
  clear hP hD hS
  intro H locs hP hD hS
  rw [show (20 : Int32).toNatClampNeg = 20 by decide] at hP hD
  obtain ⟨f_6, ef_6⟩ : ∃ y : Nat → Int32, y = upd (upd (upd (upd (upd f_5 16 106) 17 107) 18 167) 19 140) 20 136 := ⟨_, rfl⟩
  replace hP : va_P (dC, dI) vcl [(h0, .inr (14, [.null, .null, .null, .null, .null, .null, .int 0, .null, .null, .null, .long 0, .null, .int 0, .int 0, .int 0, .int 0, .int 0, .int 0, .int 0, .null, .null])), (q_1, .inl (cA_2, 64, .inl (upd (upd (upd (upd (upd f_5 16 106) 17 107) 18 167) 19 140) 20 136)))] H := hP
  replace hD : va_D A [(h0, .inr (14, [.null, .null, .null, .null, .null, .null, .int 0, .null, .null, .null, .long 0, .null, .int 0, .int 0, .int 0, .int 0, .int 0, .int 0, .int 0, .null, .null])), (q_1, .inl (cA_2, 64, .inl (upd (upd (upd (upd (upd f_5 16 106) 17 107) 18 167) 19 140) 20 136)))] := hD
  rw [← ef_6] at hP hD
  replace hP : va_P (dC, dI) vcl [(h0, .inr (14, [.null, .null, .null, .null, .null, .null, .int 0, .null, .null, .null, .long 0, .null, .int 0, .int 0, .int 0, .int 0, .int 0, .int 0, .int 0, .null, .null])), (q_1, .inl (cA_2, 64, .inl f_6))] H := hP
  replace hD : va_D A [(h0, .inr (14, [.null, .null, .null, .null, .null, .null, .int 0, .null, .null, .null, .long 0, .null, .int 0, .int 0, .int 0, .int 0, .int 0, .int 0, .int 0, .null, .null])), (q_1, .inl (cA_2, 64, .inl f_6))] := hD
  refine lv_dup hx hb d_mLines_init_133 rfl ?_
  refine lv_bipush (v := 21) hx hb d_mLines_init_134 (by decide) ?_
  refine lv_sipush (v := 151) hx hb d_mLines_init_136 (by decide) ?_
  refine va_iast hx hb hK hP hD hS 1 0 rfl rfl (show ¬ ((21 : Int32) < 0 ∨ 64 ≤ (21 : Int32).toNatClampNeg) by decide) d_mLines_init_139 ?_
  clear hP hD hS
  intro H locs hP hD hS
  rw [show (21 : Int32).toNatClampNeg = 21 by decide] at hP hD
  replace hP : va_P (dC, dI) vcl [(h0, .inr (14, [.null, .null, .null, .null, .null, .null, .int 0, .null, .null, .null, .long 0, .null, .int 0, .int 0, .int 0, .int 0, .int 0, .int 0, .int 0, .null, .null])), (q_1, .inl (cA_2, 64, .inl (upd f_6 21 151)))] H := hP
  replace hD : va_D A [(h0, .inr (14, [.null, .null, .null, .null, .null, .null, .int 0, .null, .null, .null, .long 0, .null, .int 0, .int 0, .int 0, .int 0, .int 0, .int 0, .int 0, .null, .null])), (q_1, .inl (cA_2, 64, .inl (upd f_6 21 151)))] := hD
  refine lv_dup hx hb d_mLines_init_140 rfl ?_
  refine lv_bipush (v := 22) hx hb d_mLines_init_141 (by decide) ?_
  refine lv_sipush (v := 131) hx hb d_mLines_init_143 (by decide) ?_
  refine va_iast hx hb hK hP hD hS 1 0 rfl rfl (show ¬ ((22 : Int32) < 0 ∨ 64 ≤ (22 : Int32).toNatClampNeg) by decide) d_mLines_init_146 ?_
  clear hP hD hS
  intro H locs hP hD hS
  rw [show (22 : Int32).toNatClampNeg = 22 by decide] at hP hD
  replace hP : va_P (dC, dI) vcl [(h0, .inr (14, [.null, .null, .null, .null, .null, .null, .int 0, .null, .null, .null, .long 0, .null, .int 0, .int 0, .int 0, .int 0, .int 0, .int 0, .int 0, .null, .null])), (q_1, .inl (cA_2, 64, .inl (upd (upd f_6 21 151) 22 131)))] H := hP
  replace hD : va_D A [(h0, .inr (14, [.null, .null, .null, .null, .null, .null, .int 0, .null, .null, .null, .long 0, .null, .int 0, .int 0, .int 0, .int 0, .int 0, .int 0, .int 0, .null, .null])), (q_1, .inl (cA_2, 64, .inl (upd (upd f_6 21 151) 22 131)))] := hD
  refine lv_dup hx hb d_mLines_init_147 rfl ?_
  refine lv_bipush (v := 23) hx hb d_mLines_init_148 (by decide) ?_
  refine lv_sipush (v := 132) hx hb d_mLines_init_150 (by decide) ?_
  refine va_iast hx hb hK hP hD hS 1 0 rfl rfl (show ¬ ((23 : Int32) < 0 ∨ 64 ≤ (23 : Int32).toNatClampNeg) by decide) d_mLines_init_153 ?_
  clear hP hD hS
  intro H locs hP hD hS
  rw [show (23 : Int32).toNatClampNeg = 23 by decide] at hP hD
  replace hP : va_P (dC, dI) vcl [(h0, .inr (14, [.null, .null, .null, .null, .null, .null, .int 0, .null, .null, .null, .long 0, .null, .int 0, .int 0, .int 0, .int 0, .int 0, .int 0, .int 0, .null, .null])), (q_1, .inl (cA_2, 64, .inl (upd (upd (upd f_6 21 151) 22 131) 23 132)))] H := hP
  replace hD : va_D A [(h0, .inr (14, [.null, .null, .null, .null, .null, .null, .int 0, .null, .null, .null, .long 0, .null, .int 0, .int 0, .int 0, .int 0, .int 0, .int 0, .int 0, .null, .null])), (q_1, .inl (cA_2, 64, .inl (upd (upd (upd f_6 21 151) 22 131) 23 132)))] := hD
  refine lv_dup hx hb d_mLines_init_154 rfl ?_
  refine lv_bipush (v := 24) hx hb d_mLines_init_155 (by decide) ?_
  refine lv_sipush (v := 168) hx hb d_mLines_init_157 (by decide) ?_
  refine va_iast hx hb hK hP hD hS 1 0 rfl rfl (show ¬ ((24 : Int32) < 0 ∨ 64 ≤ (24 : Int32).toNatClampNeg) by decide) d_mLines_init_160 ?_
  clear hP hD hS
  intro H locs hP hD hS
  rw [show (24 : Int32).toNatClampNeg = 24 by decide] at hP hD
  replace hP : va_P (dC, dI) vcl [(h0, .inr (14, [.null, .null, .null, .null, .null, .null, .int 0, .null, .null, .null, .long 0, .null, .int 0, .int 0, .int 0, .int 0, .int 0, .int 0, .int 0, .null, .null])), (q_1, .inl (cA_2, 64, .inl (upd (upd (upd (upd f_6 21 151) 22 131) 23 132) 24 168)))] H := hP
  replace hD : va_D A [(h0, .inr (14, [.null, .null, .null, .null, .null, .null, .int 0, .null, .null, .null, .long 0, .null, .int 0, .int 0, .int 0, .int 0, .int 0, .int 0, .int 0, .null, .null])), (q_1, .inl (cA_2, 64, .inl (upd (upd (upd (upd f_6 21 151) 22 131) 23 132) 24 168)))] := hD
  refine lv_dup hx hb d_mLines_init_161 rfl ?_
  refine lv_bipush (v := 25) hx hb d_mLines_init_162 (by decide) ?_
  refine lv_sipush (v := 171) hx hb d_mLines_init_164 (by decide) ?_
  refine va_iast hx hb hK hP hD hS 1 0 rfl rfl (show ¬ ((25 : Int32) < 0 ∨ 64 ≤ (25 : Int32).toNatClampNeg) by decide) d_mLines_init_167 ?_
  clear hP hD hS
  intro H locs hP hD hS
  rw [show (25 : Int32).toNatClampNeg = 25 by decide] at hP hD
  obtain ⟨f_7, ef_7⟩ : ∃ y : Nat → Int32, y = upd (upd (upd (upd (upd f_6 21 151) 22 131) 23 132) 24 168) 25 171 := ⟨_, rfl⟩
  replace hP : va_P (dC, dI) vcl [(h0, .inr (14, [.null, .null, .null, .null, .null, .null, .int 0, .null, .null, .null, .long 0, .null, .int 0, .int 0, .int 0, .int 0, .int 0, .int 0, .int 0, .null, .null])), (q_1, .inl (cA_2, 64, .inl (upd (upd (upd (upd (upd f_6 21 151) 22 131) 23 132) 24 168) 25 171)))] H := hP
  replace hD : va_D A [(h0, .inr (14, [.null, .null, .null, .null, .null, .null, .int 0, .null, .null, .null, .long 0, .null, .int 0, .int 0, .int 0, .int 0, .int 0, .int 0, .int 0, .null, .null])), (q_1, .inl (cA_2, 64, .inl (upd (upd (upd (upd (upd f_6 21 151) 22 131) 23 132) 24 168) 25 171)))] := hD
  rw [← ef_7] at hP hD
  replace hP : va_P (dC, dI) vcl [(h0, .inr (14, [.null, .null, .null, .null, .null, .null, .int 0, .null, .null, .null, .long 0, .null, .int 0, .int 0, .int 0, .int 0, .int 0, .int 0, .int 0, .null, .null])), (q_1, .inl (cA_2, 64, .inl f_7))] H := hP
  replace hD : va_D A [(h0, .inr (14, [.null, .null, .null, .null, .null, .null, .int 0, .null, .null, .null, .long 0, .null, .int 0, .int 0, .int 0, .int 0, .int 0, .int 0, .int 0, .null, .null])), (q_1, .inl (cA_2, 64, .inl f_7))] := hD
  refine lv_dup hx hb d_mLines_init_168 rfl ?_
  refine lv_bipush (v := 26) hx hb d_mLines_init_169 (by decide) ?_
  refine lv_sipush (v := 147) hx hb d_mLines_init_171 (by decide) ?_
  refine va_iast hx hb hK hP hD hS 1 0 rfl rfl (show ¬ ((26 : Int32) < 0 ∨ 64 ≤ (26 : Int32).toNatClampNeg) by decide) d_mLines_init_174 ?_
  clear hP hD hS
  intro H locs hP hD hS
  rw [show (26 : Int32).toNatClampNeg = 26 by decide] at hP hD
  replace hP : va_P (dC, dI) vcl [(h0, .inr (14, [.null, .null, .null, .null, .null, .null, .int 0, .null, .null, .null, .long 0, .null, .int 0, .int 0, .int 0, .int 0, .int 0, .int 0, .int 0, .null, .null])), (q_1, .inl (cA_2, 64, .inl (upd f_7 26 147)))] H := hP
  replace hD : va_D A [(h0, .inr (14, [.null, .null, .null, .null, .null, .null, .int 0, .null, .null, .null, .long 0, .null, .int 0, .int 0, .int 0, .int 0, .int 0, .int 0, .int 0, .null, .null])), (q_1, .inl (cA_2, 64, .inl (upd f_7 26 147)))] := hD
  refine lv_dup hx hb d_mLines_init_175 rfl ?_
  refine lv_bipush (v := 27) hx hb d_mLines_init_176 (by decide) ?_
  refine lv_sipush (v := 164) hx hb d_mLines_init_178 (by decide) ?_
  refine va_iast hx hb hK hP hD hS 1 0 rfl rfl (show ¬ ((27 : Int32) < 0 ∨ 64 ≤ (27 : Int32).toNatClampNeg) by decide) d_mLines_init_181 ?_
  clear hP hD hS
  intro H locs hP hD hS
  rw [show (27 : Int32).toNatClampNeg = 27 by decide] at hP hD
  replace hP : va_P (dC, dI) vcl [(h0, .inr (14, [.null, .null, .null, .null, .null, .null, .int 0, .null, .null, .null, .long 0, .null, .int 0, .int 0, .int 0, .int 0, .int 0, .int 0, .int 0, .null, .null])), (q_1, .inl (cA_2, 64, .inl (upd (upd f_7 26 147) 27 164)))] H := hP
  replace hD : va_D A [(h0, .inr (14, [.null, .null, .null, .null, .null, .null, .int 0, .null, .null, .null, .long 0, .null, .int 0, .int 0, .int 0, .int 0, .int 0, .int 0, .int 0, .null, .null])), (q_1, .inl (cA_2, 64, .inl (upd (upd f_7 26 147) 27 164)))] := hD
  refine lv_dup hx hb d_mLines_init_182 rfl ?_
  refine lv_bipush (v := 28) hx hb d_mLines_init_183 (by decide) ?_
  refine lv_sipush (v := 152) hx hb d_mLines_init_185 (by decide) ?_
  refine va_iast hx hb hK hP hD hS 1 0 rfl rfl (show ¬ ((28 : Int32) < 0 ∨ 64 ≤ (28 : Int32).toNatClampNeg) by decide) d_mLines_init_188 ?_
  clear hP hD hS
  intro H locs hP hD hS
  rw [show (28 : Int32).toNatClampNeg = 28 by decide] at hP hD
  replace hP : va_P (dC, dI) vcl [(h0, .inr (14, [.null, .null, .null, .null, .null, .null, .int 0, .null, .null, .null, .long 0, .null, .int 0, .int 0, .int 0, .int 0, .int 0, .int 0, .int 0, .null, .null])), (q_1, .inl (cA_2, 64, .inl (upd (upd (upd f_7 26 147) 27 164) 28 152)))] H := hP
  replace hD : va_D A [(h0, .inr (14, [.null, .null, .null, .null, .null, .null, .int 0, .null, .null, .null, .long 0, .null, .int 0, .int 0, .int 0, .int 0, .int 0, .int 0, .int 0, .null, .null])), (q_1, .inl (cA_2, 64, .inl (upd (upd (upd f_7 26 147) 27 164) 28 152)))] := hD
  refine lv_dup hx hb d_mLines_init_189 rfl ?_
  refine lv_bipush (v := 29) hx hb d_mLines_init_190 (by decide) ?_
  refine lv_sipush (v := 258) hx hb d_mLines_init_192 (by decide) ?_
  refine va_iast hx hb hK hP hD hS 1 0 rfl rfl (show ¬ ((29 : Int32) < 0 ∨ 64 ≤ (29 : Int32).toNatClampNeg) by decide) d_mLines_init_195 ?_
  clear hP hD hS
  intro H locs hP hD hS
  rw [show (29 : Int32).toNatClampNeg = 29 by decide] at hP hD
  replace hP : va_P (dC, dI) vcl [(h0, .inr (14, [.null, .null, .null, .null, .null, .null, .int 0, .null, .null, .null, .long 0, .null, .int 0, .int 0, .int 0, .int 0, .int 0, .int 0, .int 0, .null, .null])), (q_1, .inl (cA_2, 64, .inl (upd (upd (upd (upd f_7 26 147) 27 164) 28 152) 29 258)))] H := hP
  replace hD : va_D A [(h0, .inr (14, [.null, .null, .null, .null, .null, .null, .int 0, .null, .null, .null, .long 0, .null, .int 0, .int 0, .int 0, .int 0, .int 0, .int 0, .int 0, .null, .null])), (q_1, .inl (cA_2, 64, .inl (upd (upd (upd (upd f_7 26 147) 27 164) 28 152) 29 258)))] := hD
  refine lv_dup hx hb d_mLines_init_196 rfl ?_
  refine lv_bipush (v := 30) hx hb d_mLines_init_197 (by decide) ?_
  refine lv_sipush (v := 259) hx hb d_mLines_init_199 (by decide) ?_
  refine va_iast hx hb hK hP hD hS 1 0 rfl rfl (show ¬ ((30 : Int32) < 0 ∨ 64 ≤ (30 : Int32).toNatClampNeg) by decide) d_mLines_init_202 ?_
  clear hP hD hS
  intro H locs hP hD hS
  rw [show (30 : Int32).toNatClampNeg = 30 by decide] at hP hD
  obtain ⟨f_8, ef_8⟩ : ∃ y : Nat → Int32, y = upd (upd (upd (upd (upd f_7 26 147) 27 164) 28 152) 29 258) 30 259 := ⟨_, rfl⟩
  replace hP : va_P (dC, dI) vcl [(h0, .inr (14, [.null, .null, .null, .null, .null, .null, .int 0, .null, .null, .null, .long 0, .null, .int 0, .int 0, .int 0, .int 0, .int 0, .int 0, .int 0, .null, .null])), (q_1, .inl (cA_2, 64, .inl (upd (upd (upd (upd (upd f_7 26 147) 27 164) 28 152) 29 258) 30 259)))] H := hP
  replace hD : va_D A [(h0, .inr (14, [.null, .null, .null, .null, .null, .null, .int 0, .null, .null, .null, .long 0, .null, .int 0, .int 0, .int 0, .int 0, .int 0, .int 0, .int 0, .null, .null])), (q_1, .inl (cA_2, 64, .inl (upd (upd (upd (upd (upd f_7 26 147) 27 164) 28 152) 29 258) 30 259)))] := hD
  rw [← ef_8] at hP hD
  replace hP : va_P (dC, dI) vcl [(h0, .inr (14, [.null, .null, .null, .null, .null, .null, .int 0, .null, .null, .null, .long 0, .null, .int 0, .int 0, .int 0, .int 0, .int 0, .int 0, .int 0, .null, .null])), (q_1, .inl (cA_2, 64, .inl f_8))] H := hP
  replace hD : va_D A [(h0, .inr (14, [.null, .null, .null, .null, .null, .null, .int 0, .null, .null, .null, .long 0, .null, .int 0, .int 0, .int 0, .int 0, .int 0, .int 0, .int 0, .null, .null])), (q_1, .inl (cA_2, 64, .inl f_8))] := hD
  refine lv_dup hx hb d_mLines_init_203 rfl ?_
  refine lv_bipush (v := 31) hx hb d_mLines_init_204 (by decide) ?_
  refine lv_sipush (v := 282) hx hb d_mLines_init_206 (by decide) ?_
  refine va_iast hx hb hK hP hD hS 1 0 rfl rfl (show ¬ ((31 : Int32) < 0 ∨ 64 ≤ (31 : Int32).toNatClampNeg) by decide) d_mLines_init_209 ?_
  clear hP hD hS
  intro H locs hP hD hS
  rw [show (31 : Int32).toNatClampNeg = 31 by decide] at hP hD
  replace hP : va_P (dC, dI) vcl [(h0, .inr (14, [.null, .null, .null, .null, .null, .null, .int 0, .null, .null, .null, .long 0, .null, .int 0, .int 0, .int 0, .int 0, .int 0, .int 0, .int 0, .null, .null])), (q_1, .inl (cA_2, 64, .inl (upd f_8 31 282)))] H := hP
  replace hD : va_D A [(h0, .inr (14, [.null, .null, .null, .null, .null, .null, .int 0, .null, .null, .null, .long 0, .null, .int 0, .int 0, .int 0, .int 0, .int 0, .int 0, .int 0, .null, .null])), (q_1, .inl (cA_2, 64, .inl (upd f_8 31 282)))] := hD
  refine lv_dup hx hb d_mLines_init_210 rfl ?_
  refine lv_bipush (v := 32) hx hb d_mLines_init_211 (by decide) ?_
  refine lv_sipush (v := 283) hx hb d_mLines_init_213 (by decide) ?_
  refine va_iast hx hb hK hP hD hS 1 0 rfl rfl (show ¬ ((32 : Int32) < 0 ∨ 64 ≤ (32 : Int32).toNatClampNeg) by decide) d_mLines_init_216 ?_
  clear hP hD hS
  intro H locs hP hD hS
  rw [show (32 : Int32).toNatClampNeg = 32 by decide] at hP hD
  replace hP : va_P (dC, dI) vcl [(h0, .inr (14, [.null, .null, .null, .null, .null, .null, .int 0, .null, .null, .null, .long 0, .null, .int 0, .int 0, .int 0, .int 0, .int 0, .int 0, .int 0, .null, .null])), (q_1, .inl (cA_2, 64, .inl (upd (upd f_8 31 282) 32 283)))] H := hP
  replace hD : va_D A [(h0, .inr (14, [.null, .null, .null, .null, .null, .null, .int 0, .null, .null, .null, .long 0, .null, .int 0, .int 0, .int 0, .int 0, .int 0, .int 0, .int 0, .null, .null])), (q_1, .inl (cA_2, 64, .inl (upd (upd f_8 31 282) 32 283)))] := hD
  refine lv_dup hx hb d_mLines_init_217 rfl ?_
  refine lv_bipush (v := 33) hx hb d_mLines_init_218 (by decide) ?_
  refine lv_sipush (v := 274) hx hb d_mLines_init_220 (by decide) ?_
  refine va_iast hx hb hK hP hD hS 1 0 rfl rfl (show ¬ ((33 : Int32) < 0 ∨ 64 ≤ (33 : Int32).toNatClampNeg) by decide) d_mLines_init_223 ?_
  clear hP hD hS
  intro H locs hP hD hS
  rw [show (33 : Int32).toNatClampNeg = 33 by decide] at hP hD
  replace hP : va_P (dC, dI) vcl [(h0, .inr (14, [.null, .null, .null, .null, .null, .null, .int 0, .null, .null, .null, .long 0, .null, .int 0, .int 0, .int 0, .int 0, .int 0, .int 0, .int 0, .null, .null])), (q_1, .inl (cA_2, 64, .inl (upd (upd (upd f_8 31 282) 32 283) 33 274)))] H := hP
  replace hD : va_D A [(h0, .inr (14, [.null, .null, .null, .null, .null, .null, .int 0, .null, .null, .null, .long 0, .null, .int 0, .int 0, .int 0, .int 0, .int 0, .int 0, .int 0, .null, .null])), (q_1, .inl (cA_2, 64, .inl (upd (upd (upd f_8 31 282) 32 283) 33 274)))] := hD
  refine lv_dup hx hb d_mLines_init_224 rfl ?_
  refine lv_bipush (v := 34) hx hb d_mLines_init_225 (by decide) ?_
  refine lv_sipush (v := 275) hx hb d_mLines_init_227 (by decide) ?_
  refine va_iast hx hb hK hP hD hS 1 0 rfl rfl (show ¬ ((34 : Int32) < 0 ∨ 64 ≤ (34 : Int32).toNatClampNeg) by decide) d_mLines_init_230 ?_
  clear hP hD hS
  intro H locs hP hD hS
  rw [show (34 : Int32).toNatClampNeg = 34 by decide] at hP hD
  replace hP : va_P (dC, dI) vcl [(h0, .inr (14, [.null, .null, .null, .null, .null, .null, .int 0, .null, .null, .null, .long 0, .null, .int 0, .int 0, .int 0, .int 0, .int 0, .int 0, .int 0, .null, .null])), (q_1, .inl (cA_2, 64, .inl (upd (upd (upd (upd f_8 31 282) 32 283) 33 274) 34 275)))] H := hP
  replace hD : va_D A [(h0, .inr (14, [.null, .null, .null, .null, .null, .null, .int 0, .null, .null, .null, .long 0, .null, .int 0, .int 0, .int 0, .int 0, .int 0, .int 0, .int 0, .null, .null])), (q_1, .inl (cA_2, 64, .inl (upd (upd (upd (upd f_8 31 282) 32 283) 33 274) 34 275)))] := hD
  refine lv_dup hx hb d_mLines_init_231 rfl ?_
  refine lv_bipush (v := 35) hx hb d_mLines_init_232 (by decide) ?_
  refine lv_sipush (v := 276) hx hb d_mLines_init_234 (by decide) ?_
  refine va_iast hx hb hK hP hD hS 1 0 rfl rfl (show ¬ ((35 : Int32) < 0 ∨ 64 ≤ (35 : Int32).toNatClampNeg) by decide) d_mLines_init_237 ?_
  clear hP hD hS
  intro H locs hP hD hS
  rw [show (35 : Int32).toNatClampNeg = 35 by decide] at hP hD
  obtain ⟨f_9, ef_9⟩ : ∃ y : Nat → Int32, y = upd (upd (upd (upd (upd f_8 31 282) 32 283) 33 274) 34 275) 35 276 := ⟨_, rfl⟩
  replace hP : va_P (dC, dI) vcl [(h0, .inr (14, [.null, .null, .null, .null, .null, .null, .int 0, .null, .null, .null, .long 0, .null, .int 0, .int 0, .int 0, .int 0, .int 0, .int 0, .int 0, .null, .null])), (q_1, .inl (cA_2, 64, .inl (upd (upd (upd (upd (upd f_8 31 282) 32 283) 33 274) 34 275) 35 276)))] H := hP
  replace hD : va_D A [(h0, .inr (14, [.null, .null, .null, .null, .null, .null, .int 0, .null, .null, .null, .long 0, .null, .int 0, .int 0, .int 0, .int 0, .int 0, .int 0, .int 0, .null, .null])), (q_1, .inl (cA_2, 64, .inl (upd (upd (upd (upd (upd f_8 31 282) 32 283) 33 274) 34 275) 35 276)))] := hD
  rw [← ef_9] at hP hD
  replace hP : va_P (dC, dI) vcl [(h0, .inr (14, [.null, .null, .null, .null, .null, .null, .int 0, .null, .null, .null, .long 0, .null, .int 0, .int 0, .int 0, .int 0, .int 0, .int 0, .int 0, .null, .null])), (q_1, .inl (cA_2, 64, .inl f_9))] H := hP
  replace hD : va_D A [(h0, .inr (14, [.null, .null, .null, .null, .null, .null, .int 0, .null, .null, .null, .long 0, .null, .int 0, .int 0, .int 0, .int 0, .int 0, .int 0, .int 0, .null, .null])), (q_1, .inl (cA_2, 64, .inl f_9))] := hD
  refine lv_dup hx hb d_mLines_init_238 rfl ?_
  refine lv_bipush (v := 36) hx hb d_mLines_init_239 (by decide) ?_
  refine lv_sipush (v := 277) hx hb d_mLines_init_241 (by decide) ?_
  refine va_iast hx hb hK hP hD hS 1 0 rfl rfl (show ¬ ((36 : Int32) < 0 ∨ 64 ≤ (36 : Int32).toNatClampNeg) by decide) d_mLines_init_244 ?_
  clear hP hD hS
  intro H locs hP hD hS
  rw [show (36 : Int32).toNatClampNeg = 36 by decide] at hP hD
  replace hP : va_P (dC, dI) vcl [(h0, .inr (14, [.null, .null, .null, .null, .null, .null, .int 0, .null, .null, .null, .long 0, .null, .int 0, .int 0, .int 0, .int 0, .int 0, .int 0, .int 0, .null, .null])), (q_1, .inl (cA_2, 64, .inl (upd f_9 36 277)))] H := hP
  replace hD : va_D A [(h0, .inr (14, [.null, .null, .null, .null, .null, .null, .int 0, .null, .null, .null, .long 0, .null, .int 0, .int 0, .int 0, .int 0, .int 0, .int 0, .int 0, .null, .null])), (q_1, .inl (cA_2, 64, .inl (upd f_9 36 277)))] := hD
  refine lv_dup hx hb d_mLines_init_245 rfl ?_
  refine lv_bipush (v := 37) hx hb d_mLines_init_246 (by decide) ?_
  refine lv_sipush (v := 278) hx hb d_mLines_init_248 (by decide) ?_
  refine va_iast hx hb hK hP hD hS 1 0 rfl rfl (show ¬ ((37 : Int32) < 0 ∨ 64 ≤ (37 : Int32).toNatClampNeg) by decide) d_mLines_init_251 ?_
  clear hP hD hS
  intro H locs hP hD hS
  rw [show (37 : Int32).toNatClampNeg = 37 by decide] at hP hD
  replace hP : va_P (dC, dI) vcl [(h0, .inr (14, [.null, .null, .null, .null, .null, .null, .int 0, .null, .null, .null, .long 0, .null, .int 0, .int 0, .int 0, .int 0, .int 0, .int 0, .int 0, .null, .null])), (q_1, .inl (cA_2, 64, .inl (upd (upd f_9 36 277) 37 278)))] H := hP
  replace hD : va_D A [(h0, .inr (14, [.null, .null, .null, .null, .null, .null, .int 0, .null, .null, .null, .long 0, .null, .int 0, .int 0, .int 0, .int 0, .int 0, .int 0, .int 0, .null, .null])), (q_1, .inl (cA_2, 64, .inl (upd (upd f_9 36 277) 37 278)))] := hD
  refine lv_dup hx hb d_mLines_init_252 rfl ?_
  refine lv_bipush (v := 38) hx hb d_mLines_init_253 (by decide) ?_
  refine lv_sipush (v := 279) hx hb d_mLines_init_255 (by decide) ?_
  refine va_iast hx hb hK hP hD hS 1 0 rfl rfl (show ¬ ((38 : Int32) < 0 ∨ 64 ≤ (38 : Int32).toNatClampNeg) by decide) d_mLines_init_258 ?_
  clear hP hD hS
  intro H locs hP hD hS
  rw [show (38 : Int32).toNatClampNeg = 38 by decide] at hP hD
  replace hP : va_P (dC, dI) vcl [(h0, .inr (14, [.null, .null, .null, .null, .null, .null, .int 0, .null, .null, .null, .long 0, .null, .int 0, .int 0, .int 0, .int 0, .int 0, .int 0, .int 0, .null, .null])), (q_1, .inl (cA_2, 64, .inl (upd (upd (upd f_9 36 277) 37 278) 38 279)))] H := hP
  replace hD : va_D A [(h0, .inr (14, [.null, .null, .null, .null, .null, .null, .int 0, .null, .null, .null, .long 0, .null, .int 0, .int 0, .int 0, .int 0, .int 0, .int 0, .int 0, .null, .null])), (q_1, .inl (cA_2, 64, .inl (upd (upd (upd f_9 36 277) 37 278) 38 279)))] := hD
  refine lv_dup hx hb d_mLines_init_259 rfl ?_
  refine lv_bipush (v := 39) hx hb d_mLines_init_260 (by decide) ?_
  refine lv_sipush (v := 296) hx hb d_mLines_init_262 (by decide) ?_
  refine va_iast hx hb hK hP hD hS 1 0 rfl rfl (show ¬ ((39 : Int32) < 0 ∨ 64 ≤ (39 : Int32).toNatClampNeg) by decide) d_mLines_init_265 ?_
  clear hP hD hS
  intro H locs hP hD hS
  rw [show (39 : Int32).toNatClampNeg = 39 by decide] at hP hD
  replace hP : va_P (dC, dI) vcl [(h0, .inr (14, [.null, .null, .null, .null, .null, .null, .int 0, .null, .null, .null, .long 0, .null, .int 0, .int 0, .int 0, .int 0, .int 0, .int 0, .int 0, .null, .null])), (q_1, .inl (cA_2, 64, .inl (upd (upd (upd (upd f_9 36 277) 37 278) 38 279) 39 296)))] H := hP
  replace hD : va_D A [(h0, .inr (14, [.null, .null, .null, .null, .null, .null, .int 0, .null, .null, .null, .long 0, .null, .int 0, .int 0, .int 0, .int 0, .int 0, .int 0, .int 0, .null, .null])), (q_1, .inl (cA_2, 64, .inl (upd (upd (upd (upd f_9 36 277) 37 278) 38 279) 39 296)))] := hD
  refine lv_dup hx hb d_mLines_init_266 rfl ?_
  refine lv_bipush (v := 40) hx hb d_mLines_init_267 (by decide) ?_
  refine lv_sipush (v := 297) hx hb d_mLines_init_269 (by decide) ?_
  refine va_iast hx hb hK hP hD hS 1 0 rfl rfl (show ¬ ((40 : Int32) < 0 ∨ 64 ≤ (40 : Int32).toNatClampNeg) by decide) d_mLines_init_272 ?_
  clear hP hD hS
  intro H locs hP hD hS
  rw [show (40 : Int32).toNatClampNeg = 40 by decide] at hP hD
  obtain ⟨f_10, ef_10⟩ : ∃ y : Nat → Int32, y = upd (upd (upd (upd (upd f_9 36 277) 37 278) 38 279) 39 296) 40 297 := ⟨_, rfl⟩
  replace hP : va_P (dC, dI) vcl [(h0, .inr (14, [.null, .null, .null, .null, .null, .null, .int 0, .null, .null, .null, .long 0, .null, .int 0, .int 0, .int 0, .int 0, .int 0, .int 0, .int 0, .null, .null])), (q_1, .inl (cA_2, 64, .inl (upd (upd (upd (upd (upd f_9 36 277) 37 278) 38 279) 39 296) 40 297)))] H := hP
  replace hD : va_D A [(h0, .inr (14, [.null, .null, .null, .null, .null, .null, .int 0, .null, .null, .null, .long 0, .null, .int 0, .int 0, .int 0, .int 0, .int 0, .int 0, .int 0, .null, .null])), (q_1, .inl (cA_2, 64, .inl (upd (upd (upd (upd (upd f_9 36 277) 37 278) 38 279) 39 296) 40 297)))] := hD
  rw [← ef_10] at hP hD
  replace hP : va_P (dC, dI) vcl [(h0, .inr (14, [.null, .null, .null, .null, .null, .null, .int 0, .null, .null, .null, .long 0, .null, .int 0, .int 0, .int 0, .int 0, .int 0, .int 0, .int 0, .null, .null])), (q_1, .inl (cA_2, 64, .inl f_10))] H := hP
  replace hD : va_D A [(h0, .inr (14, [.null, .null, .null, .null, .null, .null, .int 0, .null, .null, .null, .long 0, .null, .int 0, .int 0, .int 0, .int 0, .int 0, .int 0, .int 0, .null, .null])), (q_1, .inl (cA_2, 64, .inl f_10))] := hD
  refine lv_dup hx hb d_mLines_init_273 rfl ?_
  refine lv_bipush (v := 41) hx hb d_mLines_init_274 (by decide) ?_
  refine lv_sipush (v := 298) hx hb d_mLines_init_276 (by decide) ?_
  refine va_iast hx hb hK hP hD hS 1 0 rfl rfl (show ¬ ((41 : Int32) < 0 ∨ 64 ≤ (41 : Int32).toNatClampNeg) by decide) d_mLines_init_279 ?_
  clear hP hD hS
  intro H locs hP hD hS
  rw [show (41 : Int32).toNatClampNeg = 41 by decide] at hP hD
  replace hP : va_P (dC, dI) vcl [(h0, .inr (14, [.null, .null, .null, .null, .null, .null, .int 0, .null, .null, .null, .long 0, .null, .int 0, .int 0, .int 0, .int 0, .int 0, .int 0, .int 0, .null, .null])), (q_1, .inl (cA_2, 64, .inl (upd f_10 41 298)))] H := hP
  replace hD : va_D A [(h0, .inr (14, [.null, .null, .null, .null, .null, .null, .int 0, .null, .null, .null, .long 0, .null, .int 0, .int 0, .int 0, .int 0, .int 0, .int 0, .int 0, .null, .null])), (q_1, .inl (cA_2, 64, .inl (upd f_10 41 298)))] := hD
  refine lv_dup hx hb d_mLines_init_280 rfl ?_
  refine lv_bipush (v := 42) hx hb d_mLines_init_281 (by decide) ?_
  refine lv_sipush (v := 299) hx hb d_mLines_init_283 (by decide) ?_
  refine va_iast hx hb hK hP hD hS 1 0 rfl rfl (show ¬ ((42 : Int32) < 0 ∨ 64 ≤ (42 : Int32).toNatClampNeg) by decide) d_mLines_init_286 ?_
  clear hP hD hS
  intro H locs hP hD hS
  rw [show (42 : Int32).toNatClampNeg = 42 by decide] at hP hD
  replace hP : va_P (dC, dI) vcl [(h0, .inr (14, [.null, .null, .null, .null, .null, .null, .int 0, .null, .null, .null, .long 0, .null, .int 0, .int 0, .int 0, .int 0, .int 0, .int 0, .int 0, .null, .null])), (q_1, .inl (cA_2, 64, .inl (upd (upd f_10 41 298) 42 299)))] H := hP
  replace hD : va_D A [(h0, .inr (14, [.null, .null, .null, .null, .null, .null, .int 0, .null, .null, .null, .long 0, .null, .int 0, .int 0, .int 0, .int 0, .int 0, .int 0, .int 0, .null, .null])), (q_1, .inl (cA_2, 64, .inl (upd (upd f_10 41 298) 42 299)))] := hD
  refine lv_dup hx hb d_mLines_init_287 rfl ?_
  refine lv_bipush (v := 43) hx hb d_mLines_init_288 (by decide) ?_
  refine lv_sipush (v := 300) hx hb d_mLines_init_290 (by decide) ?_
  refine va_iast hx hb hK hP hD hS 1 0 rfl rfl (show ¬ ((43 : Int32) < 0 ∨ 64 ≤ (43 : Int32).toNatClampNeg) by decide) d_mLines_init_293 ?_
  clear hP hD hS
  intro H locs hP hD hS
  rw [show (43 : Int32).toNatClampNeg = 43 by decide] at hP hD
  replace hP : va_P (dC, dI) vcl [(h0, .inr (14, [.null, .null, .null, .null, .null, .null, .int 0, .null, .null, .null, .long 0, .null, .int 0, .int 0, .int 0, .int 0, .int 0, .int 0, .int 0, .null, .null])), (q_1, .inl (cA_2, 64, .inl (upd (upd (upd f_10 41 298) 42 299) 43 300)))] H := hP
  replace hD : va_D A [(h0, .inr (14, [.null, .null, .null, .null, .null, .null, .int 0, .null, .null, .null, .long 0, .null, .int 0, .int 0, .int 0, .int 0, .int 0, .int 0, .int 0, .null, .null])), (q_1, .inl (cA_2, 64, .inl (upd (upd (upd f_10 41 298) 42 299) 43 300)))] := hD
  refine lv_dup hx hb d_mLines_init_294 rfl ?_
  refine lv_bipush (v := 44) hx hb d_mLines_init_295 (by decide) ?_
  refine lv_sipush (v := 301) hx hb d_mLines_init_297 (by decide) ?_
  refine va_iast hx hb hK hP hD hS 1 0 rfl rfl (show ¬ ((44 : Int32) < 0 ∨ 64 ≤ (44 : Int32).toNatClampNeg) by decide) d_mLines_init_300 ?_
  clear hP hD hS
  intro H locs hP hD hS
  rw [show (44 : Int32).toNatClampNeg = 44 by decide] at hP hD
  replace hP : va_P (dC, dI) vcl [(h0, .inr (14, [.null, .null, .null, .null, .null, .null, .int 0, .null, .null, .null, .long 0, .null, .int 0, .int 0, .int 0, .int 0, .int 0, .int 0, .int 0, .null, .null])), (q_1, .inl (cA_2, 64, .inl (upd (upd (upd (upd f_10 41 298) 42 299) 43 300) 44 301)))] H := hP
  replace hD : va_D A [(h0, .inr (14, [.null, .null, .null, .null, .null, .null, .int 0, .null, .null, .null, .long 0, .null, .int 0, .int 0, .int 0, .int 0, .int 0, .int 0, .int 0, .null, .null])), (q_1, .inl (cA_2, 64, .inl (upd (upd (upd (upd f_10 41 298) 42 299) 43 300) 44 301)))] := hD
  refine lv_dup hx hb d_mLines_init_301 rfl ?_
  refine lv_bipush (v := 45) hx hb d_mLines_init_302 (by decide) ?_
  refine lv_sipush (v := 260) hx hb d_mLines_init_304 (by decide) ?_
  refine va_iast hx hb hK hP hD hS 1 0 rfl rfl (show ¬ ((45 : Int32) < 0 ∨ 64 ≤ (45 : Int32).toNatClampNeg) by decide) d_mLines_init_307 ?_
  clear hP hD hS
  intro H locs hP hD hS
  rw [show (45 : Int32).toNatClampNeg = 45 by decide] at hP hD
  obtain ⟨f_11, ef_11⟩ : ∃ y : Nat → Int32, y = upd (upd (upd (upd (upd f_10 41 298) 42 299) 43 300) 44 301) 45 260 := ⟨_, rfl⟩
  replace hP : va_P (dC, dI) vcl [(h0, .inr (14, [.null, .null, .null, .null, .null, .null, .int 0, .null, .null, .null, .long 0, .null, .int 0, .int 0, .int 0, .int 0, .int 0, .int 0, .int 0, .null, .null])), (q_1, .inl (cA_2, 64, .inl (upd (upd (upd (upd (upd f_10 41 298) 42 299) 43 300) 44 301) 45 260)))] H := hP
  replace hD : va_D A [(h0, .inr (14, [.null, .null, .null, .null, .null, .null, .int 0, .null, .null, .null, .long 0, .null, .int 0, .int 0, .int 0, .int 0, .int 0, .int 0, .int 0, .null, .null])), (q_1, .inl (cA_2, 64, .inl (upd (upd (upd (upd (upd f_10 41 298) 42 299) 43 300) 44 301) 45 260)))] := hD
  rw [← ef_11] at hP hD
  replace hP : va_P (dC, dI) vcl [(h0, .inr (14, [.null, .null, .null, .null, .null, .null, .int 0, .null, .null, .null, .long 0, .null, .int 0, .int 0, .int 0, .int 0, .int 0, .int 0, .int 0, .null, .null])), (q_1, .inl (cA_2, 64, .inl f_11))] H := hP
  replace hD : va_D A [(h0, .inr (14, [.null, .null, .null, .null, .null, .null, .int 0, .null, .null, .null, .long 0, .null, .int 0, .int 0, .int 0, .int 0, .int 0, .int 0, .int 0, .null, .null])), (q_1, .inl (cA_2, 64, .inl f_11))] := hD
  refine lv_dup hx hb d_mLines_init_308 rfl ?_
  refine lv_bipush (v := 46) hx hb d_mLines_init_309 (by decide) ?_
  refine lv_sipush (v := 261) hx hb d_mLines_init_311 (by decide) ?_
  refine va_iast hx hb hK hP hD hS 1 0 rfl rfl (show ¬ ((46 : Int32) < 0 ∨ 64 ≤ (46 : Int32).toNatClampNeg) by decide) d_mLines_init_314 ?_
  clear hP hD hS
  intro H locs hP hD hS
  rw [show (46 : Int32).toNatClampNeg = 46 by decide] at hP hD
  replace hP : va_P (dC, dI) vcl [(h0, .inr (14, [.null, .null, .null, .null, .null, .null, .int 0, .null, .null, .null, .long 0, .null, .int 0, .int 0, .int 0, .int 0, .int 0, .int 0, .int 0, .null, .null])), (q_1, .inl (cA_2, 64, .inl (upd f_11 46 261)))] H := hP
  replace hD : va_D A [(h0, .inr (14, [.null, .null, .null, .null, .null, .null, .int 0, .null, .null, .null, .long 0, .null, .int 0, .int 0, .int 0, .int 0, .int 0, .int 0, .int 0, .null, .null])), (q_1, .inl (cA_2, 64, .inl (upd f_11 46 261)))] := hD
  refine lv_dup hx hb d_mLines_init_315 rfl ?_
  refine lv_bipush (v := 47) hx hb d_mLines_init_316 (by decide) ?_
  refine lv_sipush (v := 266) hx hb d_mLines_init_318 (by decide) ?_
  refine va_iast hx hb hK hP hD hS 1 0 rfl rfl (show ¬ ((47 : Int32) < 0 ∨ 64 ≤ (47 : Int32).toNatClampNeg) by decide) d_mLines_init_321 ?_
  clear hP hD hS
  intro H locs hP hD hS
  rw [show (47 : Int32).toNatClampNeg = 47 by decide] at hP hD
  replace hP : va_P (dC, dI) vcl [(h0, .inr (14, [.null, .null, .null, .null, .null, .null, .int 0, .null, .null, .null, .long 0, .null, .int 0, .int 0, .int 0, .int 0, .int 0, .int 0, .int 0, .null, .null])), (q_1, .inl (cA_2, 64, .inl (upd (upd f_11 46 261) 47 266)))] H := hP
  replace hD : va_D A [(h0, .inr (14, [.null, .null, .null, .null, .null, .null, .int 0, .null, .null, .null, .long 0, .null, .int 0, .int 0, .int 0, .int 0, .int 0, .int 0, .int 0, .null, .null])), (q_1, .inl (cA_2, 64, .inl (upd (upd f_11 46 261) 47 266)))] := hD
  refine lv_dup hx hb d_mLines_init_322 rfl ?_
  refine lv_bipush (v := 48) hx hb d_mLines_init_323 (by decide) ?_
  refine lv_sipush (v := 267) hx hb d_mLines_init_325 (by decide) ?_
  refine va_iast hx hb hK hP hD hS 1 0 rfl rfl (show ¬ ((48 : Int32) < 0 ∨ 64 ≤ (48 : Int32).toNatClampNeg) by decide) d_mLines_init_328 ?_
  clear hP hD hS
  intro H locs hP hD hS
  rw [show (48 : Int32).toNatClampNeg = 48 by decide] at hP hD
  replace hP : va_P (dC, dI) vcl [(h0, .inr (14, [.null, .null, .null, .null, .null, .null, .int 0, .null, .null, .null, .long 0, .null, .int 0, .int 0, .int 0, .int 0, .int 0, .int 0, .int 0, .null, .null])), (q_1, .inl (cA_2, 64, .inl (upd (upd (upd f_11 46 261) 47 266) 48 267)))] H := hP
  replace hD : va_D A [(h0, .inr (14, [.null, .null, .null, .null, .null, .null, .int 0, .null, .null, .null, .long 0, .null, .int 0, .int 0, .int 0, .int 0, .int 0, .int 0, .int 0, .null, .null])), (q_1, .inl (cA_2, 64, .inl (upd (upd (upd f_11 46 261) 47 266) 48 267)))] := hD
  refine lv_dup hx hb d_mLines_init_329 rfl ?_
  refine lv_bipush (v := 49) hx hb d_mLines_init_330 (by decide) ?_
  refine lv_sipush (v := 338) hx hb d_mLines_init_332 (by decide) ?_
  refine va_iast hx hb hK hP hD hS 1 0 rfl rfl (show ¬ ((49 : Int32) < 0 ∨ 64 ≤ (49 : Int32).toNatClampNeg) by decide) d_mLines_init_335 ?_
  clear hP hD hS
  intro H locs hP hD hS
  rw [show (49 : Int32).toNatClampNeg = 49 by decide] at hP hD
  replace hP : va_P (dC, dI) vcl [(h0, .inr (14, [.null, .null, .null, .null, .null, .null, .int 0, .null, .null, .null, .long 0, .null, .int 0, .int 0, .int 0, .int 0, .int 0, .int 0, .int 0, .null, .null])), (q_1, .inl (cA_2, 64, .inl (upd (upd (upd (upd f_11 46 261) 47 266) 48 267) 49 338)))] H := hP
  replace hD : va_D A [(h0, .inr (14, [.null, .null, .null, .null, .null, .null, .int 0, .null, .null, .null, .long 0, .null, .int 0, .int 0, .int 0, .int 0, .int 0, .int 0, .int 0, .null, .null])), (q_1, .inl (cA_2, 64, .inl (upd (upd (upd (upd f_11 46 261) 47 266) 48 267) 49 338)))] := hD
  refine lv_dup hx hb d_mLines_init_336 rfl ?_
  refine lv_bipush (v := 50) hx hb d_mLines_init_337 (by decide) ?_
  refine lv_sipush (v := 339) hx hb d_mLines_init_339 (by decide) ?_
  refine va_iast hx hb hK hP hD hS 1 0 rfl rfl (show ¬ ((50 : Int32) < 0 ∨ 64 ≤ (50 : Int32).toNatClampNeg) by decide) d_mLines_init_342 ?_
  clear hP hD hS
  intro H locs hP hD hS
  rw [show (50 : Int32).toNatClampNeg = 50 by decide] at hP hD
  obtain ⟨f_12, ef_12⟩ : ∃ y : Nat → Int32, y = upd (upd (upd (upd (upd f_11 46 261) 47 266) 48 267) 49 338) 50 339 := ⟨_, rfl⟩
  replace hP : va_P (dC, dI) vcl [(h0, .inr (14, [.null, .null, .null, .null, .null, .null, .int 0, .null, .null, .null, .long 0, .null, .int 0, .int 0, .int 0, .int 0, .int 0, .int 0, .int 0, .null, .null])), (q_1, .inl (cA_2, 64, .inl (upd (upd (upd (upd (upd f_11 46 261) 47 266) 48 267) 49 338) 50 339)))] H := hP
  replace hD : va_D A [(h0, .inr (14, [.null, .null, .null, .null, .null, .null, .int 0, .null, .null, .null, .long 0, .null, .int 0, .int 0, .int 0, .int 0, .int 0, .int 0, .int 0, .null, .null])), (q_1, .inl (cA_2, 64, .inl (upd (upd (upd (upd (upd f_11 46 261) 47 266) 48 267) 49 338) 50 339)))] := hD
  rw [← ef_12] at hP hD
  replace hP : va_P (dC, dI) vcl [(h0, .inr (14, [.null, .null, .null, .null, .null, .null, .int 0, .null, .null, .null, .long 0, .null, .int 0, .int 0, .int 0, .int 0, .int 0, .int 0, .int 0, .null, .null])), (q_1, .inl (cA_2, 64, .inl f_12))] H := hP
  replace hD : va_D A [(h0, .inr (14, [.null, .null, .null, .null, .null, .null, .int 0, .null, .null, .null, .long 0, .null, .int 0, .int 0, .int 0, .int 0, .int 0, .int 0, .int 0, .null, .null])), (q_1, .inl (cA_2, 64, .inl f_12))] := hD
  refine lv_dup hx hb d_mLines_init_343 rfl ?_
  refine lv_bipush (v := 51) hx hb d_mLines_init_344 (by decide) ?_
  refine lv_sipush (v := 340) hx hb d_mLines_init_346 (by decide) ?_
  refine va_iast hx hb hK hP hD hS 1 0 rfl rfl (show ¬ ((51 : Int32) < 0 ∨ 64 ≤ (51 : Int32).toNatClampNeg) by decide) d_mLines_init_349 ?_
  clear hP hD hS
  intro H locs hP hD hS
  rw [show (51 : Int32).toNatClampNeg = 51 by decide] at hP hD
  replace hP : va_P (dC, dI) vcl [(h0, .inr (14, [.null, .null, .null, .null, .null, .null, .int 0, .null, .null, .null, .long 0, .null, .int 0, .int 0, .int 0, .int 0, .int 0, .int 0, .int 0, .null, .null])), (q_1, .inl (cA_2, 64, .inl (upd f_12 51 340)))] H := hP
  replace hD : va_D A [(h0, .inr (14, [.null, .null, .null, .null, .null, .null, .int 0, .null, .null, .null, .long 0, .null, .int 0, .int 0, .int 0, .int 0, .int 0, .int 0, .int 0, .null, .null])), (q_1, .inl (cA_2, 64, .inl (upd f_12 51 340)))] := hD
  refine lv_dup hx hb d_mLines_init_350 rfl ?_
  refine lv_bipush (v := 52) hx hb d_mLines_init_351 (by decide) ?_
  refine lv_sipush (v := 341) hx hb d_mLines_init_353 (by decide) ?_
  refine va_iast hx hb hK hP hD hS 1 0 rfl rfl (show ¬ ((52 : Int32) < 0 ∨ 64 ≤ (52 : Int32).toNatClampNeg) by decide) d_mLines_init_356 ?_
  clear hP hD hS
  intro H locs hP hD hS
  rw [show (52 : Int32).toNatClampNeg = 52 by decide] at hP hD
  replace hP : va_P (dC, dI) vcl [(h0, .inr (14, [.null, .null, .null, .null, .null, .null, .int 0, .null, .null, .null, .long 0, .null, .int 0, .int 0, .int 0, .int 0, .int 0, .int 0, .int 0, .null, .null])), (q_1, .inl (cA_2, 64, .inl (upd (upd f_12 51 340) 52 341)))] H := hP
  replace hD : va_D A [(h0, .inr (14, [.null, .null, .null, .null, .null, .null, .int 0, .null, .null, .null, .long 0, .null, .int 0, .int 0, .int 0, .int 0, .int 0, .int 0, .int 0, .null, .null])), (q_1, .inl (cA_2, 64, .inl (upd (upd f_12 51 340) 52 341)))] := hD
  refine lv_dup hx hb d_mLines_init_357 rfl ?_
  refine lv_bipush (v := 53) hx hb d_mLines_init_358 (by decide) ?_
  refine lv_sipush (v := 292) hx hb d_mLines_init_360 (by decide) ?_
  refine va_iast hx hb hK hP hD hS 1 0 rfl rfl (show ¬ ((53 : Int32) < 0 ∨ 64 ≤ (53 : Int32).toNatClampNeg) by decide) d_mLines_init_363 ?_
  clear hP hD hS
  intro H locs hP hD hS
  rw [show (53 : Int32).toNatClampNeg = 53 by decide] at hP hD
  replace hP : va_P (dC, dI) vcl [(h0, .inr (14, [.null, .null, .null, .null, .null, .null, .int 0, .null, .null, .null, .long 0, .null, .int 0, .int 0, .int 0, .int 0, .int 0, .int 0, .int 0, .null, .null])), (q_1, .inl (cA_2, 64, .inl (upd (upd (upd f_12 51 340) 52 341) 53 292)))] H := hP
  replace hD : va_D A [(h0, .inr (14, [.null, .null, .null, .null, .null, .null, .int 0, .null, .null, .null, .long 0, .null, .int 0, .int 0, .int 0, .int 0, .int 0, .int 0, .int 0, .null, .null])), (q_1, .inl (cA_2, 64, .inl (upd (upd (upd f_12 51 340) 52 341) 53 292)))] := hD
  refine lv_dup hx hb d_mLines_init_364 rfl ?_
  refine lv_bipush (v := 54) hx hb d_mLines_init_365 (by decide) ?_
  refine lv_sipush (v := 293) hx hb d_mLines_init_367 (by decide) ?_
  refine va_iast hx hb hK hP hD hS 1 0 rfl rfl (show ¬ ((54 : Int32) < 0 ∨ 64 ≤ (54 : Int32).toNatClampNeg) by decide) d_mLines_init_370 ?_
  clear hP hD hS
  intro H locs hP hD hS
  rw [show (54 : Int32).toNatClampNeg = 54 by decide] at hP hD
  replace hP : va_P (dC, dI) vcl [(h0, .inr (14, [.null, .null, .null, .null, .null, .null, .int 0, .null, .null, .null, .long 0, .null, .int 0, .int 0, .int 0, .int 0, .int 0, .int 0, .int 0, .null, .null])), (q_1, .inl (cA_2, 64, .inl (upd (upd (upd (upd f_12 51 340) 52 341) 53 292) 54 293)))] H := hP
  replace hD : va_D A [(h0, .inr (14, [.null, .null, .null, .null, .null, .null, .int 0, .null, .null, .null, .long 0, .null, .int 0, .int 0, .int 0, .int 0, .int 0, .int 0, .int 0, .null, .null])), (q_1, .inl (cA_2, 64, .inl (upd (upd (upd (upd f_12 51 340) 52 341) 53 292) 54 293)))] := hD
  refine lv_dup hx hb d_mLines_init_371 rfl ?_
  refine lv_bipush (v := 55) hx hb d_mLines_init_372 (by decide) ?_
  refine lv_sipush (v := 344) hx hb d_mLines_init_374 (by decide) ?_
  refine va_iast hx hb hK hP hD hS 1 0 rfl rfl (show ¬ ((55 : Int32) < 0 ∨ 64 ≤ (55 : Int32).toNatClampNeg) by decide) d_mLines_init_377 ?_
  clear hP hD hS
  intro H locs hP hD hS
  rw [show (55 : Int32).toNatClampNeg = 55 by decide] at hP hD
  obtain ⟨f_13, ef_13⟩ : ∃ y : Nat → Int32, y = upd (upd (upd (upd (upd f_12 51 340) 52 341) 53 292) 54 293) 55 344 := ⟨_, rfl⟩
  replace hP : va_P (dC, dI) vcl [(h0, .inr (14, [.null, .null, .null, .null, .null, .null, .int 0, .null, .null, .null, .long 0, .null, .int 0, .int 0, .int 0, .int 0, .int 0, .int 0, .int 0, .null, .null])), (q_1, .inl (cA_2, 64, .inl (upd (upd (upd (upd (upd f_12 51 340) 52 341) 53 292) 54 293) 55 344)))] H := hP
  replace hD : va_D A [(h0, .inr (14, [.null, .null, .null, .null, .null, .null, .int 0, .null, .null, .null, .long 0, .null, .int 0, .int 0, .int 0, .int 0, .int 0, .int 0, .int 0, .null, .null])), (q_1, .inl (cA_2, 64, .inl (upd (upd (upd (upd (upd f_12 51 340) 52 341) 53 292) 54 293) 55 344)))] := hD
  rw [← ef_13] at hP hD
  replace hP : va_P (dC, dI) vcl [(h0, .inr (14, [.null, .null, .null, .null, .null, .null, .int 0, .null, .null, .null, .long 0, .null, .int 0, .int 0, .int 0, .int 0, .int 0, .int 0, .int 0, .null, .null])), (q_1, .inl (cA_2, 64, .inl f_13))] H := hP
  replace hD : va_D A [(h0, .inr (14, [.null, .null, .null, .null, .null, .null, .int 0, .null, .null, .null, .long 0, .null, .int 0, .int 0, .int 0, .int 0, .int 0, .int 0, .int 0, .null, .null])), (q_1, .inl (cA_2, 64, .inl f_13))] := hD
  refine lv_dup hx hb d_mLines_init_378 rfl ?_
  refine lv_bipush (v := 56) hx hb d_mLines_init_379 (by decide) ?_
  refine lv_sipush (v := 345) hx hb d_mLines_init_381 (by decide) ?_
  refine va_iast hx hb hK hP hD hS 1 0 rfl rfl (show ¬ ((56 : Int32) < 0 ∨ 64 ≤ (56 : Int32).toNatClampNeg) by decide) d_mLines_init_384 ?_
  clear hP hD hS
  intro H locs hP hD hS
  rw [show (56 : Int32).toNatClampNeg = 56 by decide] at hP hD
  replace hP : va_P (dC, dI) vcl [(h0, .inr (14, [.null, .null, .null, .null, .null, .null, .int 0, .null, .null, .null, .long 0, .null, .int 0, .int 0, .int 0, .int 0, .int 0, .int 0, .int 0, .null, .null])), (q_1, .inl (cA_2, 64, .inl (upd f_13 56 345)))] H := hP
  replace hD : va_D A [(h0, .inr (14, [.null, .null, .null, .null, .null, .null, .int 0, .null, .null, .null, .long 0, .null, .int 0, .int 0, .int 0, .int 0, .int 0, .int 0, .int 0, .null, .null])), (q_1, .inl (cA_2, 64, .inl (upd f_13 56 345)))] := hD
  refine lv_dup hx hb d_mLines_init_385 rfl ?_
  refine lv_bipush (v := 57) hx hb d_mLines_init_386 (by decide) ?_
  refine lv_sipush (v := 346) hx hb d_mLines_init_388 (by decide) ?_
  refine va_iast hx hb hK hP hD hS 1 0 rfl rfl (show ¬ ((57 : Int32) < 0 ∨ 64 ≤ (57 : Int32).toNatClampNeg) by decide) d_mLines_init_391 ?_
  clear hP hD hS
  intro H locs hP hD hS
  rw [show (57 : Int32).toNatClampNeg = 57 by decide] at hP hD
  replace hP : va_P (dC, dI) vcl [(h0, .inr (14, [.null, .null, .null, .null, .null, .null, .int 0, .null, .null, .null, .long 0, .null, .int 0, .int 0, .int 0, .int 0, .int 0, .int 0, .int 0, .null, .null])), (q_1, .inl (cA_2, 64, .inl (upd (upd f_13 56 345) 57 346)))] H := hP
  replace hD : va_D A [(h0, .inr (14, [.null, .null, .null, .null, .null, .null, .int 0, .null, .null, .null, .long 0, .null, .int 0, .int 0, .int 0, .int 0, .int 0, .int 0, .int 0, .null, .null])), (q_1, .inl (cA_2, 64, .inl (upd (upd f_13 56 345) 57 346)))] := hD
  refine lv_dup hx hb d_mLines_init_392 rfl ?_
  refine lv_bipush (v := 58) hx hb d_mLines_init_393 (by decide) ?_
  refine lv_sipush (v := 347) hx hb d_mLines_init_395 (by decide) ?_
  refine va_iast hx hb hK hP hD hS 1 0 rfl rfl (show ¬ ((58 : Int32) < 0 ∨ 64 ≤ (58 : Int32).toNatClampNeg) by decide) d_mLines_init_398 ?_
  clear hP hD hS
  intro H locs hP hD hS
  rw [show (58 : Int32).toNatClampNeg = 58 by decide] at hP hD
  replace hP : va_P (dC, dI) vcl [(h0, .inr (14, [.null, .null, .null, .null, .null, .null, .int 0, .null, .null, .null, .long 0, .null, .int 0, .int 0, .int 0, .int 0, .int 0, .int 0, .int 0, .null, .null])), (q_1, .inl (cA_2, 64, .inl (upd (upd (upd f_13 56 345) 57 346) 58 347)))] H := hP
  replace hD : va_D A [(h0, .inr (14, [.null, .null, .null, .null, .null, .null, .int 0, .null, .null, .null, .long 0, .null, .int 0, .int 0, .int 0, .int 0, .int 0, .int 0, .int 0, .null, .null])), (q_1, .inl (cA_2, 64, .inl (upd (upd (upd f_13 56 345) 57 346) 58 347)))] := hD
  refine lv_dup hx hb d_mLines_init_399 rfl ?_
  refine lv_bipush (v := 59) hx hb d_mLines_init_400 (by decide) ?_
  refine lv_sipush (v := 330) hx hb d_mLines_init_402 (by decide) ?_
  refine va_iast hx hb hK hP hD hS 1 0 rfl rfl (show ¬ ((59 : Int32) < 0 ∨ 64 ≤ (59 : Int32).toNatClampNeg) by decide) d_mLines_init_405 ?_
  clear hP hD hS
  intro H locs hP hD hS
  rw [show (59 : Int32).toNatClampNeg = 59 by decide] at hP hD
  replace hP : va_P (dC, dI) vcl [(h0, .inr (14, [.null, .null, .null, .null, .null, .null, .int 0, .null, .null, .null, .long 0, .null, .int 0, .int 0, .int 0, .int 0, .int 0, .int 0, .int 0, .null, .null])), (q_1, .inl (cA_2, 64, .inl (upd (upd (upd (upd f_13 56 345) 57 346) 58 347) 59 330)))] H := hP
  replace hD : va_D A [(h0, .inr (14, [.null, .null, .null, .null, .null, .null, .int 0, .null, .null, .null, .long 0, .null, .int 0, .int 0, .int 0, .int 0, .int 0, .int 0, .int 0, .null, .null])), (q_1, .inl (cA_2, 64, .inl (upd (upd (upd (upd f_13 56 345) 57 346) 58 347) 59 330)))] := hD
  refine lv_dup hx hb d_mLines_init_406 rfl ?_
  refine lv_bipush (v := 60) hx hb d_mLines_init_407 (by decide) ?_
  refine lv_sipush (v := 331) hx hb d_mLines_init_409 (by decide) ?_
  refine va_iast hx hb hK hP hD hS 1 0 rfl rfl (show ¬ ((60 : Int32) < 0 ∨ 64 ≤ (60 : Int32).toNatClampNeg) by decide) d_mLines_init_412 ?_
  clear hP hD hS
  intro H locs hP hD hS
  rw [show (60 : Int32).toNatClampNeg = 60 by decide] at hP hD
  obtain ⟨f_14, ef_14⟩ : ∃ y : Nat → Int32, y = upd (upd (upd (upd (upd f_13 56 345) 57 346) 58 347) 59 330) 60 331 := ⟨_, rfl⟩
  replace hP : va_P (dC, dI) vcl [(h0, .inr (14, [.null, .null, .null, .null, .null, .null, .int 0, .null, .null, .null, .long 0, .null, .int 0, .int 0, .int 0, .int 0, .int 0, .int 0, .int 0, .null, .null])), (q_1, .inl (cA_2, 64, .inl (upd (upd (upd (upd (upd f_13 56 345) 57 346) 58 347) 59 330) 60 331)))] H := hP
  replace hD : va_D A [(h0, .inr (14, [.null, .null, .null, .null, .null, .null, .int 0, .null, .null, .null, .long 0, .null, .int 0, .int 0, .int 0, .int 0, .int 0, .int 0, .int 0, .null, .null])), (q_1, .inl (cA_2, 64, .inl (upd (upd (upd (upd (upd f_13 56 345) 57 346) 58 347) 59 330) 60 331)))] := hD
  rw [← ef_14] at hP hD
  replace hP : va_P (dC, dI) vcl [(h0, .inr (14, [.null, .null, .null, .null, .null, .null, .int 0, .null, .null, .null, .long 0, .null, .int 0, .int 0, .int 0, .int 0, .int 0, .int 0, .int 0, .null, .null])), (q_1, .inl (cA_2, 64, .inl f_14))] H := hP
  replace hD : va_D A [(h0, .inr (14, [.null, .null, .null, .null, .null, .null, .int 0, .null, .null, .null, .long 0, .null, .int 0, .int 0, .int 0, .int 0, .int 0, .int 0, .int 0, .null, .null])), (q_1, .inl (cA_2, 64, .inl f_14))] := hD
  refine lv_dup hx hb d_mLines_init_413 rfl ?_
  refine lv_bipush (v := 61) hx hb d_mLines_init_414 (by decide) ?_
  refine lv_sipush (v := 306) hx hb d_mLines_init_416 (by decide) ?_
  refine va_iast hx hb hK hP hD hS 1 0 rfl rfl (show ¬ ((61 : Int32) < 0 ∨ 64 ≤ (61 : Int32).toNatClampNeg) by decide) d_mLines_init_419 ?_
  clear hP hD hS
  intro H locs hP hD hS
  rw [show (61 : Int32).toNatClampNeg = 61 by decide] at hP hD
  replace hP : va_P (dC, dI) vcl [(h0, .inr (14, [.null, .null, .null, .null, .null, .null, .int 0, .null, .null, .null, .long 0, .null, .int 0, .int 0, .int 0, .int 0, .int 0, .int 0, .int 0, .null, .null])), (q_1, .inl (cA_2, 64, .inl (upd f_14 61 306)))] H := hP
  replace hD : va_D A [(h0, .inr (14, [.null, .null, .null, .null, .null, .null, .int 0, .null, .null, .null, .long 0, .null, .int 0, .int 0, .int 0, .int 0, .int 0, .int 0, .int 0, .null, .null])), (q_1, .inl (cA_2, 64, .inl (upd f_14 61 306)))] := hD
  refine lv_dup hx hb d_mLines_init_420 rfl ?_
  refine lv_bipush (v := 62) hx hb d_mLines_init_421 (by decide) ?_
  refine lv_sipush (v := 307) hx hb d_mLines_init_423 (by decide) ?_
  refine va_iast hx hb hK hP hD hS 1 0 rfl rfl (show ¬ ((62 : Int32) < 0 ∨ 64 ≤ (62 : Int32).toNatClampNeg) by decide) d_mLines_init_426 ?_
  clear hP hD hS
  intro H locs hP hD hS
  rw [show (62 : Int32).toNatClampNeg = 62 by decide] at hP hD
  replace hP : va_P (dC, dI) vcl [(h0, .inr (14, [.null, .null, .null, .null, .null, .null, .int 0, .null, .null, .null, .long 0, .null, .int 0, .int 0, .int 0, .int 0, .int 0, .int 0, .int 0, .null, .null])), (q_1, .inl (cA_2, 64, .inl (upd (upd f_14 61 306) 62 307)))] H := hP
  replace hD : va_D A [(h0, .inr (14, [.null, .null, .null, .null, .null, .null, .int 0, .null, .null, .null, .long 0, .null, .int 0, .int 0, .int 0, .int 0, .int 0, .int 0, .int 0, .null, .null])), (q_1, .inl (cA_2, 64, .inl (upd (upd f_14 61 306) 62 307)))] := hD
  refine lv_dup hx hb d_mLines_init_427 rfl ?_
  refine lv_bipush (v := 63) hx hb d_mLines_init_428 (by decide) ?_
  refine lv_sipush (v := 308) hx hb d_mLines_init_430 (by decide) ?_
  refine va_iast hx hb hK hP hD hS 1 0 rfl rfl (show ¬ ((63 : Int32) < 0 ∨ 64 ≤ (63 : Int32).toNatClampNeg) by decide) d_mLines_init_433 ?_
  clear hP hD hS
  intro H locs hP hD hS
  rw [show (63 : Int32).toNatClampNeg = 63 by decide] at hP hD
  replace hP : va_P (dC, dI) vcl [(h0, .inr (14, [.null, .null, .null, .null, .null, .null, .int 0, .null, .null, .null, .long 0, .null, .int 0, .int 0, .int 0, .int 0, .int 0, .int 0, .int 0, .null, .null])), (q_1, .inl (cA_2, 64, .inl (upd (upd (upd f_14 61 306) 62 307) 63 308)))] H := hP
  replace hD : va_D A [(h0, .inr (14, [.null, .null, .null, .null, .null, .null, .int 0, .null, .null, .null, .long 0, .null, .int 0, .int 0, .int 0, .int 0, .int 0, .int 0, .int 0, .null, .null])), (q_1, .inl (cA_2, 64, .inl (upd (upd (upd f_14 61 306) 62 307) 63 308)))] := hD
  refine va_putF (D := (dC, dI)) (ci := 14) (v := .ref q_1) (ty := (.array .int)) (C := R_mLines) (T := F_mLines) (N := 21) hx hb hwd i_mLines t_mLines to_mLines no_mLines hown hK hP hD hS 0 rfl rfl 0 (by decide) (hwd _ wd_10_83) (fun _ h9 => h9) rfl hin rfl (by decide +kernel) rfl rfl (Nat.le_of_ble_eq_true rfl) d_mLines_init_434 ?_
  clear hP hD hS
  intro H locs hP hD hS
  replace hP : va_P (dC, dI) vcl [(h0, .inr (14, [.ref q_1, .null, .null, .null, .null, .null, .int 0, .null, .null, .null, .long 0, .null, .int 0, .int 0, .int 0, .int 0, .int 0, .int 0, .int 0, .null, .null])), (q_1, .inl (cA_2, 64, .inl (upd (upd (upd f_14 61 306) 62 307) 63 308)))] H := hP
  replace hD : va_D A [(h0, .inr (14, [.ref q_1, .null, .null, .null, .null, .null, .int 0, .null, .null, .null, .long 0, .null, .int 0, .int 0, .int 0, .int 0, .int 0, .int 0, .int 0, .null, .null])), (q_1, .inl (cA_2, 64, .inl (upd (upd (upd f_14 61 306) 62 307) 63 308)))] := hD
  refine lv_aload_n hx hb d_mLines_init_437 rfl (lv_at hl 0 rfl) ?_
  refine lv_bipush (v := 64) hx hb d_mLines_init_438 (by decide) ?_
  refine va_newa (atype := .int) (N' := 64) (a0 := (64, .inl (fun _ => 0))) (ty := .int) (n := 64) hx hb (hwd _ wd_1_167) rfl hK hP hD hS hA (fun _ => rfl) (by decide) (by decide) (by decide) (Nat.le_of_ble_eq_true rfl) (Nat.le_of_ble_eq_true rfl) d_mLines_init_440 ?_
  clear hP hD hS hK
  intro q_15 cA_16 H hK hP hD hS
  replace hP : va_P (dC, dI) vcl [(h0, .inr (14, [.ref q_1, .null, .null, .null, .null, .null, .int 0, .null, .null, .null, .long 0, .null, .int 0, .int 0, .int 0, .int 0, .int 0, .int 0, .int 0, .null, .null])), (q_1, .inl (cA_2, 64, .inl (upd (upd (upd f_14 61 306) 62 307) 63 308))), (q_15, .inl (cA_16, 64, .inl (fun _ => 0)))] H := hP
  replace hD : va_D A [(h0, .inr (14, [.ref q_1, .null, .null, .null, .null, .null, .int 0, .null, .null, .null, .long 0, .null, .int 0, .int 0, .int 0, .int 0, .int 0, .int 0, .int 0, .null, .null])), (q_1, .inl (cA_2, 64, .inl (upd (upd (upd f_14 61 306) 62 307) 63 308))), (q_15, .inl (cA_16, 64, .inl (fun _ => 0)))] := hD
  replace hK : va_K (dC, dI) vcl [(cA_2, .int), (cA_16, .int)] s := hK
  refine W.widen (k := 2) (n := 128) (by decide) (by decide) ?_
  refine lv_dup hx hb d_mLines_init_442 rfl ?_
  refine lv_iconst (v := 0) hx hb d_mLines_init_443 (by decide) ?_
  refine lv_sipush (v := 1079) hx hb d_mLines_init_444 (by decide) ?_
  refine va_iast hx hb hK hP hD hS 2 1 rfl rfl (show ¬ ((0 : Int32) < 0 ∨ 64 ≤ (0 : Int32).toNatClampNeg) by decide) d_mLines_init_447 ?_
  clear hP hD hS
  intro H locs hP hD hS
  rw [show (0 : Int32).toNatClampNeg = 0 by decide] at hP hD
  replace hP : va_P (dC, dI) vcl [(h0, .inr (14, [.ref q_1, .null, .null, .null, .null, .null, .int 0, .null, .null, .null, .long 0, .null, .int 0, .int 0, .int 0, .int 0, .int 0, .int 0, .int 0, .null, .null])), (q_1, .inl (cA_2, 64, .inl (upd (upd (upd f_14 61 306) 62 307) 63 308))), (q_15, .inl (cA_16, 64, .inl (upd (fun _ => 0) 0 1079)))] H := hP
  replace hD : va_D A [(h0, .inr (14, [.ref q_1, .null, .null, .null, .null, .null, .int 0, .null, .null, .null, .long 0, .null, .int 0, .int 0, .int 0, .int 0, .int 0, .int 0, .int 0, .null, .null])), (q_1, .inl (cA_2, 64, .inl (upd (upd (upd f_14 61 306) 62 307) 63 308))), (q_15, .inl (cA_16, 64, .inl (upd (fun _ => 0) 0 1079)))] := hD
  refine lv_dup hx hb d_mLines_init_448 rfl ?_
  refine lv_iconst (v := 1) hx hb d_mLines_init_449 (by decide) ?_
  refine lv_bipush (v := 10) hx hb d_mLines_init_450 (by decide) ?_
  refine va_iast hx hb hK hP hD hS 2 1 rfl rfl (show ¬ ((1 : Int32) < 0 ∨ 64 ≤ (1 : Int32).toNatClampNeg) by decide) d_mLines_init_452 ?_
  clear hP hD hS
  intro H locs hP hD hS
  rw [show (1 : Int32).toNatClampNeg = 1 by decide] at hP hD
  replace hP : va_P (dC, dI) vcl [(h0, .inr (14, [.ref q_1, .null, .null, .null, .null, .null, .int 0, .null, .null, .null, .long 0, .null, .int 0, .int 0, .int 0, .int 0, .int 0, .int 0, .int 0, .null, .null])), (q_1, .inl (cA_2, 64, .inl (upd (upd (upd f_14 61 306) 62 307) 63 308))), (q_15, .inl (cA_16, 64, .inl (upd (upd (fun _ => 0) 0 1079) 1 10)))] H := hP
  replace hD : va_D A [(h0, .inr (14, [.ref q_1, .null, .null, .null, .null, .null, .int 0, .null, .null, .null, .long 0, .null, .int 0, .int 0, .int 0, .int 0, .int 0, .int 0, .int 0, .null, .null])), (q_1, .inl (cA_2, 64, .inl (upd (upd (upd f_14 61 306) 62 307) 63 308))), (q_15, .inl (cA_16, 64, .inl (upd (upd (fun _ => 0) 0 1079) 1 10)))] := hD
  refine lv_dup hx hb d_mLines_init_453 rfl ?_
  refine lv_iconst (v := 2) hx hb d_mLines_init_454 (by decide) ?_
  refine lv_bipush (v := 7) hx hb d_mLines_init_455 (by decide) ?_
  refine va_iast hx hb hK hP hD hS 2 1 rfl rfl (show ¬ ((2 : Int32) < 0 ∨ 64 ≤ (2 : Int32).toNatClampNeg) by decide) d_mLines_init_457 ?_
  clear hP hD hS
  intro H locs hP hD hS
  rw [show (2 : Int32).toNatClampNeg = 2 by decide] at hP hD
  replace hP : va_P (dC, dI) vcl [(h0, .inr (14, [.ref q_1, .null, .null, .null, .null, .null, .int 0, .null, .null, .null, .long 0, .null, .int 0, .int 0, .int 0, .int 0, .int 0, .int 0, .int 0, .null, .null])), (q_1, .inl (cA_2, 64, .inl (upd (upd (upd f_14 61 306) 62 307) 63 308))), (q_15, .inl (cA_16, 64, .inl (upd (upd (upd (fun _ => 0) 0 1079) 1 10) 2 7)))] H := hP
  replace hD : va_D A [(h0, .inr (14, [.ref q_1, .null, .null, .null, .null, .null, .int 0, .null, .null, .null, .long 0, .null, .int 0, .int 0, .int 0, .int 0, .int 0, .int 0, .int 0, .null, .null])), (q_1, .inl (cA_2, 64, .inl (upd (upd (upd f_14 61 306) 62 307) 63 308))), (q_15, .inl (cA_16, 64, .inl (upd (upd (upd (fun _ => 0) 0 1079) 1 10) 2 7)))] := hD
  refine lv_dup hx hb d_mLines_init_458 rfl ?_
  refine lv_iconst (v := 3) hx hb d_mLines_init_459 (by decide) ?_
  refine lv_bipush (v := 6) hx hb d_mLines_init_460 (by decide) ?_
  refine va_iast hx hb hK hP hD hS 2 1 rfl rfl (show ¬ ((3 : Int32) < 0 ∨ 64 ≤ (3 : Int32).toNatClampNeg) by decide) d_mLines_init_462 ?_
  clear hP hD hS
  intro H locs hP hD hS
  rw [show (3 : Int32).toNatClampNeg = 3 by decide] at hP hD
  replace hP : va_P (dC, dI) vcl [(h0, .inr (14, [.ref q_1, .null, .null, .null, .null, .null, .int 0, .null, .null, .null, .long 0, .null, .int 0, .int 0, .int 0, .int 0, .int 0, .int 0, .int 0, .null, .null])), (q_1, .inl (cA_2, 64, .inl (upd (upd (upd f_14 61 306) 62 307) 63 308))), (q_15, .inl (cA_16, 64, .inl (upd (upd (upd (upd (fun _ => 0) 0 1079) 1 10) 2 7) 3 6)))] H := hP
  replace hD : va_D A [(h0, .inr (14, [.ref q_1, .null, .null, .null, .null, .null, .int 0, .null, .null, .null, .long 0, .null, .int 0, .int 0, .int 0, .int 0, .int 0, .int 0, .int 0, .null, .null])), (q_1, .inl (cA_2, 64, .inl (upd (upd (upd f_14 61 306) 62 307) 63 308))), (q_15, .inl (cA_16, 64, .inl (upd (upd (upd (upd (fun _ => 0) 0 1079) 1 10) 2 7) 3 6)))] := hD
  refine lv_dup hx hb d_mLines_init_463 rfl ?_
  refine lv_iconst (v := 4) hx hb d_mLines_init_464 (by decide) ?_
  refine lv_bipush (v := 11) hx hb d_mLines_init_465 (by decide) ?_
  refine va_iast hx hb hK hP hD hS 2 1 rfl rfl (show ¬ ((4 : Int32) < 0 ∨ 64 ≤ (4 : Int32).toNatClampNeg) by decide) d_mLines_init_467 ?_
  clear hP hD hS
  intro H locs hP hD hS
  rw [show (4 : Int32).toNatClampNeg = 4 by decide] at hP hD
  obtain ⟨f_17, ef_17⟩ : ∃ y : Nat → Int32, y = upd (upd (upd (upd (upd (fun _ => 0) 0 1079) 1 10) 2 7) 3 6) 4 11 := ⟨_, rfl⟩
  replace hP : va_P (dC, dI) vcl [(h0, .inr (14, [.ref q_1, .null, .null, .null, .null, .null, .int 0, .null, .null, .null, .long 0, .null, .int 0, .int 0, .int 0, .int 0, .int 0, .int 0, .int 0, .null, .null])), (q_1, .inl (cA_2, 64, .inl (upd (upd (upd f_14 61 306) 62 307) 63 308))), (q_15, .inl (cA_16, 64, .inl (upd (upd (upd (upd (upd (fun _ => 0) 0 1079) 1 10) 2 7) 3 6) 4 11)))] H := hP
  replace hD : va_D A [(h0, .inr (14, [.ref q_1, .null, .null, .null, .null, .null, .int 0, .null, .null, .null, .long 0, .null, .int 0, .int 0, .int 0, .int 0, .int 0, .int 0, .int 0, .null, .null])), (q_1, .inl (cA_2, 64, .inl (upd (upd (upd f_14 61 306) 62 307) 63 308))), (q_15, .inl (cA_16, 64, .inl (upd (upd (upd (upd (upd (fun _ => 0) 0 1079) 1 10) 2 7) 3 6) 4 11)))] := hD
  rw [← ef_17] at hP hD
  replace hP : va_P (dC, dI) vcl [(h0, .inr (14, [.ref q_1, .null, .null, .null, .null, .null, .int 0, .null, .null, .null, .long 0, .null, .int 0, .int 0, .int 0, .int 0, .int 0, .int 0, .int 0, .null, .null])), (q_1, .inl (cA_2, 64, .inl (upd (upd (upd f_14 61 306) 62 307) 63 308))), (q_15, .inl (cA_16, 64, .inl f_17))] H := hP
  replace hD : va_D A [(h0, .inr (14, [.ref q_1, .null, .null, .null, .null, .null, .int 0, .null, .null, .null, .long 0, .null, .int 0, .int 0, .int 0, .int 0, .int 0, .int 0, .int 0, .null, .null])), (q_1, .inl (cA_2, 64, .inl (upd (upd (upd f_14 61 306) 62 307) 63 308))), (q_15, .inl (cA_16, 64, .inl f_17))] := hD
  refine lv_dup hx hb d_mLines_init_468 rfl ?_
  refine lv_iconst (v := 5) hx hb d_mLines_init_469 (by decide) ?_
  refine lv_bipush (v := 19) hx hb d_mLines_init_470 (by decide) ?_
  refine va_iast hx hb hK hP hD hS 2 1 rfl rfl (show ¬ ((5 : Int32) < 0 ∨ 64 ≤ (5 : Int32).toNatClampNeg) by decide) d_mLines_init_472 ?_
  clear hP hD hS
  intro H locs hP hD hS
  rw [show (5 : Int32).toNatClampNeg = 5 by decide] at hP hD
  replace hP : va_P (dC, dI) vcl [(h0, .inr (14, [.ref q_1, .null, .null, .null, .null, .null, .int 0, .null, .null, .null, .long 0, .null, .int 0, .int 0, .int 0, .int 0, .int 0, .int 0, .int 0, .null, .null])), (q_1, .inl (cA_2, 64, .inl (upd (upd (upd f_14 61 306) 62 307) 63 308))), (q_15, .inl (cA_16, 64, .inl (upd f_17 5 19)))] H := hP
  replace hD : va_D A [(h0, .inr (14, [.ref q_1, .null, .null, .null, .null, .null, .int 0, .null, .null, .null, .long 0, .null, .int 0, .int 0, .int 0, .int 0, .int 0, .int 0, .int 0, .null, .null])), (q_1, .inl (cA_2, 64, .inl (upd (upd (upd f_14 61 306) 62 307) 63 308))), (q_15, .inl (cA_16, 64, .inl (upd f_17 5 19)))] := hD
  refine lv_dup hx hb d_mLines_init_473 rfl ?_
  refine lv_bipush (v := 6) hx hb d_mLines_init_474 (by decide) ?_
  refine lv_bipush (v := 18) hx hb d_mLines_init_476 (by decide) ?_
  refine va_iast hx hb hK hP hD hS 2 1 rfl rfl (show ¬ ((6 : Int32) < 0 ∨ 64 ≤ (6 : Int32).toNatClampNeg) by decide) d_mLines_init_478 ?_
  clear hP hD hS
  intro H locs hP hD hS
  rw [show (6 : Int32).toNatClampNeg = 6 by decide] at hP hD
  replace hP : va_P (dC, dI) vcl [(h0, .inr (14, [.ref q_1, .null, .null, .null, .null, .null, .int 0, .null, .null, .null, .long 0, .null, .int 0, .int 0, .int 0, .int 0, .int 0, .int 0, .int 0, .null, .null])), (q_1, .inl (cA_2, 64, .inl (upd (upd (upd f_14 61 306) 62 307) 63 308))), (q_15, .inl (cA_16, 64, .inl (upd (upd f_17 5 19) 6 18)))] H := hP
  replace hD : va_D A [(h0, .inr (14, [.ref q_1, .null, .null, .null, .null, .null, .int 0, .null, .null, .null, .long 0, .null, .int 0, .int 0, .int 0, .int 0, .int 0, .int 0, .int 0, .null, .null])), (q_1, .inl (cA_2, 64, .inl (upd (upd (upd f_14 61 306) 62 307) 63 308))), (q_15, .inl (cA_16, 64, .inl (upd (upd f_17 5 19) 6 18)))] := hD
  refine lv_dup hx hb d_mLines_init_479 rfl ?_
  refine lv_bipush (v := 7) hx hb d_mLines_init_480 (by decide) ?_
  refine lv_bipush (v := 35) hx hb d_mLines_init_482 (by decide) ?_
  refine va_iast hx hb hK hP hD hS 2 1 rfl rfl (show ¬ ((7 : Int32) < 0 ∨ 64 ≤ (7 : Int32).toNatClampNeg) by decide) d_mLines_init_484 ?_
  clear hP hD hS
  intro H locs hP hD hS
  rw [show (7 : Int32).toNatClampNeg = 7 by decide] at hP hD
  replace hP : va_P (dC, dI) vcl [(h0, .inr (14, [.ref q_1, .null, .null, .null, .null, .null, .int 0, .null, .null, .null, .long 0, .null, .int 0, .int 0, .int 0, .int 0, .int 0, .int 0, .int 0, .null, .null])), (q_1, .inl (cA_2, 64, .inl (upd (upd (upd f_14 61 306) 62 307) 63 308))), (q_15, .inl (cA_16, 64, .inl (upd (upd (upd f_17 5 19) 6 18) 7 35)))] H := hP
  replace hD : va_D A [(h0, .inr (14, [.ref q_1, .null, .null, .null, .null, .null, .int 0, .null, .null, .null, .long 0, .null, .int 0, .int 0, .int 0, .int 0, .int 0, .int 0, .int 0, .null, .null])), (q_1, .inl (cA_2, 64, .inl (upd (upd (upd f_14 61 306) 62 307) 63 308))), (q_15, .inl (cA_16, 64, .inl (upd (upd (upd f_17 5 19) 6 18) 7 35)))] := hD
  refine lv_dup hx hb d_mLines_init_485 rfl ?_
  refine lv_bipush (v := 8) hx hb d_mLines_init_486 (by decide) ?_
  refine lv_bipush (v := 69) hx hb d_mLines_init_488 (by decide) ?_
  refine va_iast hx hb hK hP hD hS 2 1 rfl rfl (show ¬ ((8 : Int32) < 0 ∨ 64 ≤ (8 : Int32).toNatClampNeg) by decide) d_mLines_init_490 ?_
  clear hP hD hS
  intro H locs hP hD hS
  rw [show (8 : Int32).toNatClampNeg = 8 by decide] at hP hD
  replace hP : va_P (dC, dI) vcl [(h0, .inr (14, [.ref q_1, .null, .null, .null, .null, .null, .int 0, .null, .null, .null, .long 0, .null, .int 0, .int 0, .int 0, .int 0, .int 0, .int 0, .int 0, .null, .null])), (q_1, .inl (cA_2, 64, .inl (upd (upd (upd f_14 61 306) 62 307) 63 308))), (q_15, .inl (cA_16, 64, .inl (upd (upd (upd (upd f_17 5 19) 6 18) 7 35) 8 69)))] H := hP
  replace hD : va_D A [(h0, .inr (14, [.ref q_1, .null, .null, .null, .null, .null, .int 0, .null, .null, .null, .long 0, .null, .int 0, .int 0, .int 0, .int 0, .int 0, .int 0, .int 0, .null, .null])), (q_1, .inl (cA_2, 64, .inl (upd (upd (upd f_14 61 306) 62 307) 63 308))), (q_15, .inl (cA_16, 64, .inl (upd (upd (upd (upd f_17 5 19) 6 18) 7 35) 8 69)))] := hD
  refine lv_dup hx hb d_mLines_init_491 rfl ?_
  refine lv_bipush (v := 9) hx hb d_mLines_init_492 (by decide) ?_
  refine lv_bipush (v := 68) hx hb d_mLines_init_494 (by decide) ?_
  refine va_iast hx hb hK hP hD hS 2 1 rfl rfl (show ¬ ((9 : Int32) < 0 ∨ 64 ≤ (9 : Int32).toNatClampNeg) by decide) d_mLines_init_496 ?_
  clear hP hD hS
  intro H locs hP hD hS
  rw [show (9 : Int32).toNatClampNeg = 9 by decide] at hP hD
  replace hP : va_P (dC, dI) vcl [(h0, .inr (14, [.ref q_1, .null, .null, .null, .null, .null, .int 0, .null, .null, .null, .long 0, .null, .int 0, .int 0, .int 0, .int 0, .int 0, .int 0, .int 0, .null, .null])), (q_1, .inl (cA_2, 64, .inl (upd (upd (upd f_14 61 306) 62 307) 63 308))), (q_15, .inl (cA_16, 64, .inl (upd (upd (upd (upd (upd f_17 5 19) 6 18) 7 35) 8 69) 9 68)))] H := hP
  replace hD : va_D A [(h0, .inr (14, [.ref q_1, .null, .null, .null, .null, .null, .int 0, .null, .null, .null, .long 0, .null, .int 0, .int 0, .int 0, .int 0, .int 0, .int 0, .int 0, .null, .null])), (q_1, .inl (cA_2, 64, .inl (upd (upd (upd f_14 61 306) 62 307) 63 308))), (q_15, .inl (cA_16, 64, .inl (upd (upd (upd (upd (upd f_17 5 19) 6 18) 7 35) 8 69) 9 68)))] := hD
  refine lv_dup hx hb d_mLines_init_497 rfl ?_
  refine lv_bipush (v := 10) hx hb d_mLines_init_498 (by decide) ?_
  refine lv_sipush (v := 132) hx hb d_mLines_init_500 (by decide) ?_
  refine va_iast hx hb hK hP hD hS 2 1 rfl rfl (show ¬ ((10 : Int32) < 0 ∨ 64 ≤ (10 : Int32).toNatClampNeg) by decide) d_mLines_init_503 ?_
  clear hP hD hS
  intro H locs hP hD hS
  rw [show (10 : Int32).toNatClampNeg = 10 by decide] at hP hD
  obtain ⟨f_18, ef_18⟩ : ∃ y : Nat → Int32, y = upd (upd (upd (upd (upd (upd f_17 5 19) 6 18) 7 35) 8 69) 9 68) 10 132 := ⟨_, rfl⟩
  replace hP : va_P (dC, dI) vcl [(h0, .inr (14, [.ref q_1, .null, .null, .null, .null, .null, .int 0, .null, .null, .null, .long 0, .null, .int 0, .int 0, .int 0, .int 0, .int 0, .int 0, .int 0, .null, .null])), (q_1, .inl (cA_2, 64, .inl (upd (upd (upd f_14 61 306) 62 307) 63 308))), (q_15, .inl (cA_16, 64, .inl (upd (upd (upd (upd (upd (upd f_17 5 19) 6 18) 7 35) 8 69) 9 68) 10 132)))] H := hP
  replace hD : va_D A [(h0, .inr (14, [.ref q_1, .null, .null, .null, .null, .null, .int 0, .null, .null, .null, .long 0, .null, .int 0, .int 0, .int 0, .int 0, .int 0, .int 0, .int 0, .null, .null])), (q_1, .inl (cA_2, 64, .inl (upd (upd (upd f_14 61 306) 62 307) 63 308))), (q_15, .inl (cA_16, 64, .inl (upd (upd (upd (upd (upd (upd f_17 5 19) 6 18) 7 35) 8 69) 9 68) 10 132)))] := hD
  rw [← ef_18] at hP hD
  replace hP : va_P (dC, dI) vcl [(h0, .inr (14, [.ref q_1, .null, .null, .null, .null, .null, .int 0, .null, .null, .null, .long 0, .null, .int 0, .int 0, .int 0, .int 0, .int 0, .int 0, .int 0, .null, .null])), (q_1, .inl (cA_2, 64, .inl (upd (upd (upd f_14 61 306) 62 307) 63 308))), (q_15, .inl (cA_16, 64, .inl f_18))] H := hP
  replace hD : va_D A [(h0, .inr (14, [.ref q_1, .null, .null, .null, .null, .null, .int 0, .null, .null, .null, .long 0, .null, .int 0, .int 0, .int 0, .int 0, .int 0, .int 0, .int 0, .null, .null])), (q_1, .inl (cA_2, 64, .inl (upd (upd (upd f_14 61 306) 62 307) 63 308))), (q_15, .inl (cA_16, 64, .inl f_18))] := hD
  refine lv_dup hx hb d_mLines_init_504 rfl ?_
  refine lv_bipush (v := 11) hx hb d_mLines_init_505 (by decide) ?_
  refine lv_sipush (v := 133) hx hb d_mLines_init_507 (by decide) ?_
  refine va_iast hx hb hK hP hD hS 2 1 rfl rfl (show ¬ ((11 : Int32) < 0 ∨ 64 ≤ (11 : Int32).toNatClampNeg) by decide) d_mLines_init_510 ?_
  clear hP hD hS
  intro H locs hP hD hS
  rw [show (11 : Int32).toNatClampNeg = 11 by decide] at hP hD
  replace hP : va_P (dC, dI) vcl [(h0, .inr (14, [.ref q_1, .null, .null, .null, .null, .null, .int 0, .null, .null, .null, .long 0, .null, .int 0, .int 0, .int 0, .int 0, .int 0, .int 0, .int 0, .null, .null])), (q_1, .inl (cA_2, 64, .inl (upd (upd (upd f_14 61 306) 62 307) 63 308))), (q_15, .inl (cA_16, 64, .inl (upd f_18 11 133)))] H := hP
  replace hD : va_D A [(h0, .inr (14, [.ref q_1, .null, .null, .null, .null, .null, .int 0, .null, .null, .null, .long 0, .null, .int 0, .int 0, .int 0, .int 0, .int 0, .int 0, .int 0, .null, .null])), (q_1, .inl (cA_2, 64, .inl (upd (upd (upd f_14 61 306) 62 307) 63 308))), (q_15, .inl (cA_16, 64, .inl (upd f_18 11 133)))] := hD
  refine lv_dup hx hb d_mLines_init_511 rfl ?_
  refine lv_bipush (v := 12) hx hb d_mLines_init_512 (by decide) ?_
  refine lv_sipush (v := 135) hx hb d_mLines_init_514 (by decide) ?_
  refine va_iast hx hb hK hP hD hS 2 1 rfl rfl (show ¬ ((12 : Int32) < 0 ∨ 64 ≤ (12 : Int32).toNatClampNeg) by decide) d_mLines_init_517 ?_
  clear hP hD hS
  intro H locs hP hD hS
  rw [show (12 : Int32).toNatClampNeg = 12 by decide] at hP hD
  replace hP : va_P (dC, dI) vcl [(h0, .inr (14, [.ref q_1, .null, .null, .null, .null, .null, .int 0, .null, .null, .null, .long 0, .null, .int 0, .int 0, .int 0, .int 0, .int 0, .int 0, .int 0, .null, .null])), (q_1, .inl (cA_2, 64, .inl (upd (upd (upd f_14 61 306) 62 307) 63 308))), (q_15, .inl (cA_16, 64, .inl (upd (upd f_18 11 133) 12 135)))] H := hP
  replace hD : va_D A [(h0, .inr (14, [.ref q_1, .null, .null, .null, .null, .null, .int 0, .null, .null, .null, .long 0, .null, .int 0, .int 0, .int 0, .int 0, .int 0, .int 0, .int 0, .null, .null])), (q_1, .inl (cA_2, 64, .inl (upd (upd (upd f_14 61 306) 62 307) 63 308))), (q_15, .inl (cA_16, 64, .inl (upd (upd f_18 11 133) 12 135)))] := hD
  refine lv_dup hx hb d_mLines_init_518 rfl ?_
  refine lv_bipush (v := 13) hx hb d_mLines_init_519 (by decide) ?_
  refine lv_sipush (v := 260) hx hb d_mLines_init_521 (by decide) ?_
  refine va_iast hx hb hK hP hD hS 2 1 rfl rfl (show ¬ ((13 : Int32) < 0 ∨ 64 ≤ (13 : Int32).toNatClampNeg) by decide) d_mLines_init_524 ?_
  clear hP hD hS
  intro H locs hP hD hS
  rw [show (13 : Int32).toNatClampNeg = 13 by decide] at hP hD
  replace hP : va_P (dC, dI) vcl [(h0, .inr (14, [.ref q_1, .null, .null, .null, .null, .null, .int 0, .null, .null, .null, .long 0, .null, .int 0, .int 0, .int 0, .int 0, .int 0, .int 0, .int 0, .null, .null])), (q_1, .inl (cA_2, 64, .inl (upd (upd (upd f_14 61 306) 62 307) 63 308))), (q_15, .inl (cA_16, 64, .inl (upd (upd (upd f_18 11 133) 12 135) 13 260)))] H := hP
  replace hD : va_D A [(h0, .inr (14, [.ref q_1, .null, .null, .null, .null, .null, .int 0, .null, .null, .null, .long 0, .null, .int 0, .int 0, .int 0, .int 0, .int 0, .int 0, .int 0, .null, .null])), (q_1, .inl (cA_2, 64, .inl (upd (upd (upd f_14 61 306) 62 307) 63 308))), (q_15, .inl (cA_16, 64, .inl (upd (upd (upd f_18 11 133) 12 135) 13 260)))] := hD
  refine lv_dup hx hb d_mLines_init_525 rfl ?_
  refine lv_bipush (v := 14) hx hb d_mLines_init_526 (by decide) ?_
  refine lv_sipush (v := 263) hx hb d_mLines_init_528 (by decide) ?_
  refine va_iast hx hb hK hP hD hS 2 1 rfl rfl (show ¬ ((14 : Int32) < 0 ∨ 64 ≤ (14 : Int32).toNatClampNeg) by decide) d_mLines_init_531 ?_
  clear hP hD hS
  intro H locs hP hD hS
  rw [show (14 : Int32).toNatClampNeg = 14 by decide] at hP hD
  replace hP : va_P (dC, dI) vcl [(h0, .inr (14, [.ref q_1, .null, .null, .null, .null, .null, .int 0, .null, .null, .null, .long 0, .null, .int 0, .int 0, .int 0, .int 0, .int 0, .int 0, .int 0, .null, .null])), (q_1, .inl (cA_2, 64, .inl (upd (upd (upd f_14 61 306) 62 307) 63 308))), (q_15, .inl (cA_16, 64, .inl (upd (upd (upd (upd f_18 11 133) 12 135) 13 260) 14 263)))] H := hP
  replace hD : va_D A [(h0, .inr (14, [.ref q_1, .null, .null, .null, .null, .null, .int 0, .null, .null, .null, .long 0, .null, .int 0, .int 0, .int 0, .int 0, .int 0, .int 0, .int 0, .null, .null])), (q_1, .inl (cA_2, 64, .inl (upd (upd (upd f_14 61 306) 62 307) 63 308))), (q_15, .inl (cA_16, 64, .inl (upd (upd (upd (upd f_18 11 133) 12 135) 13 260) 14 263)))] := hD
  refine lv_dup hx hb d_mLines_init_532 rfl ?_
  refine lv_bipush (v := 15) hx hb d_mLines_init_533 (by decide) ?_
  refine lv_sipush (v := 536) hx hb d_mLines_init_535 (by decide) ?_
  refine va_iast hx hb hK hP hD hS 2 1 rfl rfl (show ¬ ((15 : Int32) < 0 ∨ 64 ≤ (15 : Int32).toNatClampNeg) by decide) d_mLines_init_538 ?_
  clear hP hD hS
  intro H locs hP hD hS
  rw [show (15 : Int32).toNatClampNeg = 15 by decide] at hP hD
  obtain ⟨f_19, ef_19⟩ : ∃ y : Nat → Int32, y = upd (upd (upd (upd (upd f_18 11 133) 12 135) 13 260) 14 263) 15 536 := ⟨_, rfl⟩
  replace hP : va_P (dC, dI) vcl [(h0, .inr (14, [.ref q_1, .null, .null, .null, .null, .null, .int 0, .null, .null, .null, .long 0, .null, .int 0, .int 0, .int 0, .int 0, .int 0, .int 0, .int 0, .null, .null])), (q_1, .inl (cA_2, 64, .inl (upd (upd (upd f_14 61 306) 62 307) 63 308))), (q_15, .inl (cA_16, 64, .inl (upd (upd (upd (upd (upd f_18 11 133) 12 135) 13 260) 14 263) 15 536)))] H := hP
  replace hD : va_D A [(h0, .inr (14, [.ref q_1, .null, .null, .null, .null, .null, .int 0, .null, .null, .null, .long 0, .null, .int 0, .int 0, .int 0, .int 0, .int 0, .int 0, .int 0, .null, .null])), (q_1, .inl (cA_2, 64, .inl (upd (upd (upd f_14 61 306) 62 307) 63 308))), (q_15, .inl (cA_16, 64, .inl (upd (upd (upd (upd (upd f_18 11 133) 12 135) 13 260) 14 263) 15 536)))] := hD
  rw [← ef_19] at hP hD
  replace hP : va_P (dC, dI) vcl [(h0, .inr (14, [.ref q_1, .null, .null, .null, .null, .null, .int 0, .null, .null, .null, .long 0, .null, .int 0, .int 0, .int 0, .int 0, .int 0, .int 0, .int 0, .null, .null])), (q_1, .inl (cA_2, 64, .inl (upd (upd (upd f_14 61 306) 62 307) 63 308))), (q_15, .inl (cA_16, 64, .inl f_19))] H := hP
  replace hD : va_D A [(h0, .inr (14, [.ref q_1, .null, .null, .null, .null, .null, .int 0, .null, .null, .null, .long 0, .null, .int 0, .int 0, .int 0, .int 0, .int 0, .int 0, .int 0, .null, .null])), (q_1, .inl (cA_2, 64, .inl (upd (upd (upd f_14 61 306) 62 307) 63 308))), (q_15, .inl (cA_16, 64, .inl f_19))] := hD
  refine lv_dup hx hb d_mLines_init_539 rfl ?_
  refine lv_bipush (v := 16) hx hb d_mLines_init_540 (by decide) ?_
  refine lv_sipush (v := 1047) hx hb d_mLines_init_542 (by decide) ?_
  refine va_iast hx hb hK hP hD hS 2 1 rfl rfl (show ¬ ((16 : Int32) < 0 ∨ 64 ≤ (16 : Int32).toNatClampNeg) by decide) d_mLines_init_545 ?_
  clear hP hD hS
  intro H locs hP hD hS
  rw [show (16 : Int32).toNatClampNeg = 16 by decide] at hP hD
  replace hP : va_P (dC, dI) vcl [(h0, .inr (14, [.ref q_1, .null, .null, .null, .null, .null, .int 0, .null, .null, .null, .long 0, .null, .int 0, .int 0, .int 0, .int 0, .int 0, .int 0, .int 0, .null, .null])), (q_1, .inl (cA_2, 64, .inl (upd (upd (upd f_14 61 306) 62 307) 63 308))), (q_15, .inl (cA_16, 64, .inl (upd f_19 16 1047)))] H := hP
  replace hD : va_D A [(h0, .inr (14, [.ref q_1, .null, .null, .null, .null, .null, .int 0, .null, .null, .null, .long 0, .null, .int 0, .int 0, .int 0, .int 0, .int 0, .int 0, .int 0, .null, .null])), (q_1, .inl (cA_2, 64, .inl (upd (upd (upd f_14 61 306) 62 307) 63 308))), (q_15, .inl (cA_16, 64, .inl (upd f_19 16 1047)))] := hD
  refine lv_dup hx hb d_mLines_init_546 rfl ?_
  refine lv_bipush (v := 17) hx hb d_mLines_init_547 (by decide) ?_
  refine lv_sipush (v := 1048) hx hb d_mLines_init_549 (by decide) ?_
  refine va_iast hx hb hK hP hD hS 2 1 rfl rfl (show ¬ ((17 : Int32) < 0 ∨ 64 ≤ (17 : Int32).toNatClampNeg) by decide) d_mLines_init_552 ?_
  clear hP hD hS
  intro H locs hP hD hS
  rw [show (17 : Int32).toNatClampNeg = 17 by decide] at hP hD
  replace hP : va_P (dC, dI) vcl [(h0, .inr (14, [.ref q_1, .null, .null, .null, .null, .null, .int 0, .null, .null, .null, .long 0, .null, .int 0, .int 0, .int 0, .int 0, .int 0, .int 0, .int 0, .null, .null])), (q_1, .inl (cA_2, 64, .inl (upd (upd (upd f_14 61 306) 62 307) 63 308))), (q_15, .inl (cA_16, 64, .inl (upd (upd f_19 16 1047) 17 1048)))] H := hP
  replace hD : va_D A [(h0, .inr (14, [.ref q_1, .null, .null, .null, .null, .null, .int 0, .null, .null, .null, .long 0, .null, .int 0, .int 0, .int 0, .int 0, .int 0, .int 0, .int 0, .null, .null])), (q_1, .inl (cA_2, 64, .inl (upd (upd (upd f_14 61 306) 62 307) 63 308))), (q_15, .inl (cA_16, 64, .inl (upd (upd f_19 16 1047) 17 1048)))] := hD
  refine lv_dup hx hb d_mLines_init_553 rfl ?_
  refine lv_bipush (v := 18) hx hb d_mLines_init_554 (by decide) ?_
  refine lv_sipush (v := 1032) hx hb d_mLines_init_556 (by decide) ?_
  refine va_iast hx hb hK hP hD hS 2 1 rfl rfl (show ¬ ((18 : Int32) < 0 ∨ 64 ≤ (18 : Int32).toNatClampNeg) by decide) d_mLines_init_559 ?_
  clear hP hD hS
  intro H locs hP hD hS
  rw [show (18 : Int32).toNatClampNeg = 18 by decide] at hP hD
  replace hP : va_P (dC, dI) vcl [(h0, .inr (14, [.ref q_1, .null, .null, .null, .null, .null, .int 0, .null, .null, .null, .long 0, .null, .int 0, .int 0, .int 0, .int 0, .int 0, .int 0, .int 0, .null, .null])), (q_1, .inl (cA_2, 64, .inl (upd (upd (upd f_14 61 306) 62 307) 63 308))), (q_15, .inl (cA_16, 64, .inl (upd (upd (upd f_19 16 1047) 17 1048) 18 1032)))] H := hP
  replace hD : va_D A [(h0, .inr (14, [.ref q_1, .null, .null, .null, .null, .null, .int 0, .null, .null, .null, .long 0, .null, .int 0, .int 0, .int 0, .int 0, .int 0, .int 0, .int 0, .null, .null])), (q_1, .inl (cA_2, 64, .inl (upd (upd (upd f_14 61 306) 62 307) 63 308))), (q_15, .inl (cA_16, 64, .inl (upd (upd (upd f_19 16 1047) 17 1048) 18 1032)))] := hD
  refine lv_dup hx hb d_mLines_init_560 rfl ?_
  refine lv_bipush (v := 19) hx hb d_mLines_init_561 (by decide) ?_
  refine lv_sipush (v := 2151) hx hb d_mLines_init_563 (by decide) ?_
  refine va_iast hx hb hK hP hD hS 2 1 rfl rfl (show ¬ ((19 : Int32) < 0 ∨ 64 ≤ (19 : Int32).toNatClampNeg) by decide) d_mLines_init_566 ?_
  clear hP hD hS
  intro H locs hP hD hS
  rw [show (19 : Int32).toNatClampNeg = 19 by decide] at hP hD
  replace hP : va_P (dC, dI) vcl [(h0, .inr (14, [.ref q_1, .null, .null, .null, .null, .null, .int 0, .null, .null, .null, .long 0, .null, .int 0, .int 0, .int 0, .int 0, .int 0, .int 0, .int 0, .null, .null])), (q_1, .inl (cA_2, 64, .inl (upd (upd (upd f_14 61 306) 62 307) 63 308))), (q_15, .inl (cA_16, 64, .inl (upd (upd (upd (upd f_19 16 1047) 17 1048) 18 1032) 19 2151)))] H := hP
  replace hD : va_D A [(h0, .inr (14, [.ref q_1, .null, .null, .null, .null, .null, .int 0, .null, .null, .null, .long 0, .null, .int 0, .int 0, .int 0, .int 0, .int 0, .int 0, .int 0, .null, .null])), (q_1, .inl (cA_2, 64, .inl (upd (upd (upd f_14 61 306) 62 307) 63 308))), (q_15, .inl (cA_16, 64, .inl (upd (upd (upd (upd f_19 16 1047) 17 1048) 18 1032) 19 2151)))] := hD
  refine lv_dup hx hb d_mLines_init_567 rfl ?_
  refine lv_bipush (v := 20) hx hb d_mLines_init_568 (by decide) ?_
  refine lv_sipush (v := 2152) hx hb d_mLines_init_570 (by decide) ?_
  refine va_iast hx hb hK hP hD hS 2 1 rfl rfl (show ¬ ((20 : Int32) < 0 ∨ 64 ≤ (20 : Int32).toNatClampNeg) by decide) d_mLines_init_573 ?_
  clear hP hD hS
  intro H locs hP hD hS
  rw [show (20 : Int32).toNatClampNeg = 20 by decide] at hP hD
  obtain ⟨f_20, ef_20⟩ : ∃ y : Nat → Int32, y = upd (upd (upd (upd (upd f_19 16 1047) 17 1048) 18 1032) 19 2151) 20 2152 := ⟨_, rfl⟩
  replace hP : va_P (dC, dI) vcl [(h0, .inr (14, [.ref q_1, .null, .null, .null, .null, .null, .int 0, .null, .null, .null, .long 0, .null, .int 0, .int 0, .int 0, .int 0, .int 0, .int 0, .int 0, .null, .null])), (q_1, .inl (cA_2, 64, .inl (upd (upd (upd f_14 61 306) 62 307) 63 308))), (q_15, .inl (cA_16, 64, .inl (upd (upd (upd (upd (upd f_19 16 1047) 17 1048) 18 1032) 19 2151) 20 2152)))] H := hP
  replace hD : va_D A [(h0, .inr (14, [.ref q_1, .null, .null, .null, .null, .null, .int 0, .null, .null, .null, .long 0, .null, .int 0, .int 0, .int 0, .int 0, .int 0, .int 0, .int 0, .null, .null])), (q_1, .inl (cA_2, 64, .inl (upd (upd (upd f_14 61 306) 62 307) 63 308))), (q_15, .inl (cA_16, 64, .inl (upd (upd (upd (upd (upd f_19 16 1047) 17 1048) 18 1032) 19 2151) 20 2152)))] := hD
  rw [← ef_20] at hP hD
  replace hP : va_P (dC, dI) vcl [(h0, .inr (14, [.ref q_1, .null, .null, .null, .null, .null, .int 0, .null, .null, .null, .long 0, .null, .int 0, .int 0, .int 0, .int 0, .int 0, .int 0, .int 0, .null, .null])), (q_1, .inl (cA_2, 64, .inl (upd (upd (upd f_14 61 306) 62 307) 63 308))), (q_15, .inl (cA_16, 64, .inl f_20))] H := hP
  replace hD : va_D A [(h0, .inr (14, [.ref q_1, .null, .null, .null, .null, .null, .int 0, .null, .null, .null, .long 0, .null, .int 0, .int 0, .int 0, .int 0, .int 0, .int 0, .int 0, .null, .null])), (q_1, .inl (cA_2, 64, .inl (upd (upd (upd f_14 61 306) 62 307) 63 308))), (q_15, .inl (cA_16, 64, .inl f_20))] := hD
  refine lv_dup hx hb d_mLines_init_574 rfl ?_
  refine lv_bipush (v := 21) hx hb d_mLines_init_575 (by decide) ?_
  refine lv_sipush (v := 2156) hx hb d_mLines_init_577 (by decide) ?_
  refine va_iast hx hb hK hP hD hS 2 1 rfl rfl (show ¬ ((21 : Int32) < 0 ∨ 64 ≤ (21 : Int32).toNatClampNeg) by decide) d_mLines_init_580 ?_
  clear hP hD hS
  intro H locs hP hD hS
  rw [show (21 : Int32).toNatClampNeg = 21 by decide] at hP hD
  replace hP : va_P (dC, dI) vcl [(h0, .inr (14, [.ref q_1, .null, .null, .null, .null, .null, .int 0, .null, .null, .null, .long 0, .null, .int 0, .int 0, .int 0, .int 0, .int 0, .int 0, .int 0, .null, .null])), (q_1, .inl (cA_2, 64, .inl (upd (upd (upd f_14 61 306) 62 307) 63 308))), (q_15, .inl (cA_16, 64, .inl (upd f_20 21 2156)))] H := hP
  replace hD : va_D A [(h0, .inr (14, [.ref q_1, .null, .null, .null, .null, .null, .int 0, .null, .null, .null, .long 0, .null, .int 0, .int 0, .int 0, .int 0, .int 0, .int 0, .int 0, .null, .null])), (q_1, .inl (cA_2, 64, .inl (upd (upd (upd f_14 61 306) 62 307) 63 308))), (q_15, .inl (cA_16, 64, .inl (upd f_20 21 2156)))] := hD
  refine lv_dup hx hb d_mLines_init_581 rfl ?_
  refine lv_bipush (v := 22) hx hb d_mLines_init_582 (by decide) ?_
  refine lv_sipush (v := 2103) hx hb d_mLines_init_584 (by decide) ?_
  refine va_iast hx hb hK hP hD hS 2 1 rfl rfl (show ¬ ((22 : Int32) < 0 ∨ 64 ≤ (22 : Int32).toNatClampNeg) by decide) d_mLines_init_587 ?_
  clear hP hD hS
  intro H locs hP hD hS
  rw [show (22 : Int32).toNatClampNeg = 22 by decide] at hP hD
  replace hP : va_P (dC, dI) vcl [(h0, .inr (14, [.ref q_1, .null, .null, .null, .null, .null, .int 0, .null, .null, .null, .long 0, .null, .int 0, .int 0, .int 0, .int 0, .int 0, .int 0, .int 0, .null, .null])), (q_1, .inl (cA_2, 64, .inl (upd (upd (upd f_14 61 306) 62 307) 63 308))), (q_15, .inl (cA_16, 64, .inl (upd (upd f_20 21 2156) 22 2103)))] H := hP
  replace hD : va_D A [(h0, .inr (14, [.ref q_1, .null, .null, .null, .null, .null, .int 0, .null, .null, .null, .long 0, .null, .int 0, .int 0, .int 0, .int 0, .int 0, .int 0, .int 0, .null, .null])), (q_1, .inl (cA_2, 64, .inl (upd (upd (upd f_14 61 306) 62 307) 63 308))), (q_15, .inl (cA_16, 64, .inl (upd (upd f_20 21 2156) 22 2103)))] := hD
  refine lv_dup hx hb d_mLines_init_588 rfl ?_
  refine lv_bipush (v := 23) hx hb d_mLines_init_589 (by decide) ?_
  refine lv_sipush (v := 2088) hx hb d_mLines_init_591 (by decide) ?_
  refine va_iast hx hb hK hP hD hS 2 1 rfl rfl (show ¬ ((23 : Int32) < 0 ∨ 64 ≤ (23 : Int32).toNatClampNeg) by decide) d_mLines_init_594 ?_
  clear hP hD hS
  intro H locs hP hD hS
  rw [show (23 : Int32).toNatClampNeg = 23 by decide] at hP hD
  replace hP : va_P (dC, dI) vcl [(h0, .inr (14, [.ref q_1, .null, .null, .null, .null, .null, .int 0, .null, .null, .null, .long 0, .null, .int 0, .int 0, .int 0, .int 0, .int 0, .int 0, .int 0, .null, .null])), (q_1, .inl (cA_2, 64, .inl (upd (upd (upd f_14 61 306) 62 307) 63 308))), (q_15, .inl (cA_16, 64, .inl (upd (upd (upd f_20 21 2156) 22 2103) 23 2088)))] H := hP
  replace hD : va_D A [(h0, .inr (14, [.ref q_1, .null, .null, .null, .null, .null, .int 0, .null, .null, .null, .long 0, .null, .int 0, .int 0, .int 0, .int 0, .int 0, .int 0, .int 0, .null, .null])), (q_1, .inl (cA_2, 64, .inl (upd (upd (upd f_14 61 306) 62 307) 63 308))), (q_15, .inl (cA_16, 64, .inl (upd (upd (upd f_20 21 2156) 22 2103) 23 2088)))] := hD
  refine lv_dup hx hb d_mLines_init_595 rfl ?_
  refine lv_bipush (v := 24) hx hb d_mLines_init_596 (by decide) ?_
  refine lv_sipush (v := 2071) hx hb d_mLines_init_598 (by decide) ?_
  refine va_iast hx hb hK hP hD hS 2 1 rfl rfl (show ¬ ((24 : Int32) < 0 ∨ 64 ≤ (24 : Int32).toNatClampNeg) by decide) d_mLines_init_601 ?_
  clear hP hD hS
  intro H locs hP hD hS
  rw [show (24 : Int32).toNatClampNeg = 24 by decide] at hP hD
  replace hP : va_P (dC, dI) vcl [(h0, .inr (14, [.ref q_1, .null, .null, .null, .null, .null, .int 0, .null, .null, .null, .long 0, .null, .int 0, .int 0, .int 0, .int 0, .int 0, .int 0, .int 0, .null, .null])), (q_1, .inl (cA_2, 64, .inl (upd (upd (upd f_14 61 306) 62 307) 63 308))), (q_15, .inl (cA_16, 64, .inl (upd (upd (upd (upd f_20 21 2156) 22 2103) 23 2088) 24 2071)))] H := hP
  replace hD : va_D A [(h0, .inr (14, [.ref q_1, .null, .null, .null, .null, .null, .int 0, .null, .null, .null, .long 0, .null, .int 0, .int 0, .int 0, .int 0, .int 0, .int 0, .int 0, .null, .null])), (q_1, .inl (cA_2, 64, .inl (upd (upd (upd f_14 61 306) 62 307) 63 308))), (q_15, .inl (cA_16, 64, .inl (upd (upd (upd (upd f_20 21 2156) 22 2103) 23 2088) 24 2071)))] := hD
  refine lv_dup hx hb d_mLines_init_602 rfl ?_
  refine lv_bipush (v := 25) hx hb d_mLines_init_603 (by decide) ?_
  refine lv_sipush (v := 2072) hx hb d_mLines_init_605 (by decide) ?_
  refine va_iast hx hb hK hP hD hS 2 1 rfl rfl (show ¬ ((25 : Int32) < 0 ∨ 64 ≤ (25 : Int32).toNatClampNeg) by decide) d_mLines_init_608 ?_
  clear hP hD hS
  intro H locs hP hD hS
  rw [show (25 : Int32).toNatClampNeg = 25 by decide] at hP hD
  obtain ⟨f_21, ef_21⟩ : ∃ y : Nat → Int32, y = upd (upd (upd (upd (upd f_20 21 2156) 22 2103) 23 2088) 24 2071) 25 2072 := ⟨_, rfl⟩
  replace hP : va_P (dC, dI) vcl [(h0, .inr (14, [.ref q_1, .null, .null, .null, .null, .null, .int 0, .null, .null, .null, .long 0, .null, .int 0, .int 0, .int 0, .int 0, .int 0, .int 0, .int 0, .null, .null])), (q_1, .inl (cA_2, 64, .inl (upd (upd (upd f_14 61 306) 62 307) 63 308))), (q_15, .inl (cA_16, 64, .inl (upd (upd (upd (upd (upd f_20 21 2156) 22 2103) 23 2088) 24 2071) 25 2072)))] H := hP
  replace hD : va_D A [(h0, .inr (14, [.ref q_1, .null, .null, .null, .null, .null, .int 0, .null, .null, .null, .long 0, .null, .int 0, .int 0, .int 0, .int 0, .int 0, .int 0, .int 0, .null, .null])), (q_1, .inl (cA_2, 64, .inl (upd (upd (upd f_14 61 306) 62 307) 63 308))), (q_15, .inl (cA_16, 64, .inl (upd (upd (upd (upd (upd f_20 21 2156) 22 2103) 23 2088) 24 2071) 25 2072)))] := hD
  rw [← ef_21] at hP hD
  replace hP : va_P (dC, dI) vcl [(h0, .inr (14, [.ref q_1, .null, .null, .null, .null, .null, .int 0, .null, .null, .null, .long 0, .null, .int 0, .int 0, .int 0, .int 0, .int 0, .int 0, .int 0, .null, .null])), (q_1, .inl (cA_2, 64, .inl (upd (upd (upd f_14 61 306) 62 307) 63 308))), (q_15, .inl (cA_16, 64, .inl f_21))] H := hP
  replace hD : va_D A [(h0, .inr (14, [.ref q_1, .null, .null, .null, .null, .null, .int 0, .null, .null, .null, .long 0, .null, .int 0, .int 0, .int 0, .int 0, .int 0, .int 0, .int 0, .null, .null])), (q_1, .inl (cA_2, 64, .inl (upd (upd (upd f_14 61 306) 62 307) 63 308))), (q_15, .inl (cA_16, 64, .inl f_21))] := hD
  refine lv_dup hx hb d_mLines_init_609 rfl ?_
  refine lv_bipush (v := 26) hx hb d_mLines_init_610 (by decide) ?_
  refine lv_sipush (v := 4298) hx hb d_mLines_init_612 (by decide) ?_
  refine va_iast hx hb hK hP hD hS 2 1 rfl rfl (show ¬ ((26 : Int32) < 0 ∨ 64 ≤ (26 : Int32).toNatClampNeg) by decide) d_mLines_init_615 ?_
  clear hP hD hS
  intro H locs hP hD hS
  rw [show (26 : Int32).toNatClampNeg = 26 by decide] at hP hD
  replace hP : va_P (dC, dI) vcl [(h0, .inr (14, [.ref q_1, .null, .null, .null, .null, .null, .int 0, .null, .null, .null, .long 0, .null, .int 0, .int 0, .int 0, .int 0, .int 0, .int 0, .int 0, .null, .null])), (q_1, .inl (cA_2, 64, .inl (upd (upd (upd f_14 61 306) 62 307) 63 308))), (q_15, .inl (cA_16, 64, .inl (upd f_21 26 4298)))] H := hP
  replace hD : va_D A [(h0, .inr (14, [.ref q_1, .null, .null, .null, .null, .null, .int 0, .null, .null, .null, .long 0, .null, .int 0, .int 0, .int 0, .int 0, .int 0, .int 0, .int 0, .null, .null])), (q_1, .inl (cA_2, 64, .inl (upd (upd (upd f_14 61 306) 62 307) 63 308))), (q_15, .inl (cA_16, 64, .inl (upd f_21 26 4298)))] := hD
  refine lv_dup hx hb d_mLines_init_616 rfl ?_
  refine lv_bipush (v := 27) hx hb d_mLines_init_617 (by decide) ?_
  refine lv_sipush (v := 4299) hx hb d_mLines_init_619 (by decide) ?_
  refine va_iast hx hb hK hP hD hS 2 1 rfl rfl (show ¬ ((27 : Int32) < 0 ∨ 64 ≤ (27 : Int32).toNatClampNeg) by decide) d_mLines_init_622 ?_
  clear hP hD hS
  intro H locs hP hD hS
  rw [show (27 : Int32).toNatClampNeg = 27 by decide] at hP hD
  replace hP : va_P (dC, dI) vcl [(h0, .inr (14, [.ref q_1, .null, .null, .null, .null, .null, .int 0, .null, .null, .null, .long 0, .null, .int 0, .int 0, .int 0, .int 0, .int 0, .int 0, .int 0, .null, .null])), (q_1, .inl (cA_2, 64, .inl (upd (upd (upd f_14 61 306) 62 307) 63 308))), (q_15, .inl (cA_16, 64, .inl (upd (upd f_21 26 4298) 27 4299)))] H := hP
  replace hD : va_D A [(h0, .inr (14, [.ref q_1, .null, .null, .null, .null, .null, .int 0, .null, .null, .null, .long 0, .null, .int 0, .int 0, .int 0, .int 0, .int 0, .int 0, .int 0, .null, .null])), (q_1, .inl (cA_2, 64, .inl (upd (upd (upd f_14 61 306) 62 307) 63 308))), (q_15, .inl (cA_16, 64, .inl (upd (upd f_21 26 4298) 27 4299)))] := hD
  refine lv_dup hx hb d_mLines_init_623 rfl ?_
  refine lv_bipush (v := 28) hx hb d_mLines_init_624 (by decide) ?_
  refine lv_sipush (v := 4300) hx hb d_mLines_init_626 (by decide) ?_
  refine va_iast hx hb hK hP hD hS 2 1 rfl rfl (show ¬ ((28 : Int32) < 0 ∨ 64 ≤ (28 : Int32).toNatClampNeg) by decide) d_mLines_init_629 ?_
  clear hP hD hS
  intro H locs hP hD hS
  rw [show (28 : Int32).toNatClampNeg = 28 by decide] at hP hD
  replace hP : va_P (dC, dI) vcl [(h0, .inr (14, [.ref q_1, .null, .null, .null, .null, .null, .int 0, .null, .null, .null, .long 0, .null, .int 0, .int 0, .int 0, .int 0, .int 0, .int 0, .int 0, .null, .null])), (q_1, .inl (cA_2, 64, .inl (upd (upd (upd f_14 61 306) 62 307) 63 308))), (q_15, .inl (cA_16, 64, .inl (upd (upd (upd f_21 26 4298) 27 4299) 28 4300)))] H := hP
  replace hD : va_D A [(h0, .inr (14, [.ref q_1, .null, .null, .null, .null, .null, .int 0, .null, .null, .null, .long 0, .null, .int 0, .int 0, .int 0, .int 0, .int 0, .int 0, .int 0, .null, .null])), (q_1, .inl (cA_2, 64, .inl (upd (upd (upd f_14 61 306) 62 307) 63 308))), (q_15, .inl (cA_16, 64, .inl (upd (upd (upd f_21 26 4298) 27 4299) 28 4300)))] := hD
  refine lv_dup hx hb d_mLines_init_630 rfl ?_
  refine lv_bipush (v := 29) hx hb d_mLines_init_631 (by decide) ?_
  refine lv_sipush (v := 4301) hx hb d_mLines_init_633 (by decide) ?_
  refine va_iast hx hb hK hP hD hS 2 1 rfl rfl (show ¬ ((29 : Int32) < 0 ∨ 64 ≤ (29 : Int32).toNatClampNeg) by decide) d_mLines_init_636 ?_
  clear hP hD hS
  intro H locs hP hD hS
  rw [show (29 : Int32).toNatClampNeg = 29 by decide] at hP hD
  replace hP : va_P (dC, dI) vcl [(h0, .inr (14, [.ref q_1, .null, .null, .null, .null, .null, .int 0, .null, .null, .null, .long 0, .null, .int 0, .int 0, .int 0, .int 0, .int 0, .int 0, .int 0, .null, .null])), (q_1, .inl (cA_2, 64, .inl (upd (upd (upd f_14 61 306) 62 307) 63 308))), (q_15, .inl (cA_16, 64, .inl (upd (upd (upd (upd f_21 26 4298) 27 4299) 28 4300) 29 4301)))] H := hP
  replace hD : va_D A [(h0, .inr (14, [.ref q_1, .null, .null, .null, .null, .null, .int 0, .null, .null, .null, .long 0, .null, .int 0, .int 0, .int 0, .int 0, .int 0, .int 0, .int 0, .null, .null])), (q_1, .inl (cA_2, 64, .inl (upd (upd (upd f_14 61 306) 62 307) 63 308))), (q_15, .inl (cA_16, 64, .inl (upd (upd (upd (upd f_21 26 4298) 27 4299) 28 4300) 29 4301)))] := hD
  refine lv_dup hx hb d_mLines_init_637 rfl ?_
  refine lv_bipush (v := 30) hx hb d_mLines_init_638 (by decide) ?_
  refine lv_sipush (v := 4200) hx hb d_mLines_init_640 (by decide) ?_
  refine va_iast hx hb hK hP hD hS 2 1 rfl rfl (show ¬ ((30 : Int32) < 0 ∨ 64 ≤ (30 : Int32).toNatClampNeg) by decide) d_mLines_init_643 ?_
  clear hP hD hS
  intro H locs hP hD hS
  rw [show (30 : Int32).toNatClampNeg = 30 by decide] at hP hD
  obtain ⟨f_22, ef_22⟩ : ∃ y : Nat → Int32, y = upd (upd (upd (upd (upd f_21 26 4298) 27 4299) 28 4300) 29 4301) 30 4200 := ⟨_, rfl⟩
  replace hP : va_P (dC, dI) vcl [(h0, .inr (14, [.ref q_1, .null, .null, .null, .null, .null, .int 0, .null, .null, .null, .long 0, .null, .int 0, .int 0, .int 0, .int 0, .int 0, .int 0, .int 0, .null, .null])), (q_1, .inl (cA_2, 64, .inl (upd (upd (upd f_14 61 306) 62 307) 63 308))), (q_15, .inl (cA_16, 64, .inl (upd (upd (upd (upd (upd f_21 26 4298) 27 4299) 28 4300) 29 4301) 30 4200)))] H := hP
  replace hD : va_D A [(h0, .inr (14, [.ref q_1, .null, .null, .null, .null, .null, .int 0, .null, .null, .null, .long 0, .null, .int 0, .int 0, .int 0, .int 0, .int 0, .int 0, .int 0, .null, .null])), (q_1, .inl (cA_2, 64, .inl (upd (upd (upd f_14 61 306) 62 307) 63 308))), (q_15, .inl (cA_16, 64, .inl (upd (upd (upd (upd (upd f_21 26 4298) 27 4299) 28 4300) 29 4301) 30 4200)))] := hD
  rw [← ef_22] at hP hD
  replace hP : va_P (dC, dI) vcl [(h0, .inr (14, [.ref q_1, .null, .null, .null, .null, .null, .int 0, .null, .null, .null, .long 0, .null, .int 0, .int 0, .int 0, .int 0, .int 0, .int 0, .int 0, .null, .null])), (q_1, .inl (cA_2, 64, .inl (upd (upd (upd f_14 61 306) 62 307) 63 308))), (q_15, .inl (cA_16, 64, .inl f_22))] H := hP
  replace hD : va_D A [(h0, .inr (14, [.ref q_1, .null, .null, .null, .null, .null, .int 0, .null, .null, .null, .long 0, .null, .int 0, .int 0, .int 0, .int 0, .int 0, .int 0, .int 0, .null, .null])), (q_1, .inl (cA_2, 64, .inl (upd (upd (upd f_14 61 306) 62 307) 63 308))), (q_15, .inl (cA_16, 64, .inl f_22))] := hD
  refine lv_dup hx hb d_mLines_init_644 rfl ?_
  refine lv_bipush (v := 31) hx hb d_mLines_init_645 (by decide) ?_
  refine lv_sipush (v := 4201) hx hb d_mLines_init_647 (by decide) ?_
  refine va_iast hx hb hK hP hD hS 2 1 rfl rfl (show ¬ ((31 : Int32) < 0 ∨ 64 ≤ (31 : Int32).toNatClampNeg) by decide) d_mLines_init_650 ?_
  clear hP hD hS
  intro H locs hP hD hS
  rw [show (31 : Int32).toNatClampNeg = 31 by decide] at hP hD
  replace hP : va_P (dC, dI) vcl [(h0, .inr (14, [.ref q_1, .null, .null, .null, .null, .null, .int 0, .null, .null, .null, .long 0, .null, .int 0, .int 0, .int 0, .int 0, .int 0, .int 0, .int 0, .null, .null])), (q_1, .inl (cA_2, 64, .inl (upd (upd (upd f_14 61 306) 62 307) 63 308))), (q_15, .inl (cA_16, 64, .inl (upd f_22 31 4201)))] H := hP
  replace hD : va_D A [(h0, .inr (14, [.ref q_1, .null, .null, .null, .null, .null, .int 0, .null, .null, .null, .long 0, .null, .int 0, .int 0, .int 0, .int 0, .int 0, .int 0, .int 0, .null, .null])), (q_1, .inl (cA_2, 64, .inl (upd (upd (upd f_14 61 306) 62 307) 63 308))), (q_15, .inl (cA_16, 64, .inl (upd f_22 31 4201)))] := hD
  refine lv_dup hx hb d_mLines_init_651 rfl ?_
  refine lv_bipush (v := 32) hx hb d_mLines_init_652 (by decide) ?_
  refine lv_sipush (v := 4202) hx hb d_mLines_init_654 (by decide) ?_
  refine va_iast hx hb hK hP hD hS 2 1 rfl rfl (show ¬ ((32 : Int32) < 0 ∨ 64 ≤ (32 : Int32).toNatClampNeg) by decide) d_mLines_init_657 ?_
  clear hP hD hS
  intro H locs hP hD hS
  rw [show (32 : Int32).toNatClampNeg = 32 by decide] at hP hD
  replace hP : va_P (dC, dI) vcl [(h0, .inr (14, [.ref q_1, .null, .null, .null, .null, .null, .int 0, .null, .null, .null, .long 0, .null, .int 0, .int 0, .int 0, .int 0, .int 0, .int 0, .int 0, .null, .null])), (q_1, .inl (cA_2, 64, .inl (upd (upd (upd f_14 61 306) 62 307) 63 308))), (q_15, .inl (cA_16, 64, .inl (upd (upd f_22 31 4201) 32 4202)))] H := hP
  replace hD : va_D A [(h0, .inr (14, [.ref q_1, .null, .null, .null, .null, .null, .int 0, .null, .null, .null, .long 0, .null, .int 0, .int 0, .int 0, .int 0, .int 0, .int 0, .int 0, .null, .null])), (q_1, .inl (cA_2, 64, .inl (upd (upd (upd f_14 61 306) 62 307) 63 308))), (q_15, .inl (cA_16, 64, .inl (upd (upd f_22 31 4201) 32 4202)))] := hD
  refine lv_dup hx hb d_mLines_init_658 rfl ?_
  refine lv_bipush (v := 33) hx hb d_mLines_init_659 (by decide) ?_
  refine lv_sipush (v := 4203) hx hb d_mLines_init_661 (by decide) ?_
  refine va_iast hx hb hK hP hD hS 2 1 rfl rfl (show ¬ ((33 : Int32) < 0 ∨ 64 ≤ (33 : Int32).toNatClampNeg) by decide) d_mLines_init_664 ?_
  clear hP hD hS
  intro H locs hP hD hS
  rw [show (33 : Int32).toNatClampNeg = 33 by decide] at hP hD
  replace hP : va_P (dC, dI) vcl [(h0, .inr (14, [.ref q_1, .null, .null, .null, .null, .null, .int 0, .null, .null, .null, .long 0, .null, .int 0, .int 0, .int 0, .int 0, .int 0, .int 0, .int 0, .null, .null])), (q_1, .inl (cA_2, 64, .inl (upd (upd (upd f_14 61 306) 62 307) 63 308))), (q_15, .inl (cA_16, 64, .inl (upd (upd (upd f_22 31 4201) 32 4202) 33 4203)))] H := hP
  replace hD : va_D A [(h0, .inr (14, [.ref q_1, .null, .null, .null, .null, .null, .int 0, .null, .null, .null, .long 0, .null, .int 0, .int 0, .int 0, .int 0, .int 0, .int 0, .int 0, .null, .null])), (q_1, .inl (cA_2, 64, .inl (upd (upd (upd f_14 61 306) 62 307) 63 308))), (q_15, .inl (cA_16, 64, .inl (upd (upd (upd f_22 31 4201) 32 4202) 33 4203)))] := hD
  refine lv_dup hx hb d_mLines_init_665 rfl ?_
  refine lv_bipush (v := 34) hx hb d_mLines_init_666 (by decide) ?_
  refine lv_sipush (v := 4306) hx hb d_mLines_init_668 (by decide) ?_
  refine va_iast hx hb hK hP hD hS 2 1 rfl rfl (show ¬ ((34 : Int32) < 0 ∨ 64 ≤ (34 : Int32).toNatClampNeg) by decide) d_mLines_init_671 ?_
  clear hP hD hS
  intro H locs hP hD hS
  rw [show (34 : Int32).toNatClampNeg = 34 by decide] at hP hD
  replace hP : va_P (dC, dI) vcl [(h0, .inr (14, [.ref q_1, .null, .null, .null, .null, .null, .int 0, .null, .null, .null, .long 0, .null, .int 0, .int 0, .int 0, .int 0, .int 0, .int 0, .int 0, .null, .null])), (q_1, .inl (cA_2, 64, .inl (upd (upd (upd f_14 61 306) 62 307) 63 308))), (q_15, .inl (cA_16, 64, .inl (upd (upd (upd (upd f_22 31 4201) 32 4202) 33 4203) 34 4306)))] H := hP
  replace hD : va_D A [(h0, .inr (14, [.ref q_1, .null, .null, .null, .null, .null, .int 0, .null, .null, .null, .long 0, .null, .int 0, .int 0, .int 0, .int 0, .int 0, .int 0, .int 0, .null, .null])), (q_1, .inl (cA_2, 64, .inl (upd (upd (upd f_14 61 306) 62 307) 63 308))), (q_15, .inl (cA_16, 64, .inl (upd (upd (upd (upd f_22 31 4201) 32 4202) 33 4203) 34 4306)))] := hD
  refine lv_dup hx hb d_mLines_init_672 rfl ?_
  refine lv_bipush (v := 35) hx hb d_mLines_init_673 (by decide) ?_
  refine lv_sipush (v := 4307) hx hb d_mLines_init_675 (by decide) ?_
  refine va_iast hx hb hK hP hD hS 2 1 rfl rfl (show ¬ ((35 : Int32) < 0 ∨ 64 ≤ (35 : Int32).toNatClampNeg) by decide) d_mLines_init_678 ?_
  clear hP hD hS
  intro H locs hP hD hS
  rw [show (35 : Int32).toNatClampNeg = 35 by decide] at hP hD
  obtain ⟨f_23, ef_23⟩ : ∃ y : Nat → Int32, y = upd (upd (upd (upd (upd f_22 31 4201) 32 4202) 33 4203) 34 4306) 35 4307 := ⟨_, rfl⟩
  replace hP : va_P (dC, dI) vcl [(h0, .inr (14, [.ref q_1, .null, .null, .null, .null, .null, .int 0, .null, .null, .null, .long 0, .null, .int 0, .int 0, .int 0, .int 0, .int 0, .int 0, .int 0, .null, .null])), (q_1, .inl (cA_2, 64, .inl (upd (upd (upd f_14 61 306) 62 307) 63 308))), (q_15, .inl (cA_16, 64, .inl (upd (upd (upd (upd (upd f_22 31 4201) 32 4202) 33 4203) 34 4306) 35 4307)))] H := hP
  replace hD : va_D A [(h0, .inr (14, [.ref q_1, .null, .null, .null, .null, .null, .int 0, .null, .null, .null, .long 0, .null, .int 0, .int 0, .int 0, .int 0, .int 0, .int 0, .int 0, .null, .null])), (q_1, .inl (cA_2, 64, .inl (upd (upd (upd f_14 61 306) 62 307) 63 308))), (q_15, .inl (cA_16, 64, .inl (upd (upd (upd (upd (upd f_22 31 4201) 32 4202) 33 4203) 34 4306) 35 4307)))] := hD
  rw [← ef_23] at hP hD
  replace hP : va_P (dC, dI) vcl [(h0, .inr (14, [.ref q_1, .null, .null, .null, .null, .null, .int 0, .null, .null, .null, .long 0, .null, .int 0, .int 0, .int 0, .int 0, .int 0, .int 0, .int 0, .null, .null])), (q_1, .inl (cA_2, 64, .inl (upd (upd (upd f_14 61 306) 62 307) 63 308))), (q_15, .inl (cA_16, 64, .inl f_23))] H := hP
  replace hD : va_D A [(h0, .inr (14, [.ref q_1, .null, .null, .null, .null, .null, .int 0, .null, .null, .null, .long 0, .null, .int 0, .int 0, .int 0, .int 0, .int 0, .int 0, .int 0, .null, .null])), (q_1, .inl (cA_2, 64, .inl (upd (upd (upd f_14 61 306) 62 307) 63 308))), (q_15, .inl (cA_16, 64, .inl f_23))] := hD
  refine lv_dup hx hb d_mLines_init_679 rfl ?_
  refine lv_bipush (v := 36) hx hb d_mLines_init_680 (by decide) ?_
  refine lv_sipush (v := 4308) hx hb d_mLines_init_682 (by decide) ?_
  refine va_iast hx hb hK hP hD hS 2 1 rfl rfl (show ¬ ((36 : Int32) < 0 ∨ 64 ≤ (36 : Int32).toNatClampNeg) by decide) d_mLines_init_685 ?_
  clear hP hD hS
  intro H locs hP hD hS
  rw [show (36 : Int32).toNatClampNeg = 36 by decide] at hP hD
  replace hP : va_P (dC, dI) vcl [(h0, .inr (14, [.ref q_1, .null, .null, .null, .null, .null, .int 0, .null, .null, .null, .long 0, .null, .int 0, .int 0, .int 0, .int 0, .int 0, .int 0, .int 0, .null, .null])), (q_1, .inl (cA_2, 64, .inl (upd (upd (upd f_14 61 306) 62 307) 63 308))), (q_15, .inl (cA_16, 64, .inl (upd f_23 36 4308)))] H := hP
  replace hD : va_D A [(h0, .inr (14, [.ref q_1, .null, .null, .null, .null, .null, .int 0, .null, .null, .null, .long 0, .null, .int 0, .int 0, .int 0, .int 0, .int 0, .int 0, .int 0, .null, .null])), (q_1, .inl (cA_2, 64, .inl (upd (upd (upd f_14 61 306) 62 307) 63 308))), (q_15, .inl (cA_16, 64, .inl (upd f_23 36 4308)))] := hD
  refine lv_dup hx hb d_mLines_init_686 rfl ?_
  refine lv_bipush (v := 37) hx hb d_mLines_init_687 (by decide) ?_
  refine lv_sipush (v := 4309) hx hb d_mLines_init_689 (by decide) ?_
  refine va_iast hx hb hK hP hD hS 2 1 rfl rfl (show ¬ ((37 : Int32) < 0 ∨ 64 ≤ (37 : Int32).toNatClampNeg) by decide) d_mLines_init_692 ?_
  clear hP hD hS
  intro H locs hP hD hS
  rw [show (37 : Int32).toNatClampNeg = 37 by decide] at hP hD
  replace hP : va_P (dC, dI) vcl [(h0, .inr (14, [.ref q_1, .null, .null, .null, .null, .null, .int 0, .null, .null, .null, .long 0, .null, .int 0, .int 0, .int 0, .int 0, .int 0, .int 0, .int 0, .null, .null])), (q_1, .inl (cA_2, 64, .inl (upd (upd (upd f_14 61 306) 62 307) 63 308))), (q_15, .inl (cA_16, 64, .inl (upd (upd f_23 36 4308) 37 4309)))] H := hP
  replace hD : va_D A [(h0, .inr (14, [.ref q_1, .null, .null, .null, .null, .null, .int 0, .null, .null, .null, .long 0, .null, .int 0, .int 0, .int 0, .int 0, .int 0, .int 0, .int 0, .null, .null])), (q_1, .inl (cA_2, 64, .inl (upd (upd (upd f_14 61 306) 62 307) 63 308))), (q_15, .inl (cA_16, 64, .inl (upd (upd f_23 36 4308) 37 4309)))] := hD
  refine lv_dup hx hb d_mLines_init_693 rfl ?_
  refine lv_bipush (v := 38) hx hb d_mLines_init_694 (by decide) ?_
  refine lv_sipush (v := 4310) hx hb d_mLines_init_696 (by decide) ?_
  refine va_iast hx hb hK hP hD hS 2 1 rfl rfl (show ¬ ((38 : Int32) < 0 ∨ 64 ≤ (38 : Int32).toNatClampNeg) by decide) d_mLines_init_699 ?_
  clear hP hD hS
  intro H locs hP hD hS
  rw [show (38 : Int32).toNatClampNeg = 38 by decide] at hP hD
  replace hP : va_P (dC, dI) vcl [(h0, .inr (14, [.ref q_1, .null, .null, .null, .null, .null, .int 0, .null, .null, .null, .long 0, .null, .int 0, .int 0, .int 0, .int 0, .int 0, .int 0, .int 0, .null, .null])), (q_1, .inl (cA_2, 64, .inl (upd (upd (upd f_14 61 306) 62 307) 63 308))), (q_15, .inl (cA_16, 64, .inl (upd (upd (upd f_23 36 4308) 37 4309) 38 4310)))] H := hP
  replace hD : va_D A [(h0, .inr (14, [.ref q_1, .null, .null, .null, .null, .null, .int 0, .null, .null, .null, .long 0, .null, .int 0, .int 0, .int 0, .int 0, .int 0, .int 0, .int 0, .null, .null])), (q_1, .inl (cA_2, 64, .inl (upd (upd (upd f_14 61 306) 62 307) 63 308))), (q_15, .inl (cA_16, 64, .inl (upd (upd (upd f_23 36 4308) 37 4309) 38 4310)))] := hD
  refine lv_dup hx hb d_mLines_init_700 rfl ?_
  refine lv_bipush (v := 39) hx hb d_mLines_init_701 (by decide) ?_
  refine lv_sipush (v := 4311) hx hb d_mLines_init_703 (by decide) ?_
  refine va_iast hx hb hK hP hD hS 2 1 rfl rfl (show ¬ ((39 : Int32) < 0 ∨ 64 ≤ (39 : Int32).toNatClampNeg) by decide) d_mLines_init_706 ?_
  clear hP hD hS
  intro H locs hP hD hS
  rw [show (39 : Int32).toNatClampNeg = 39 by decide] at hP hD
  replace hP : va_P (dC, dI) vcl [(h0, .inr (14, [.ref q_1, .null, .null, .null, .null, .null, .int 0, .null, .null, .null, .long 0, .null, .int 0, .int 0, .int 0, .int 0, .int 0, .int 0, .int 0, .null, .null])), (q_1, .inl (cA_2, 64, .inl (upd (upd (upd f_14 61 306) 62 307) 63 308))), (q_15, .inl (cA_16, 64, .inl (upd (upd (upd (upd f_23 36 4308) 37 4309) 38 4310) 39 4311)))] H := hP
  replace hD : va_D A [(h0, .inr (14, [.ref q_1, .null, .null, .null, .null, .null, .int 0, .null, .null, .null, .long 0, .null, .int 0, .int 0, .int 0, .int 0, .int 0, .int 0, .int 0, .null, .null])), (q_1, .inl (cA_2, 64, .inl (upd (upd (upd f_14 61 306) 62 307) 63 308))), (q_15, .inl (cA_16, 64, .inl (upd (upd (upd (upd f_23 36 4308) 37 4309) 38 4310) 39 4311)))] := hD
  refine lv_dup hx hb d_mLines_init_707 rfl ?_
  refine lv_bipush (v := 40) hx hb d_mLines_init_708 (by decide) ?_
  refine lv_sipush (v := 4204) hx hb d_mLines_init_710 (by decide) ?_
  refine va_iast hx hb hK hP hD hS 2 1 rfl rfl (show ¬ ((40 : Int32) < 0 ∨ 64 ≤ (40 : Int32).toNatClampNeg) by decide) d_mLines_init_713 ?_
  clear hP hD hS
  intro H locs hP hD hS
  rw [show (40 : Int32).toNatClampNeg = 40 by decide] at hP hD
  obtain ⟨f_24, ef_24⟩ : ∃ y : Nat → Int32, y = upd (upd (upd (upd (upd f_23 36 4308) 37 4309) 38 4310) 39 4311) 40 4204 := ⟨_, rfl⟩
  replace hP : va_P (dC, dI) vcl [(h0, .inr (14, [.ref q_1, .null, .null, .null, .null, .null, .int 0, .null, .null, .null, .long 0, .null, .int 0, .int 0, .int 0, .int 0, .int 0, .int 0, .int 0, .null, .null])), (q_1, .inl (cA_2, 64, .inl (upd (upd (upd f_14 61 306) 62 307) 63 308))), (q_15, .inl (cA_16, 64, .inl (upd (upd (upd (upd (upd f_23 36 4308) 37 4309) 38 4310) 39 4311) 40 4204)))] H := hP
  replace hD : va_D A [(h0, .inr (14, [.ref q_1, .null, .null, .null, .null, .null, .int 0, .null, .null, .null, .long 0, .null, .int 0, .int 0, .int 0, .int 0, .int 0, .int 0, .int 0, .null, .null])), (q_1, .inl (cA_2, 64, .inl (upd (upd (upd f_14 61 306) 62 307) 63 308))), (q_15, .inl (cA_16, 64, .inl (upd (upd (upd (upd (upd f_23 36 4308) 37 4309) 38 4310) 39 4311) 40 4204)))] := hD
  rw [← ef_24] at hP hD
  replace hP : va_P (dC, dI) vcl [(h0, .inr (14, [.ref q_1, .null, .null, .null, .null, .null, .int 0, .null, .null, .null, .long 0, .null, .int 0, .int 0, .int 0, .int 0, .int 0, .int 0, .int 0, .null, .null])), (q_1, .inl (cA_2, 64, .inl (upd (upd (upd f_14 61 306) 62 307) 63 308))), (q_15, .inl (cA_16, 64, .inl f_24))] H := hP
  replace hD : va_D A [(h0, .inr (14, [.ref q_1, .null, .null, .null, .null, .null, .int 0, .null, .null, .null, .long 0, .null, .int 0, .int 0, .int 0, .int 0, .int 0, .int 0, .int 0, .null, .null])), (q_1, .inl (cA_2, 64, .inl (upd (upd (upd f_14 61 306) 62 307) 63 308))), (q_15, .inl (cA_16, 64, .inl f_24))] := hD
  refine lv_dup hx hb d_mLines_init_714 rfl ?_
  refine lv_bipush (v := 41) hx hb d_mLines_init_715 (by decide) ?_
  refine lv_sipush (v := 4205) hx hb d_mLines_init_717 (by decide) ?_
  refine va_iast hx hb hK hP hD hS 2 1 rfl rfl (show ¬ ((41 : Int32) < 0 ∨ 64 ≤ (41 : Int32).toNatClampNeg) by decide) d_mLines_init_720 ?_
  clear hP hD hS
  intro H locs hP hD hS
  rw [show (41 : Int32).toNatClampNeg = 41 by decide] at hP hD
  replace hP : va_P (dC, dI) vcl [(h0, .inr (14, [.ref q_1, .null, .null, .null, .null, .null, .int 0, .null, .null, .null, .long 0, .null, .int 0, .int 0, .int 0, .int 0, .int 0, .int 0, .int 0, .null, .null])), (q_1, .inl (cA_2, 64, .inl (upd (upd (upd f_14 61 306) 62 307) 63 308))), (q_15, .inl (cA_16, 64, .inl (upd f_24 41 4205)))] H := hP
  replace hD : va_D A [(h0, .inr (14, [.ref q_1, .null, .null, .null, .null, .null, .int 0, .null, .null, .null, .long 0, .null, .int 0, .int 0, .int 0, .int 0, .int 0, .int 0, .int 0, .null, .null])), (q_1, .inl (cA_2, 64, .inl (upd (upd (upd f_14 61 306) 62 307) 63 308))), (q_15, .inl (cA_16, 64, .inl (upd f_24 41 4205)))] := hD
  refine lv_dup hx hb d_mLines_init_721 rfl ?_
  refine lv_bipush (v := 42) hx hb d_mLines_init_722 (by decide) ?_
  refine lv_sipush (v := 4314) hx hb d_mLines_init_724 (by decide) ?_
  refine va_iast hx hb hK hP hD hS 2 1 rfl rfl (show ¬ ((42 : Int32) < 0 ∨ 64 ≤ (42 : Int32).toNatClampNeg) by decide) d_mLines_init_727 ?_
  clear hP hD hS
  intro H locs hP hD hS
  rw [show (42 : Int32).toNatClampNeg = 42 by decide] at hP hD
  replace hP : va_P (dC, dI) vcl [(h0, .inr (14, [.ref q_1, .null, .null, .null, .null, .null, .int 0, .null, .null, .null, .long 0, .null, .int 0, .int 0, .int 0, .int 0, .int 0, .int 0, .int 0, .null, .null])), (q_1, .inl (cA_2, 64, .inl (upd (upd (upd f_14 61 306) 62 307) 63 308))), (q_15, .inl (cA_16, 64, .inl (upd (upd f_24 41 4205) 42 4314)))] H := hP
  replace hD : va_D A [(h0, .inr (14, [.ref q_1, .null, .null, .null, .null, .null, .int 0, .null, .null, .null, .long 0, .null, .int 0, .int 0, .int 0, .int 0, .int 0, .int 0, .int 0, .null, .null])), (q_1, .inl (cA_2, 64, .inl (upd (upd (upd f_14 61 306) 62 307) 63 308))), (q_15, .inl (cA_16, 64, .inl (upd (upd f_24 41 4205) 42 4314)))] := hD
  refine lv_dup hx hb d_mLines_init_728 rfl ?_
  refine lv_bipush (v := 43) hx hb d_mLines_init_729 (by decide) ?_
  refine lv_sipush (v := 4315) hx hb d_mLines_init_731 (by decide) ?_
  refine va_iast hx hb hK hP hD hS 2 1 rfl rfl (show ¬ ((43 : Int32) < 0 ∨ 64 ≤ (43 : Int32).toNatClampNeg) by decide) d_mLines_init_734 ?_
  clear hP hD hS
  intro H locs hP hD hS
  rw [show (43 : Int32).toNatClampNeg = 43 by decide] at hP hD
  replace hP : va_P (dC, dI) vcl [(h0, .inr (14, [.ref q_1, .null, .null, .null, .null, .null, .int 0, .null, .null, .null, .long 0, .null, .int 0, .int 0, .int 0, .int 0, .int 0, .int 0, .int 0, .null, .null])), (q_1, .inl (cA_2, 64, .inl (upd (upd (upd f_14 61 306) 62 307) 63 308))), (q_15, .inl (cA_16, 64, .inl (upd (upd (upd f_24 41 4205) 42 4314) 43 4315)))] H := hP
  replace hD : va_D A [(h0, .inr (14, [.ref q_1, .null, .null, .null, .null, .null, .int 0, .null, .null, .null, .long 0, .null, .int 0, .int 0, .int 0, .int 0, .int 0, .int 0, .int 0, .null, .null])), (q_1, .inl (cA_2, 64, .inl (upd (upd (upd f_14 61 306) 62 307) 63 308))), (q_15, .inl (cA_16, 64, .inl (upd (upd (upd f_24 41 4205) 42 4314) 43 4315)))] := hD
  refine lv_dup hx hb d_mLines_init_735 rfl ?_
  refine lv_bipush (v := 44) hx hb d_mLines_init_736 (by decide) ?_
  refine lv_sipush (v := 4180) hx hb d_mLines_init_738 (by decide) ?_
  refine va_iast hx hb hK hP hD hS 2 1 rfl rfl (show ¬ ((44 : Int32) < 0 ∨ 64 ≤ (44 : Int32).toNatClampNeg) by decide) d_mLines_init_741 ?_
  clear hP hD hS
  intro H locs hP hD hS
  rw [show (44 : Int32).toNatClampNeg = 44 by decide] at hP hD
  replace hP : va_P (dC, dI) vcl [(h0, .inr (14, [.ref q_1, .null, .null, .null, .null, .null, .int 0, .null, .null, .null, .long 0, .null, .int 0, .int 0, .int 0, .int 0, .int 0, .int 0, .int 0, .null, .null])), (q_1, .inl (cA_2, 64, .inl (upd (upd (upd f_14 61 306) 62 307) 63 308))), (q_15, .inl (cA_16, 64, .inl (upd (upd (upd (upd f_24 41 4205) 42 4314) 43 4315) 44 4180)))] H := hP
  replace hD : va_D A [(h0, .inr (14, [.ref q_1, .null, .null, .null, .null, .null, .int 0, .null, .null, .null, .long 0, .null, .int 0, .int 0, .int 0, .int 0, .int 0, .int 0, .int 0, .null, .null])), (q_1, .inl (cA_2, 64, .inl (upd (upd (upd f_14 61 306) 62 307) 63 308))), (q_15, .inl (cA_16, 64, .inl (upd (upd (upd (upd f_24 41 4205) 42 4314) 43 4315) 44 4180)))] := hD
  refine lv_dup hx hb d_mLines_init_742 rfl ?_
  refine lv_bipush (v := 45) hx hb d_mLines_init_743 (by decide) ?_
  refine lv_sipush (v := 4181) hx hb d_mLines_init_745 (by decide) ?_
  refine va_iast hx hb hK hP hD hS 2 1 rfl rfl (show ¬ ((45 : Int32) < 0 ∨ 64 ≤ (45 : Int32).toNatClampNeg) by decide) d_mLines_init_748 ?_
  clear hP hD hS
  intro H locs hP hD hS
  rw [show (45 : Int32).toNatClampNeg = 45 by decide] at hP hD
  obtain ⟨f_25, ef_25⟩ : ∃ y : Nat → Int32, y = upd (upd (upd (upd (upd f_24 41 4205) 42 4314) 43 4315) 44 4180) 45 4181 := ⟨_, rfl⟩
  replace hP : va_P (dC, dI) vcl [(h0, .inr (14, [.ref q_1, .null, .null, .null, .null, .null, .int 0, .null, .null, .null, .long 0, .null, .int 0, .int 0, .int 0, .int 0, .int 0, .int 0, .int 0, .null, .null])), (q_1, .inl (cA_2, 64, .inl (upd (upd (upd f_14 61 306) 62 307) 63 308))), (q_15, .inl (cA_16, 64, .inl (upd (upd (upd (upd (upd f_24 41 4205) 42 4314) 43 4315) 44 4180) 45 4181)))] H := hP
  replace hD : va_D A [(h0, .inr (14, [.ref q_1, .null, .null, .null, .null, .null, .int 0, .null, .null, .null, .long 0, .null, .int 0, .int 0, .int 0, .int 0, .int 0, .int 0, .int 0, .null, .null])), (q_1, .inl (cA_2, 64, .inl (upd (upd (upd f_14 61 306) 62 307) 63 308))), (q_15, .inl (cA_16, 64, .inl (upd (upd (upd (upd (upd f_24 41 4205) 42 4314) 43 4315) 44 4180) 45 4181)))] := hD
  rw [← ef_25] at hP hD
  replace hP : va_P (dC, dI) vcl [(h0, .inr (14, [.ref q_1, .null, .null, .null, .null, .null, .int 0, .null, .null, .null, .long 0, .null, .int 0, .int 0, .int 0, .int 0, .int 0, .int 0, .int 0, .null, .null])), (q_1, .inl (cA_2, 64, .inl (upd (upd (upd f_14 61 306) 62 307) 63 308))), (q_15, .inl (cA_16, 64, .inl f_25))] H := hP
  replace hD : va_D A [(h0, .inr (14, [.ref q_1, .null, .null, .null, .null, .null, .int 0, .null, .null, .null, .long 0, .null, .int 0, .int 0, .int 0, .int 0, .int 0, .int 0, .int 0, .null, .null])), (q_1, .inl (cA_2, 64, .inl (upd (upd (upd f_14 61 306) 62 307) 63 308))), (q_15, .inl (cA_16, 64, .inl f_25))] := hD
  refine lv_dup hx hb d_mLines_init_749 rfl ?_
  refine lv_bipush (v := 46) hx hb d_mLines_init_750 (by decide) ?_
  refine lv_sipush (v := 4182) hx hb d_mLines_init_752 (by decide) ?_
  refine va_iast hx hb hK hP hD hS 2 1 rfl rfl (show ¬ ((46 : Int32) < 0 ∨ 64 ≤ (46 : Int32).toNatClampNeg) by decide) d_mLines_init_755 ?_
  clear hP hD hS
  intro H locs hP hD hS
  rw [show (46 : Int32).toNatClampNeg = 46 by decide] at hP hD
  replace hP : va_P (dC, dI) vcl [(h0, .inr (14, [.ref q_1, .null, .null, .null, .null, .null, .int 0, .null, .null, .null, .long 0, .null, .int 0, .int 0, .int 0, .int 0, .int 0, .int 0, .int 0, .null, .null])), (q_1, .inl (cA_2, 64, .inl (upd (upd (upd f_14 61 306) 62 307) 63 308))), (q_15, .inl (cA_16, 64, .inl (upd f_25 46 4182)))] H := hP
  replace hD : va_D A [(h0, .inr (14, [.ref q_1, .null, .null, .null, .null, .null, .int 0, .null, .null, .null, .long 0, .null, .int 0, .int 0, .int 0, .int 0, .int 0, .int 0, .int 0, .null, .null])), (q_1, .inl (cA_2, 64, .inl (upd (upd (upd f_14 61 306) 62 307) 63 308))), (q_15, .inl (cA_16, 64, .inl (upd f_25 46 4182)))] := hD
  refine lv_dup hx hb d_mLines_init_756 rfl ?_
  refine lv_bipush (v := 47) hx hb d_mLines_init_757 (by decide) ?_
  refine lv_sipush (v := 4183) hx hb d_mLines_init_759 (by decide) ?_
  refine va_iast hx hb hK hP hD hS 2 1 rfl rfl (show ¬ ((47 : Int32) < 0 ∨ 64 ≤ (47 : Int32).toNatClampNeg) by decide) d_mLines_init_762 ?_
  clear hP hD hS
  intro H locs hP hD hS
  rw [show (47 : Int32).toNatClampNeg = 47 by decide] at hP hD
  replace hP : va_P (dC, dI) vcl [(h0, .inr (14, [.ref q_1, .null, .null, .null, .null, .null, .int 0, .null, .null, .null, .long 0, .null, .int 0, .int 0, .int 0, .int 0, .int 0, .int 0, .int 0, .null, .null])), (q_1, .inl (cA_2, 64, .inl (upd (upd (upd f_14 61 306) 62 307) 63 308))), (q_15, .inl (cA_16, 64, .inl (upd (upd f_25 46 4182) 47 4183)))] H := hP
  replace hD : va_D A [(h0, .inr (14, [.ref q_1, .null, .null, .null, .null, .null, .int 0, .null, .null, .null, .long 0, .null, .int 0, .int 0, .int 0, .int 0, .int 0, .int 0, .int 0, .null, .null])), (q_1, .inl (cA_2, 64, .inl (upd (upd (upd f_14 61 306) 62 307) 63 308))), (q_15, .inl (cA_16, 64, .inl (upd (upd f_25 46 4182) 47 4183)))] := hD
  refine lv_dup hx hb d_mLines_init_763 rfl ?_
  refine lv_bipush (v := 48) hx hb d_mLines_init_764 (by decide) ?_
  refine lv_sipush (v := 4196) hx hb d_mLines_init_766 (by decide) ?_
  refine va_iast hx hb hK hP hD hS 2 1 rfl rfl (show ¬ ((48 : Int32) < 0 ∨ 64 ≤ (48 : Int32).toNatClampNeg) by decide) d_mLines_init_769 ?_
  clear hP hD hS
  intro H locs hP hD hS
  rw [show (48 : Int32).toNatClampNeg = 48 by decide] at hP hD
  replace hP : va_P (dC, dI) vcl [(h0, .inr (14, [.ref q_1, .null, .null, .null, .null, .null, .int 0, .null, .null, .null, .long 0, .null, .int 0, .int 0, .int 0, .int 0, .int 0, .int 0, .int 0, .null, .null])), (q_1, .inl (cA_2, 64, .inl (upd (upd (upd f_14 61 306) 62 307) 63 308))), (q_15, .inl (cA_16, 64, .inl (upd (upd (upd f_25 46 4182) 47 4183) 48 4196)))] H := hP
  replace hD : va_D A [(h0, .inr (14, [.ref q_1, .null, .null, .null, .null, .null, .int 0, .null, .null, .null, .long 0, .null, .int 0, .int 0, .int 0, .int 0, .int 0, .int 0, .int 0, .null, .null])), (q_1, .inl (cA_2, 64, .inl (upd (upd (upd f_14 61 306) 62 307) 63 308))), (q_15, .inl (cA_16, 64, .inl (upd (upd (upd f_25 46 4182) 47 4183) 48 4196)))] := hD
  refine lv_dup hx hb d_mLines_init_770 rfl ?_
  refine lv_bipush (v := 49) hx hb d_mLines_init_771 (by decide) ?_
  refine lv_sipush (v := 4197) hx hb d_mLines_init_773 (by decide) ?_
  refine va_iast hx hb hK hP hD hS 2 1 rfl rfl (show ¬ ((49 : Int32) < 0 ∨ 64 ≤ (49 : Int32).toNatClampNeg) by decide) d_mLines_init_776 ?_
  clear hP hD hS
  intro H locs hP hD hS
  rw [show (49 : Int32).toNatClampNeg = 49 by decide] at hP hD
  replace hP : va_P (dC, dI) vcl [(h0, .inr (14, [.ref q_1, .null, .null, .null, .null, .null, .int 0, .null, .null, .null, .long 0, .null, .int 0, .int 0, .int 0, .int 0, .int 0, .int 0, .int 0, .null, .null])), (q_1, .inl (cA_2, 64, .inl (upd (upd (upd f_14 61 306) 62 307) 63 308))), (q_15, .inl (cA_16, 64, .inl (upd (upd (upd (upd f_25 46 4182) 47 4183) 48 4196) 49 4197)))] H := hP
  replace hD : va_D A [(h0, .inr (14, [.ref q_1, .null, .null, .null, .null, .null, .int 0, .null, .null, .null, .long 0, .null, .int 0, .int 0, .int 0, .int 0, .int 0, .int 0, .int 0, .null, .null])), (q_1, .inl (cA_2, 64, .inl (upd (upd (upd f_14 61 306) 62 307) 63 308))), (q_15, .inl (cA_16, 64, .inl (upd (upd (upd (upd f_25 46 4182) 47 4183) 48 4196) 49 4197)))] := hD
  refine lv_dup hx hb d_mLines_init_777 rfl ?_
  refine lv_bipush (v := 50) hx hb d_mLines_init_778 (by decide) ?_
  refine lv_sipush (v := 4178) hx hb d_mLines_init_780 (by decide) ?_
  refine va_iast hx hb hK hP hD hS 2 1 rfl rfl (show ¬ ((50 : Int32) < 0 ∨ 64 ≤ (50 : Int32).toNatClampNeg) by decide) d_mLines_init_783 ?_
  clear hP hD hS
  intro H locs hP hD hS
  rw [show (50 : Int32).toNatClampNeg = 50 by decide] at hP hD
  obtain ⟨f_26, ef_26⟩ : ∃ y : Nat → Int32, y = upd (upd (upd (upd (upd f_25 46 4182) 47 4183) 48 4196) 49 4197) 50 4178 := ⟨_, rfl⟩
  replace hP : va_P (dC, dI) vcl [(h0, .inr (14, [.ref q_1, .null, .null, .null, .null, .null, .int 0, .null, .null, .null, .long 0, .null, .int 0, .int 0, .int 0, .int 0, .int 0, .int 0, .int 0, .null, .null])), (q_1, .inl (cA_2, 64, .inl (upd (upd (upd f_14 61 306) 62 307) 63 308))), (q_15, .inl (cA_16, 64, .inl (upd (upd (upd (upd (upd f_25 46 4182) 47 4183) 48 4196) 49 4197) 50 4178)))] H := hP
  replace hD : va_D A [(h0, .inr (14, [.ref q_1, .null, .null, .null, .null, .null, .int 0, .null, .null, .null, .long 0, .null, .int 0, .int 0, .int 0, .int 0, .int 0, .int 0, .int 0, .null, .null])), (q_1, .inl (cA_2, 64, .inl (upd (upd (upd f_14 61 306) 62 307) 63 308))), (q_15, .inl (cA_16, 64, .inl (upd (upd (upd (upd (upd f_25 46 4182) 47 4183) 48 4196) 49 4197) 50 4178)))] := hD
  rw [← ef_26] at hP hD
  replace hP : va_P (dC, dI) vcl [(h0, .inr (14, [.ref q_1, .null, .null, .null, .null, .null, .int 0, .null, .null, .null, .long 0, .null, .int 0, .int 0, .int 0, .int 0, .int 0, .int 0, .int 0, .null, .null])), (q_1, .inl (cA_2, 64, .inl (upd (upd (upd f_14 61 306) 62 307) 63 308))), (q_15, .inl (cA_16, 64, .inl f_26))] H := hP
  replace hD : va_D A [(h0, .inr (14, [.ref q_1, .null, .null, .null, .null, .null, .int 0, .null, .null, .null, .long 0, .null, .int 0, .int 0, .int 0, .int 0, .int 0, .int 0, .int 0, .null, .null])), (q_1, .inl (cA_2, 64, .inl (upd (upd (upd f_14 61 306) 62 307) 63 308))), (q_15, .inl (cA_16, 64, .inl f_26))] := hD
  refine lv_dup hx hb d_mLines_init_784 rfl ?_
  refine lv_bipush (v := 51) hx hb d_mLines_init_785 (by decide) ?_
  refine lv_sipush (v := 4179) hx hb d_mLines_init_787 (by decide) ?_
  refine va_iast hx hb hK hP hD hS 2 1 rfl rfl (show ¬ ((51 : Int32) < 0 ∨ 64 ≤ (51 : Int32).toNatClampNeg) by decide) d_mLines_init_790 ?_
  clear hP hD hS
  intro H locs hP hD hS
  rw [show (51 : Int32).toNatClampNeg = 51 by decide] at hP hD
  replace hP : va_P (dC, dI) vcl [(h0, .inr (14, [.ref q_1, .null, .null, .null, .null, .null, .int 0, .null, .null, .null, .long 0, .null, .int 0, .int 0, .int 0, .int 0, .int 0, .int 0, .int 0, .null, .null])), (q_1, .inl (cA_2, 64, .inl (upd (upd (upd f_14 61 306) 62 307) 63 308))), (q_15, .inl (cA_16, 64, .inl (upd f_26 51 4179)))] H := hP
  replace hD : va_D A [(h0, .inr (14, [.ref q_1, .null, .null, .null, .null, .null, .int 0, .null, .null, .null, .long 0, .null, .int 0, .int 0, .int 0, .int 0, .int 0, .int 0, .int 0, .null, .null])), (q_1, .inl (cA_2, 64, .inl (upd (upd (upd f_14 61 306) 62 307) 63 308))), (q_15, .inl (cA_16, 64, .inl (upd f_26 51 4179)))] := hD
  refine lv_dup hx hb d_mLines_init_791 rfl ?_
  refine lv_bipush (v := 52) hx hb d_mLines_init_792 (by decide) ?_
  refine lv_sipush (v := 4132) hx hb d_mLines_init_794 (by decide) ?_
  refine va_iast hx hb hK hP hD hS 2 1 rfl rfl (show ¬ ((52 : Int32) < 0 ∨ 64 ≤ (52 : Int32).toNatClampNeg) by decide) d_mLines_init_797 ?_
  clear hP hD hS
  intro H locs hP hD hS
  rw [show (52 : Int32).toNatClampNeg = 52 by decide] at hP hD
  replace hP : va_P (dC, dI) vcl [(h0, .inr (14, [.ref q_1, .null, .null, .null, .null, .null, .int 0, .null, .null, .null, .long 0, .null, .int 0, .int 0, .int 0, .int 0, .int 0, .int 0, .int 0, .null, .null])), (q_1, .inl (cA_2, 64, .inl (upd (upd (upd f_14 61 306) 62 307) 63 308))), (q_15, .inl (cA_16, 64, .inl (upd (upd f_26 51 4179) 52 4132)))] H := hP
  replace hD : va_D A [(h0, .inr (14, [.ref q_1, .null, .null, .null, .null, .null, .int 0, .null, .null, .null, .long 0, .null, .int 0, .int 0, .int 0, .int 0, .int 0, .int 0, .int 0, .null, .null])), (q_1, .inl (cA_2, 64, .inl (upd (upd (upd f_14 61 306) 62 307) 63 308))), (q_15, .inl (cA_16, 64, .inl (upd (upd f_26 51 4179) 52 4132)))] := hD
  refine lv_dup hx hb d_mLines_init_798 rfl ?_
  refine lv_bipush (v := 53) hx hb d_mLines_init_799 (by decide) ?_
  refine lv_sipush (v := 4151) hx hb d_mLines_init_801 (by decide) ?_
  refine va_iast hx hb hK hP hD hS 2 1 rfl rfl (show ¬ ((53 : Int32) < 0 ∨ 64 ≤ (53 : Int32).toNatClampNeg) by decide) d_mLines_init_804 ?_
  clear hP hD hS
  intro H locs hP hD hS
  rw [show (53 : Int32).toNatClampNeg = 53 by decide] at hP hD
  replace hP : va_P (dC, dI) vcl [(h0, .inr (14, [.ref q_1, .null, .null, .null, .null, .null, .int 0, .null, .null, .null, .long 0, .null, .int 0, .int 0, .int 0, .int 0, .int 0, .int 0, .int 0, .null, .null])), (q_1, .inl (cA_2, 64, .inl (upd (upd (upd f_14 61 306) 62 307) 63 308))), (q_15, .inl (cA_16, 64, .inl (upd (upd (upd f_26 51 4179) 52 4132) 53 4151)))] H := hP
  replace hD : va_D A [(h0, .inr (14, [.ref q_1, .null, .null, .null, .null, .null, .int 0, .null, .null, .null, .long 0, .null, .int 0, .int 0, .int 0, .int 0, .int 0, .int 0, .int 0, .null, .null])), (q_1, .inl (cA_2, 64, .inl (upd (upd (upd f_14 61 306) 62 307) 63 308))), (q_15, .inl (cA_16, 64, .inl (upd (upd (upd f_26 51 4179) 52 4132) 53 4151)))] := hD
  refine lv_dup hx hb d_mLines_init_805 rfl ?_
  refine lv_bipush (v := 54) hx hb d_mLines_init_806 (by decide) ?_
  refine lv_sipush (v := 4152) hx hb d_mLines_init_808 (by decide) ?_
  refine va_iast hx hb hK hP hD hS 2 1 rfl rfl (show ¬ ((54 : Int32) < 0 ∨ 64 ≤ (54 : Int32).toNatClampNeg) by decide) d_mLines_init_811 ?_
  clear hP hD hS
  intro H locs hP hD hS
  rw [show (54 : Int32).toNatClampNeg = 54 by decide] at hP hD
  replace hP : va_P (dC, dI) vcl [(h0, .inr (14, [.ref q_1, .null, .null, .null, .null, .null, .int 0, .null, .null, .null, .long 0, .null, .int 0, .int 0, .int 0, .int 0, .int 0, .int 0, .int 0, .null, .null])), (q_1, .inl (cA_2, 64, .inl (upd (upd (upd f_14 61 306) 62 307) 63 308))), (q_15, .inl (cA_16, 64, .inl (upd (upd (upd (upd f_26 51 4179) 52 4132) 53 4151) 54 4152)))] H := hP
  replace hD : va_D A [(h0, .inr (14, [.ref q_1, .null, .null, .null, .null, .null, .int 0, .null, .null, .null, .long 0, .null, .int 0, .int 0, .int 0, .int 0, .int 0, .int 0, .int 0, .null, .null])), (q_1, .inl (cA_2, 64, .inl (upd (upd (upd f_14 61 306) 62 307) 63 308))), (q_15, .inl (cA_16, 64, .inl (upd (upd (upd (upd f_26 51 4179) 52 4132) 53 4151) 54 4152)))] := hD
  refine lv_dup hx hb d_mLines_init_812 rfl ?_
  refine lv_bipush (v := 55) hx hb d_mLines_init_813 (by decide) ?_
  refine lv_sipush (v := 4135) hx hb d_mLines_init_815 (by decide) ?_
  refine va_iast hx hb hK hP hD hS 2 1 rfl rfl (show ¬ ((55 : Int32) < 0 ∨ 64 ≤ (55 : Int32).toNatClampNeg) by decide) d_mLines_init_818 ?_
  clear hP hD hS
  intro H locs hP hD hS
  rw [show (55 : Int32).toNatClampNeg = 55 by decide] at hP hD
  obtain ⟨f_27, ef_27⟩ : ∃ y : Nat → Int32, y = upd (upd (upd (upd (upd f_26 51 4179) 52 4132) 53 4151) 54 4152) 55 4135 := ⟨_, rfl⟩
  replace hP : va_P (dC, dI) vcl [(h0, .inr (14, [.ref q_1, .null, .null, .null, .null, .null, .int 0, .null, .null, .null, .long 0, .null, .int 0, .int 0, .int 0, .int 0, .int 0, .int 0, .int 0, .null, .null])), (q_1, .inl (cA_2, 64, .inl (upd (upd (upd f_14 61 306) 62 307) 63 308))), (q_15, .inl (cA_16, 64, .inl (upd (upd (upd (upd (upd f_26 51 4179) 52 4132) 53 4151) 54 4152) 55 4135)))] H := hP
  replace hD : va_D A [(h0, .inr (14, [.ref q_1, .null, .null, .null, .null, .null, .int 0, .null, .null, .null, .long 0, .null, .int 0, .int 0, .int 0, .int 0, .int 0, .int 0, .int 0, .null, .null])), (q_1, .inl (cA_2, 64, .inl (upd (upd (upd f_14 61 306) 62 307) 63 308))), (q_15, .inl (cA_16, 64, .inl (upd (upd (upd (upd (upd f_26 51 4179) 52 4132) 53 4151) 54 4152) 55 4135)))] := hD
  rw [← ef_27] at hP hD
  replace hP : va_P (dC, dI) vcl [(h0, .inr (14, [.ref q_1, .null, .null, .null, .null, .null, .int 0, .null, .null, .null, .long 0, .null, .int 0, .int 0, .int 0, .int 0, .int 0, .int 0, .int 0, .null, .null])), (q_1, .inl (cA_2, 64, .inl (upd (upd (upd f_14 61 306) 62 307) 63 308))), (q_15, .inl (cA_16, 64, .inl f_27))] H := hP
  replace hD : va_D A [(h0, .inr (14, [.ref q_1, .null, .null, .null, .null, .null, .int 0, .null, .null, .null, .long 0, .null, .int 0, .int 0, .int 0, .int 0, .int 0, .int 0, .int 0, .null, .null])), (q_1, .inl (cA_2, 64, .inl (upd (upd (upd f_14 61 306) 62 307) 63 308))), (q_15, .inl (cA_16, 64, .inl f_27))] := hD
  refine lv_dup hx hb d_mLines_init_819 rfl ?_
  refine lv_bipush (v := 56) hx hb d_mLines_init_820 (by decide) ?_
  refine lv_sipush (v := 4136) hx hb d_mLines_init_822 (by decide) ?_
  refine va_iast hx hb hK hP hD hS 2 1 rfl rfl (show ¬ ((56 : Int32) < 0 ∨ 64 ≤ (56 : Int32).toNatClampNeg) by decide) d_mLines_init_825 ?_
  clear hP hD hS
  intro H locs hP hD hS
  rw [show (56 : Int32).toNatClampNeg = 56 by decide] at hP hD
  replace hP : va_P (dC, dI) vcl [(h0, .inr (14, [.ref q_1, .null, .null, .null, .null, .null, .int 0, .null, .null, .null, .long 0, .null, .int 0, .int 0, .int 0, .int 0, .int 0, .int 0, .int 0, .null, .null])), (q_1, .inl (cA_2, 64, .inl (upd (upd (upd f_14 61 306) 62 307) 63 308))), (q_15, .inl (cA_16, 64, .inl (upd f_27 56 4136)))] H := hP
  replace hD : va_D A [(h0, .inr (14, [.ref q_1, .null, .null, .null, .null, .null, .int 0, .null, .null, .null, .long 0, .null, .int 0, .int 0, .int 0, .int 0, .int 0, .int 0, .int 0, .null, .null])), (q_1, .inl (cA_2, 64, .inl (upd (upd (upd f_14 61 306) 62 307) 63 308))), (q_15, .inl (cA_16, 64, .inl (upd f_27 56 4136)))] := hD
  refine lv_dup hx hb d_mLines_init_826 rfl ?_
  refine lv_bipush (v := 57) hx hb d_mLines_init_827 (by decide) ?_
  refine lv_sipush (v := 4184) hx hb d_mLines_init_829 (by decide) ?_
  refine va_iast hx hb hK hP hD hS 2 1 rfl rfl (show ¬ ((57 : Int32) < 0 ∨ 64 ≤ (57 : Int32).toNatClampNeg) by decide) d_mLines_init_832 ?_
  clear hP hD hS
  intro H locs hP hD hS
  rw [show (57 : Int32).toNatClampNeg = 57 by decide] at hP hD
  replace hP : va_P (dC, dI) vcl [(h0, .inr (14, [.ref q_1, .null, .null, .null, .null, .null, .int 0, .null, .null, .null, .long 0, .null, .int 0, .int 0, .int 0, .int 0, .int 0, .int 0, .int 0, .null, .null])), (q_1, .inl (cA_2, 64, .inl (upd (upd (upd f_14 61 306) 62 307) 63 308))), (q_15, .inl (cA_16, 64, .inl (upd (upd f_27 56 4136) 57 4184)))] H := hP
  replace hD : va_D A [(h0, .inr (14, [.ref q_1, .null, .null, .null, .null, .null, .int 0, .null, .null, .null, .long 0, .null, .int 0, .int 0, .int 0, .int 0, .int 0, .int 0, .int 0, .null, .null])), (q_1, .inl (cA_2, 64, .inl (upd (upd (upd f_14 61 306) 62 307) 63 308))), (q_15, .inl (cA_16, 64, .inl (upd (upd f_27 56 4136) 57 4184)))] := hD
  refine lv_dup hx hb d_mLines_init_833 rfl ?_
  refine lv_bipush (v := 58) hx hb d_mLines_init_834 (by decide) ?_
  refine lv_sipush (v := 4185) hx hb d_mLines_init_836 (by decide) ?_
  refine va_iast hx hb hK hP hD hS 2 1 rfl rfl (show ¬ ((58 : Int32) < 0 ∨ 64 ≤ (58 : Int32).toNatClampNeg) by decide) d_mLines_init_839 ?_
  clear hP hD hS
  intro H locs hP hD hS
  rw [show (58 : Int32).toNatClampNeg = 58 by decide] at hP hD
  replace hP : va_P (dC, dI) vcl [(h0, .inr (14, [.ref q_1, .null, .null, .null, .null, .null, .int 0, .null, .null, .null, .long 0, .null, .int 0, .int 0, .int 0, .int 0, .int 0, .int 0, .int 0, .null, .null])), (q_1, .inl (cA_2, 64, .inl (upd (upd (upd f_14 61 306) 62 307) 63 308))), (q_15, .inl (cA_16, 64, .inl (upd (upd (upd f_27 56 4136) 57 4184) 58 4185)))] H := hP
  replace hD : va_D A [(h0, .inr (14, [.ref q_1, .null, .null, .null, .null, .null, .int 0, .null, .null, .null, .long 0, .null, .int 0, .int 0, .int 0, .int 0, .int 0, .int 0, .int 0, .null, .null])), (q_1, .inl (cA_2, 64, .inl (upd (upd (upd f_14 61 306) 62 307) 63 308))), (q_15, .inl (cA_16, 64, .inl (upd (upd (upd f_27 56 4136) 57 4184) 58 4185)))] := hD
  refine lv_dup hx hb d_mLines_init_840 rfl ?_
  refine lv_bipush (v := 59) hx hb d_mLines_init_841 (by decide) ?_
  refine lv_sipush (v := 4139) hx hb d_mLines_init_843 (by decide) ?_
  refine va_iast hx hb hK hP hD hS 2 1 rfl rfl (show ¬ ((59 : Int32) < 0 ∨ 64 ≤ (59 : Int32).toNatClampNeg) by decide) d_mLines_init_846 ?_
  clear hP hD hS
  intro H locs hP hD hS
  rw [show (59 : Int32).toNatClampNeg = 59 by decide] at hP hD
  replace hP : va_P (dC, dI) vcl [(h0, .inr (14, [.ref q_1, .null, .null, .null, .null, .null, .int 0, .null, .null, .null, .long 0, .null, .int 0, .int 0, .int 0, .int 0, .int 0, .int 0, .int 0, .null, .null])), (q_1, .inl (cA_2, 64, .inl (upd (upd (upd f_14 61 306) 62 307) 63 308))), (q_15, .inl (cA_16, 64, .inl (upd (upd (upd (upd f_27 56 4136) 57 4184) 58 4185) 59 4139)))] H := hP
  replace hD : va_D A [(h0, .inr (14, [.ref q_1, .null, .null, .null, .null, .null, .int 0, .null, .null, .null, .long 0, .null, .int 0, .int 0, .int 0, .int 0, .int 0, .int 0, .int 0, .null, .null])), (q_1, .inl (cA_2, 64, .inl (upd (upd (upd f_14 61 306) 62 307) 63 308))), (q_15, .inl (cA_16, 64, .inl (upd (upd (upd (upd f_27 56 4136) 57 4184) 58 4185) 59 4139)))] := hD
  refine lv_dup hx hb d_mLines_init_847 rfl ?_
  refine lv_bipush (v := 60) hx hb d_mLines_init_848 (by decide) ?_
  refine lv_sipush (v := 4140) hx hb d_mLines_init_850 (by decide) ?_
  refine va_iast hx hb hK hP hD hS 2 1 rfl rfl (show ¬ ((60 : Int32) < 0 ∨ 64 ≤ (60 : Int32).toNatClampNeg) by decide) d_mLines_init_853 ?_
  clear hP hD hS
  intro H locs hP hD hS
  rw [show (60 : Int32).toNatClampNeg = 60 by decide] at hP hD
  obtain ⟨f_28, ef_28⟩ : ∃ y : Nat → Int32, y = upd (upd (upd (upd (upd f_27 56 4136) 57 4184) 58 4185) 59 4139) 60 4140 := ⟨_, rfl⟩
  replace hP : va_P (dC, dI) vcl [(h0, .inr (14, [.ref q_1, .null, .null, .null, .null, .null, .int 0, .null, .null, .null, .long 0, .null, .int 0, .int 0, .int 0, .int 0, .int 0, .int 0, .int 0, .null, .null])), (q_1, .inl (cA_2, 64, .inl (upd (upd (upd f_14 61 306) 62 307) 63 308))), (q_15, .inl (cA_16, 64, .inl (upd (upd (upd (upd (upd f_27 56 4136) 57 4184) 58 4185) 59 4139) 60 4140)))] H := hP
  replace hD : va_D A [(h0, .inr (14, [.ref q_1, .null, .null, .null, .null, .null, .int 0, .null, .null, .null, .long 0, .null, .int 0, .int 0, .int 0, .int 0, .int 0, .int 0, .int 0, .null, .null])), (q_1, .inl (cA_2, 64, .inl (upd (upd (upd f_14 61 306) 62 307) 63 308))), (q_15, .inl (cA_16, 64, .inl (upd (upd (upd (upd (upd f_27 56 4136) 57 4184) 58 4185) 59 4139) 60 4140)))] := hD
  rw [← ef_28] at hP hD
  replace hP : va_P (dC, dI) vcl [(h0, .inr (14, [.ref q_1, .null, .null, .null, .null, .null, .int 0, .null, .null, .null, .long 0, .null, .int 0, .int 0, .int 0, .int 0, .int 0, .int 0, .int 0, .null, .null])), (q_1, .inl (cA_2, 64, .inl (upd (upd (upd f_14 61 306) 62 307) 63 308))), (q_15, .inl (cA_16, 64, .inl f_28))] H := hP
  replace hD : va_D A [(h0, .inr (14, [.ref q_1, .null, .null, .null, .null, .null, .int 0, .null, .null, .null, .long 0, .null, .int 0, .int 0, .int 0, .int 0, .int 0, .int 0, .int 0, .null, .null])), (q_1, .inl (cA_2, 64, .inl (upd (upd (upd f_14 61 306) 62 307) 63 308))), (q_15, .inl (cA_16, 64, .inl f_28))] := hD
  refine lv_dup hx hb d_mLines_init_854 rfl ?_
  refine lv_bipush (v := 61) hx hb d_mLines_init_855 (by decide) ?_
  refine lv_sipush (v := 4186) hx hb d_mLines_init_857 (by decide) ?_
  refine va_iast hx hb hK hP hD hS 2 1 rfl rfl (show ¬ ((61 : Int32) < 0 ∨ 64 ≤ (61 : Int32).toNatClampNeg) by decide) d_mLines_init_860 ?_
  clear hP hD hS
  intro H locs hP hD hS
  rw [show (61 : Int32).toNatClampNeg = 61 by decide] at hP hD
  replace hP : va_P (dC, dI) vcl [(h0, .inr (14, [.ref q_1, .null, .null, .null, .null, .null, .int 0, .null, .null, .null, .long 0, .null, .int 0, .int 0, .int 0, .int 0, .int 0, .int 0, .int 0, .null, .null])), (q_1, .inl (cA_2, 64, .inl (upd (upd (upd f_14 61 306) 62 307) 63 308))), (q_15, .inl (cA_16, 64, .inl (upd f_28 61 4186)))] H := hP
  replace hD : va_D A [(h0, .inr (14, [.ref q_1, .null, .null, .null, .null, .null, .int 0, .null, .null, .null, .long 0, .null, .int 0, .int 0, .int 0, .int 0, .int 0, .int 0, .int 0, .null, .null])), (q_1, .inl (cA_2, 64, .inl (upd (upd (upd f_14 61 306) 62 307) 63 308))), (q_15, .inl (cA_16, 64, .inl (upd f_28 61 4186)))] := hD
  refine lv_dup hx hb d_mLines_init_861 rfl ?_
  refine lv_bipush (v := 62) hx hb d_mLines_init_862 (by decide) ?_
  refine lv_sipush (v := 4198) hx hb d_mLines_init_864 (by decide) ?_
  refine va_iast hx hb hK hP hD hS 2 1 rfl rfl (show ¬ ((62 : Int32) < 0 ∨ 64 ≤ (62 : Int32).toNatClampNeg) by decide) d_mLines_init_867 ?_
  clear hP hD hS
  intro H locs hP hD hS
  rw [show (62 : Int32).toNatClampNeg = 62 by decide] at hP hD
  replace hP : va_P (dC, dI) vcl [(h0, .inr (14, [.ref q_1, .null, .null, .null, .null, .null, .int 0, .null, .null, .null, .long 0, .null, .int 0, .int 0, .int 0, .int 0, .int 0, .int 0, .int 0, .null, .null])), (q_1, .inl (cA_2, 64, .inl (upd (upd (upd f_14 61 306) 62 307) 63 308))), (q_15, .inl (cA_16, 64, .inl (upd (upd f_28 61 4186) 62 4198)))] H := hP
  replace hD : va_D A [(h0, .inr (14, [.ref q_1, .null, .null, .null, .null, .null, .int 0, .null, .null, .null, .long 0, .null, .int 0, .int 0, .int 0, .int 0, .int 0, .int 0, .int 0, .null, .null])), (q_1, .inl (cA_2, 64, .inl (upd (upd (upd f_14 61 306) 62 307) 63 308))), (q_15, .inl (cA_16, 64, .inl (upd (upd f_28 61 4186) 62 4198)))] := hD
  refine lv_dup hx hb d_mLines_init_868 rfl ?_
  refine lv_bipush (v := 63) hx hb d_mLines_init_869 (by decide) ?_
  refine lv_sipush (v := 4199) hx hb d_mLines_init_871 (by decide) ?_
  refine va_iast hx hb hK hP hD hS 2 1 rfl rfl (show ¬ ((63 : Int32) < 0 ∨ 64 ≤ (63 : Int32).toNatClampNeg) by decide) d_mLines_init_874 ?_
  clear hP hD hS
  intro H locs hP hD hS
  rw [show (63 : Int32).toNatClampNeg = 63 by decide] at hP hD
  replace hP : va_P (dC, dI) vcl [(h0, .inr (14, [.ref q_1, .null, .null, .null, .null, .null, .int 0, .null, .null, .null, .long 0, .null, .int 0, .int 0, .int 0, .int 0, .int 0, .int 0, .int 0, .null, .null])), (q_1, .inl (cA_2, 64, .inl (upd (upd (upd f_14 61 306) 62 307) 63 308))), (q_15, .inl (cA_16, 64, .inl (upd (upd (upd f_28 61 4186) 62 4198) 63 4199)))] H := hP
  replace hD : va_D A [(h0, .inr (14, [.ref q_1, .null, .null, .null, .null, .null, .int 0, .null, .null, .null, .long 0, .null, .int 0, .int 0, .int 0, .int 0, .int 0, .int 0, .int 0, .null, .null])), (q_1, .inl (cA_2, 64, .inl (upd (upd (upd f_14 61 306) 62 307) 63 308))), (q_15, .inl (cA_16, 64, .inl (upd (upd (upd f_28 61 4186) 62 4198) 63 4199)))] := hD
  refine va_putF (D := (dC, dI)) (ci := 14) (v := .ref q_15) (ty := (.array .int)) (C := R_mLines) (T := F_mLines) (N := 21) hx hb hwd i_mLines t_mLines to_mLines no_mLines hown hK hP hD hS 0 rfl rfl 1 (by decide) (hwd _ wd_10_84) (fun _ h9 => h9) rfl hin rfl (by decide +kernel) rfl rfl (Nat.le_of_ble_eq_true rfl) d_mLines_init_875 ?_
  clear hP hD hS
  intro H locs hP hD hS
  replace hP : va_P (dC, dI) vcl [(h0, .inr (14, [.ref q_1, .ref q_15, .null, .null, .null, .null, .int 0, .null, .null, .null, .long 0, .null, .int 0, .int 0, .int 0, .int 0, .int 0, .int 0, .int 0, .null, .null])), (q_1, .inl (cA_2, 64, .inl (upd (upd (upd f_14 61 306) 62 307) 63 308))), (q_15, .inl (cA_16, 64, .inl (upd (upd (upd f_28 61 4186) 62 4198) 63 4199)))] H := hP
  replace hD : va_D A [(h0, .inr (14, [.ref q_1, .ref q_15, .null, .null, .null, .null, .int 0, .null, .null, .null, .long 0, .null, .int 0, .int 0, .int 0, .int 0, .int 0, .int 0, .int 0, .null, .null])), (q_1, .inl (cA_2, 64, .inl (upd (upd (upd f_14 61 306) 62 307) 63 308))), (q_15, .inl (cA_16, 64, .inl (upd (upd (upd f_28 61 4186) 62 4198) 63 4199)))] := hD
  refine lv_aload_n hx hb d_mLines_init_878 rfl (lv_at hl 0 rfl) ?_
  refine lv_bipush (v := 27) hx hb d_mLines_init_879 (by decide) ?_
  refine va_newa (atype := .int) (N' := 27) (a0 := (27, .inl (fun _ => 0))) (ty := .int) (n := 27) hx hb (hwd _ wd_1_167) rfl hK hP hD hS hA (fun _ => rfl) (by decide) (by decide) (by decide) (Nat.le_of_ble_eq_true rfl) (Nat.le_of_ble_eq_true rfl) d_mLines_init_881 ?_
  clear hP hD hS hK
  intro q_29 cA_30 H hK hP hD hS
  replace hP : va_P (dC, dI) vcl [(h0, .inr (14, [.ref q_1, .ref q_15, .null, .null, .null, .null, .int 0, .null, .null, .null, .long 0, .null, .int 0, .int 0, .int 0, .int 0, .int 0, .int 0, .int 0, .null, .null])), (q_1, .inl (cA_2, 64, .inl (upd (upd (upd f_14 61 306) 62 307) 63 308))), (q_15, .inl (cA_16, 64, .inl (upd (upd (upd f_28 61 4186) 62 4198) 63 4199))), (q_29, .inl (cA_30, 27, .inl (fun _ => 0)))] H := hP
  replace hD : va_D A [(h0, .inr (14, [.ref q_1, .ref q_15, .null, .null, .null, .null, .int 0, .null, .null, .null, .long 0, .null, .int 0, .int 0, .int 0, .int 0, .int 0, .int 0, .int 0, .null, .null])), (q_1, .inl (cA_2, 64, .inl (upd (upd (upd f_14 61 306) 62 307) 63 308))), (q_15, .inl (cA_16, 64, .inl (upd (upd (upd f_28 61 4186) 62 4198) 63 4199))), (q_29, .inl (cA_30, 27, .inl (fun _ => 0)))] := hD
  replace hK : va_K (dC, dI) vcl [(cA_2, .int), (cA_16, .int), (cA_30, .int)] s := hK
  refine W.widen (k := 3) (n := 155) (by decide) (by decide) ?_
  refine lv_dup hx hb d_mLines_init_883 rfl ?_
  refine lv_iconst (v := 0) hx hb d_mLines_init_884 (by decide) ?_
  refine lv_bipush (v := 59) hx hb d_mLines_init_885 (by decide) ?_
  refine va_iast hx hb hK hP hD hS 3 2 rfl rfl (show ¬ ((0 : Int32) < 0 ∨ 27 ≤ (0 : Int32).toNatClampNeg) by decide) d_mLines_init_887 ?_
  clear hP hD hS
  intro H locs hP hD hS
  rw [show (0 : Int32).toNatClampNeg = 0 by decide] at hP hD
  replace hP : va_P (dC, dI) vcl [(h0, .inr (14, [.ref q_1, .ref q_15, .null, .null, .null, .null, .int 0, .null, .null, .null, .long 0, .null, .int 0, .int 0, .int 0, .int 0, .int 0, .int 0, .int 0, .null, .null])), (q_1, .inl (cA_2, 64, .inl (upd (upd (upd f_14 61 306) 62 307) 63 308))), (q_15, .inl (cA_16, 64, .inl (upd (upd (upd f_28 61 4186) 62 4198) 63 4199))), (q_29, .inl (cA_30, 27, .inl (upd (fun _ => 0) 0 59)))] H := hP
  replace hD : va_D A [(h0, .inr (14, [.ref q_1, .ref q_15, .null, .null, .null, .null, .int 0, .null, .null, .null, .long 0, .null, .int 0, .int 0, .int 0, .int 0, .int 0, .int 0, .int 0, .null, .null])), (q_1, .inl (cA_2, 64, .inl (upd (upd (upd f_14 61 306) 62 307) 63 308))), (q_15, .inl (cA_16, 64, .inl (upd (upd (upd f_28 61 4186) 62 4198) 63 4199))), (q_29, .inl (cA_30, 27, .inl (upd (fun _ => 0) 0 59)))] := hD
  refine lv_dup hx hb d_mLines_init_888 rfl ?_
  refine lv_iconst (v := 1) hx hb d_mLines_init_889 (by decide) ?_
  refine lv_bipush (v := 50) hx hb d_mLines_init_890 (by decide) ?_
  refine va_iast hx hb hK hP hD hS 3 2 rfl rfl (show ¬ ((1 : Int32) < 0 ∨ 27 ≤ (1 : Int32).toNatClampNeg) by decide) d_mLines_init_892 ?_
  clear hP hD hS
  intro H locs hP hD hS
  rw [show (1 : Int32).toNatClampNeg = 1 by decide] at hP hD
  replace hP : va_P (dC, dI) vcl [(h0, .inr (14, [.ref q_1, .ref q_15, .null, .null, .null, .null, .int 0, .null, .null, .null, .long 0, .null, .int 0, .int 0, .int 0, .int 0, .int 0, .int 0, .int 0, .null, .null])), (q_1, .inl (cA_2, 64, .inl (upd (upd (upd f_14 61 306) 62 307) 63 308))), (q_15, .inl (cA_16, 64, .inl (upd (upd (upd f_28 61 4186) 62 4198) 63 4199))), (q_29, .inl (cA_30, 27, .inl (upd (upd (fun _ => 0) 0 59) 1 50)))] H := hP
  replace hD : va_D A [(h0, .inr (14, [.ref q_1, .ref q_15, .null, .null, .null, .null, .int 0, .null, .null, .null, .long 0, .null, .int 0, .int 0, .int 0, .int 0, .int 0, .int 0, .int 0, .null, .null])), (q_1, .inl (cA_2, 64, .inl (upd (upd (upd f_14 61 306) 62 307) 63 308))), (q_15, .inl (cA_16, 64, .inl (upd (upd (upd f_28 61 4186) 62 4198) 63 4199))), (q_29, .inl (cA_30, 27, .inl (upd (upd (fun _ => 0) 0 59) 1 50)))] := hD
  refine lv_dup hx hb d_mLines_init_893 rfl ?_
  refine lv_iconst (v := 2) hx hb d_mLines_init_894 (by decide) ?_
  refine lv_bipush (v := 87) hx hb d_mLines_init_895 (by decide) ?_
  refine va_iast hx hb hK hP hD hS 3 2 rfl rfl (show ¬ ((2 : Int32) < 0 ∨ 27 ≤ (2 : Int32).toNatClampNeg) by decide) d_mLines_init_897 ?_
  clear hP hD hS
  intro H locs hP hD hS
  rw [show (2 : Int32).toNatClampNeg = 2 by decide] at hP hD
  replace hP : va_P (dC, dI) vcl [(h0, .inr (14, [.ref q_1, .ref q_15, .null, .null, .null, .null, .int 0, .null, .null, .null, .long 0, .null, .int 0, .int 0, .int 0, .int 0, .int 0, .int 0, .int 0, .null, .null])), (q_1, .inl (cA_2, 64, .inl (upd (upd (upd f_14 61 306) 62 307) 63 308))), (q_15, .inl (cA_16, 64, .inl (upd (upd (upd f_28 61 4186) 62 4198) 63 4199))), (q_29, .inl (cA_30, 27, .inl (upd (upd (upd (fun _ => 0) 0 59) 1 50) 2 87)))] H := hP
  replace hD : va_D A [(h0, .inr (14, [.ref q_1, .ref q_15, .null, .null, .null, .null, .int 0, .null, .null, .null, .long 0, .null, .int 0, .int 0, .int 0, .int 0, .int 0, .int 0, .int 0, .null, .null])), (q_1, .inl (cA_2, 64, .inl (upd (upd (upd f_14 61 306) 62 307) 63 308))), (q_15, .inl (cA_16, 64, .inl (upd (upd (upd f_28 61 4186) 62 4198) 63 4199))), (q_29, .inl (cA_30, 27, .inl (upd (upd (upd (fun _ => 0) 0 59) 1 50) 2 87)))] := hD
  refine lv_dup hx hb d_mLines_init_898 rfl ?_
  refine lv_iconst (v := 3) hx hb d_mLines_init_899 (by decide) ?_
  refine lv_sipush (v := 183) hx hb d_mLines_init_900 (by decide) ?_
  refine va_iast hx hb hK hP hD hS 3 2 rfl rfl (show ¬ ((3 : Int32) < 0 ∨ 27 ≤ (3 : Int32).toNatClampNeg) by decide) d_mLines_init_903 ?_
  clear hP hD hS
  intro H locs hP hD hS
  rw [show (3 : Int32).toNatClampNeg = 3 by decide] at hP hD
  replace hP : va_P (dC, dI) vcl [(h0, .inr (14, [.ref q_1, .ref q_15, .null, .null, .null, .null, .int 0, .null, .null, .null, .long 0, .null, .int 0, .int 0, .int 0, .int 0, .int 0, .int 0, .int 0, .null, .null])), (q_1, .inl (cA_2, 64, .inl (upd (upd (upd f_14 61 306) 62 307) 63 308))), (q_15, .inl (cA_16, 64, .inl (upd (upd (upd f_28 61 4186) 62 4198) 63 4199))), (q_29, .inl (cA_30, 27, .inl (upd (upd (upd (upd (fun _ => 0) 0 59) 1 50) 2 87) 3 183)))] H := hP
  replace hD : va_D A [(h0, .inr (14, [.ref q_1, .ref q_15, .null, .null, .null, .null, .int 0, .null, .null, .null, .long 0, .null, .int 0, .int 0, .int 0, .int 0, .int 0, .int 0, .int 0, .null, .null])), (q_1, .inl (cA_2, 64, .inl (upd (upd (upd f_14 61 306) 62 307) 63 308))), (q_15, .inl (cA_16, 64, .inl (upd (upd (upd f_28 61 4186) 62 4198) 63 4199))), (q_29, .inl (cA_30, 27, .inl (upd (upd (upd (upd (fun _ => 0) 0 59) 1 50) 2 87) 3 183)))] := hD
  refine lv_dup hx hb d_mLines_init_904 rfl ?_
  refine lv_iconst (v := 4) hx hb d_mLines_init_905 (by decide) ?_
  refine lv_sipush (v := 310) hx hb d_mLines_init_906 (by decide) ?_
  refine va_iast hx hb hK hP hD hS 3 2 rfl rfl (show ¬ ((4 : Int32) < 0 ∨ 27 ≤ (4 : Int32).toNatClampNeg) by decide) d_mLines_init_909 ?_
  clear hP hD hS
  intro H locs hP hD hS
  rw [show (4 : Int32).toNatClampNeg = 4 by decide] at hP hD
  obtain ⟨f_31, ef_31⟩ : ∃ y : Nat → Int32, y = upd (upd (upd (upd (upd (fun _ => 0) 0 59) 1 50) 2 87) 3 183) 4 310 := ⟨_, rfl⟩
  replace hP : va_P (dC, dI) vcl [(h0, .inr (14, [.ref q_1, .ref q_15, .null, .null, .null, .null, .int 0, .null, .null, .null, .long 0, .null, .int 0, .int 0, .int 0, .int 0, .int 0, .int 0, .int 0, .null, .null])), (q_1, .inl (cA_2, 64, .inl (upd (upd (upd f_14 61 306) 62 307) 63 308))), (q_15, .inl (cA_16, 64, .inl (upd (upd (upd f_28 61 4186) 62 4198) 63 4199))), (q_29, .inl (cA_30, 27, .inl (upd (upd (upd (upd (upd (fun _ => 0) 0 59) 1 50) 2 87) 3 183) 4 310)))] H := hP
  replace hD : va_D A [(h0, .inr (14, [.ref q_1, .ref q_15, .null, .null, .null, .null, .int 0, .null, .null, .null, .long 0, .null, .int 0, .int 0, .int 0, .int 0, .int 0, .int 0, .int 0, .null, .null])), (q_1, .inl (cA_2, 64, .inl (upd (upd (upd f_14 61 306) 62 307) 63 308))), (q_15, .inl (cA_16, 64, .inl (upd (upd (upd f_28 61 4186) 62 4198) 63 4199))), (q_29, .inl (cA_30, 27, .inl (upd (upd (upd (upd (upd (fun _ => 0) 0 59) 1 50) 2 87) 3 183) 4 310)))] := hD
  rw [← ef_31] at hP hD
  replace hP : va_P (dC, dI) vcl [(h0, .inr (14, [.ref q_1, .ref q_15, .null, .null, .null, .null, .int 0, .null, .null, .null, .long 0, .null, .int 0, .int 0, .int 0, .int 0, .int 0, .int 0, .int 0, .null, .null])), (q_1, .inl (cA_2, 64, .inl (upd (upd (upd f_14 61 306) 62 307) 63 308))), (q_15, .inl (cA_16, 64, .inl (upd (upd (upd f_28 61 4186) 62 4198) 63 4199))), (q_29, .inl (cA_30, 27, .inl f_31))] H := hP
  replace hD : va_D A [(h0, .inr (14, [.ref q_1, .ref q_15, .null, .null, .null, .null, .int 0, .null, .null, .null, .long 0, .null, .int 0, .int 0, .int 0, .int 0, .int 0, .int 0, .int 0, .null, .null])), (q_1, .inl (cA_2, 64, .inl (upd (upd (upd f_14 61 306) 62 307) 63 308))), (q_15, .inl (cA_16, 64, .inl (upd (upd (upd f_28 61 4186) 62 4198) 63 4199))), (q_29, .inl (cA_30, 27, .inl f_31))] := hD
  refine lv_dup hx hb d_mLines_init_910 rfl ?_
  refine lv_iconst (v := 5) hx hb d_mLines_init_911 (by decide) ?_
  refine lv_sipush (v := 311) hx hb d_mLines_init_912 (by decide) ?_
  refine va_iast hx hb hK hP hD hS 3 2 rfl rfl (show ¬ ((5 : Int32) < 0 ∨ 27 ≤ (5 : Int32).toNatClampNeg) by decide) d_mLines_init_915 ?_
  clear hP hD hS
  intro H locs hP hD hS
  rw [show (5 : Int32).toNatClampNeg = 5 by decide] at hP hD
  replace hP : va_P (dC, dI) vcl [(h0, .inr (14, [.ref q_1, .ref q_15, .null, .null, .null, .null, .int 0, .null, .null, .null, .long 0, .null, .int 0, .int 0, .int 0, .int 0, .int 0, .int 0, .int 0, .null, .null])), (q_1, .inl (cA_2, 64, .inl (upd (upd (upd f_14 61 306) 62 307) 63 308))), (q_15, .inl (cA_16, 64, .inl (upd (upd (upd f_28 61 4186) 62 4198) 63 4199))), (q_29, .inl (cA_30, 27, .inl (upd f_31 5 311)))] H := hP
  replace hD : va_D A [(h0, .inr (14, [.ref q_1, .ref q_15, .null, .null, .null, .null, .int 0, .null, .null, .null, .long 0, .null, .int 0, .int 0, .int 0, .int 0, .int 0, .int 0, .int 0, .null, .null])), (q_1, .inl (cA_2, 64, .inl (upd (upd (upd f_14 61 306) 62 307) 63 308))), (q_15, .inl (cA_16, 64, .inl (upd (upd (upd f_28 61 4186) 62 4198) 63 4199))), (q_29, .inl (cA_30, 27, .inl (upd f_31 5 311)))] := hD
  refine lv_dup hx hb d_mLines_init_916 rfl ?_
  refine lv_bipush (v := 6) hx hb d_mLines_init_917 (by decide) ?_
  refine lv_sipush (v := 356) hx hb d_mLines_init_919 (by decide) ?_
  refine va_iast hx hb hK hP hD hS 3 2 rfl rfl (show ¬ ((6 : Int32) < 0 ∨ 27 ≤ (6 : Int32).toNatClampNeg) by decide) d_mLines_init_922 ?_
  clear hP hD hS
  intro H locs hP hD hS
  rw [show (6 : Int32).toNatClampNeg = 6 by decide] at hP hD
  replace hP : va_P (dC, dI) vcl [(h0, .inr (14, [.ref q_1, .ref q_15, .null, .null, .null, .null, .int 0, .null, .null, .null, .long 0, .null, .int 0, .int 0, .int 0, .int 0, .int 0, .int 0, .int 0, .null, .null])), (q_1, .inl (cA_2, 64, .inl (upd (upd (upd f_14 61 306) 62 307) 63 308))), (q_15, .inl (cA_16, 64, .inl (upd (upd (upd f_28 61 4186) 62 4198) 63 4199))), (q_29, .inl (cA_30, 27, .inl (upd (upd f_31 5 311) 6 356)))] H := hP
  replace hD : va_D A [(h0, .inr (14, [.ref q_1, .ref q_15, .null, .null, .null, .null, .int 0, .null, .null, .null, .long 0, .null, .int 0, .int 0, .int 0, .int 0, .int 0, .int 0, .int 0, .null, .null])), (q_1, .inl (cA_2, 64, .inl (upd (upd (upd f_14 61 306) 62 307) 63 308))), (q_15, .inl (cA_16, 64, .inl (upd (upd (upd f_28 61 4186) 62 4198) 63 4199))), (q_29, .inl (cA_30, 27, .inl (upd (upd f_31 5 311) 6 356)))] := hD
  refine lv_dup hx hb d_mLines_init_923 rfl ?_
  refine lv_bipush (v := 7) hx hb d_mLines_init_924 (by decide) ?_
  refine lv_sipush (v := 357) hx hb d_mLines_init_926 (by decide) ?_
  refine va_iast hx hb hK hP hD hS 3 2 rfl rfl (show ¬ ((7 : Int32) < 0 ∨ 27 ≤ (7 : Int32).toNatClampNeg) by decide) d_mLines_init_929 ?_
  clear hP hD hS
  intro H locs hP hD hS
  rw [show (7 : Int32).toNatClampNeg = 7 by decide] at hP hD
  replace hP : va_P (dC, dI) vcl [(h0, .inr (14, [.ref q_1, .ref q_15, .null, .null, .null, .null, .int 0, .null, .null, .null, .long 0, .null, .int 0, .int 0, .int 0, .int 0, .int 0, .int 0, .int 0, .null, .null])), (q_1, .inl (cA_2, 64, .inl (upd (upd (upd f_14 61 306) 62 307) 63 308))), (q_15, .inl (cA_16, 64, .inl (upd (upd (upd f_28 61 4186) 62 4198) 63 4199))), (q_29, .inl (cA_30, 27, .inl (upd (upd (upd f_31 5 311) 6 356) 7 357)))] H := hP
  replace hD : va_D A [(h0, .inr (14, [.ref q_1, .ref q_15, .null, .null, .null, .null, .int 0, .null, .null, .null, .long 0, .null, .int 0, .int 0, .int 0, .int 0, .int 0, .int 0, .int 0, .null, .null])), (q_1, .inl (cA_2, 64, .inl (upd (upd (upd f_14 61 306) 62 307) 63 308))), (q_15, .inl (cA_16, 64, .inl (upd (upd (upd f_28 61 4186) 62 4198) 63 4199))), (q_29, .inl (cA_30, 27, .inl (upd (upd (upd f_31 5 311) 6 356) 7 357)))] := hD
  refine lv_dup hx hb d_mLines_init_930 rfl ?_
  refine lv_bipush (v := 8) hx hb d_mLines_init_931 (by decide) ?_
  refine lv_sipush (v := 360) hx hb d_mLines_init_933 (by decide) ?_
  refine va_iast hx hb hK hP hD hS 3 2 rfl rfl (show ¬ ((8 : Int32) < 0 ∨ 27 ≤ (8 : Int32).toNatClampNeg) by decide) d_mLines_init_936 ?_
  clear hP hD hS
  intro H locs hP hD hS
  rw [show (8 : Int32).toNatClampNeg = 8 by decide] at hP hD
  replace hP : va_P (dC, dI) vcl [(h0, .inr (14, [.ref q_1, .ref q_15, .null, .null, .null, .null, .int 0, .null, .null, .null, .long 0, .null, .int 0, .int 0, .int 0, .int 0, .int 0, .int 0, .int 0, .null, .null])), (q_1, .inl (cA_2, 64, .inl (upd (upd (upd f_14 61 306) 62 307) 63 308))), (q_15, .inl (cA_16, 64, .inl (upd (upd (upd f_28 61 4186) 62 4198) 63 4199))), (q_29, .inl (cA_30, 27, .inl (upd (upd (upd (upd f_31 5 311) 6 356) 7 357) 8 360)))] H := hP
  replace hD : va_D A [(h0, .inr (14, [.ref q_1, .ref q_15, .null, .null, .null, .null, .int 0, .null, .null, .null, .long 0, .null, .int 0, .int 0, .int 0, .int 0, .int 0, .int 0, .int 0, .null, .null])), (q_1, .inl (cA_2, 64, .inl (upd (upd (upd f_14 61 306) 62 307) 63 308))), (q_15, .inl (cA_16, 64, .inl (upd (upd (upd f_28 61 4186) 62 4198) 63 4199))), (q_29, .inl (cA_30, 27, .inl (upd (upd (upd (upd f_31 5 311) 6 356) 7 357) 8 360)))] := hD
  refine lv_dup hx hb d_mLines_init_937 rfl ?_
  refine lv_bipush (v := 9) hx hb d_mLines_init_938 (by decide) ?_
  refine lv_sipush (v := 359) hx hb d_mLines_init_940 (by decide) ?_
  refine va_iast hx hb hK hP hD hS 3 2 rfl rfl (show ¬ ((9 : Int32) < 0 ∨ 27 ≤ (9 : Int32).toNatClampNeg) by decide) d_mLines_init_943 ?_
  clear hP hD hS
  intro H locs hP hD hS
  rw [show (9 : Int32).toNatClampNeg = 9 by decide] at hP hD
  obtain ⟨f_32, ef_32⟩ : ∃ y : Nat → Int32, y = upd (upd (upd (upd (upd f_31 5 311) 6 356) 7 357) 8 360) 9 359 := ⟨_, rfl⟩
  replace hP : va_P (dC, dI) vcl [(h0, .inr (14, [.ref q_1, .ref q_15, .null, .null, .null, .null, .int 0, .null, .null, .null, .long 0, .null, .int 0, .int 0, .int 0, .int 0, .int 0, .int 0, .int 0, .null, .null])), (q_1, .inl (cA_2, 64, .inl (upd (upd (upd f_14 61 306) 62 307) 63 308))), (q_15, .inl (cA_16, 64, .inl (upd (upd (upd f_28 61 4186) 62 4198) 63 4199))), (q_29, .inl (cA_30, 27, .inl (upd (upd (upd (upd (upd f_31 5 311) 6 356) 7 357) 8 360) 9 359)))] H := hP
  replace hD : va_D A [(h0, .inr (14, [.ref q_1, .ref q_15, .null, .null, .null, .null, .int 0, .null, .null, .null, .long 0, .null, .int 0, .int 0, .int 0, .int 0, .int 0, .int 0, .int 0, .null, .null])), (q_1, .inl (cA_2, 64, .inl (upd (upd (upd f_14 61 306) 62 307) 63 308))), (q_15, .inl (cA_16, 64, .inl (upd (upd (upd f_28 61 4186) 62 4198) 63 4199))), (q_29, .inl (cA_30, 27, .inl (upd (upd (upd (upd (upd f_31 5 311) 6 356) 7 357) 8 360) 9 359)))] := hD
  rw [← ef_32] at hP hD
  replace hP : va_P (dC, dI) vcl [(h0, .inr (14, [.ref q_1, .ref q_15, .null, .null, .null, .null, .int 0, .null, .null, .null, .long 0, .null, .int 0, .int 0, .int 0, .int 0, .int 0, .int 0, .int 0, .null, .null])), (q_1, .inl (cA_2, 64, .inl (upd (upd (upd f_14 61 306) 62 307) 63 308))), (q_15, .inl (cA_16, 64, .inl (upd (upd (upd f_28 61 4186) 62 4198) 63 4199))), (q_29, .inl (cA_30, 27, .inl f_32))] H := hP
  replace hD : va_D A [(h0, .inr (14, [.ref q_1, .ref q_15, .null, .null, .null, .null, .int 0, .null, .null, .null, .long 0, .null, .int 0, .int 0, .int 0, .int 0, .int 0, .int 0, .int 0, .null, .null])), (q_1, .inl (cA_2, 64, .inl (upd (upd (upd f_14 61 306) 62 307) 63 308))), (q_15, .inl (cA_16, 64, .inl (upd (upd (upd f_28 61 4186) 62 4198) 63 4199))), (q_29, .inl (cA_30, 27, .inl f_32))] := hD
  refine lv_dup hx hb d_mLines_init_944 rfl ?_
  refine lv_bipush (v := 10) hx hb d_mLines_init_945 (by decide) ?_
  refine lv_sipush (v := 716) hx hb d_mLines_init_947 (by decide) ?_
  refine va_iast hx hb hK hP hD hS 3 2 rfl rfl (show ¬ ((10 : Int32) < 0 ∨ 27 ≤ (10 : Int32).toNatClampNeg) by decide) d_mLines_init_950 ?_
  clear hP hD hS
  intro H locs hP hD hS
  rw [show (10 : Int32).toNatClampNeg = 10 by decide] at hP hD
  replace hP : va_P (dC, dI) vcl [(h0, .inr (14, [.ref q_1, .ref q_15, .null, .null, .null, .null, .int 0, .null, .null, .null, .long 0, .null, .int 0, .int 0, .int 0, .int 0, .int 0, .int 0, .int 0, .null, .null])), (q_1, .inl (cA_2, 64, .inl (upd (upd (upd f_14 61 306) 62 307) 63 308))), (q_15, .inl (cA_16, 64, .inl (upd (upd (upd f_28 61 4186) 62 4198) 63 4199))), (q_29, .inl (cA_30, 27, .inl (upd f_32 10 716)))] H := hP
  replace hD : va_D A [(h0, .inr (14, [.ref q_1, .ref q_15, .null, .null, .null, .null, .int 0, .null, .null, .null, .long 0, .null, .int 0, .int 0, .int 0, .int 0, .int 0, .int 0, .int 0, .null, .null])), (q_1, .inl (cA_2, 64, .inl (upd (upd (upd f_14 61 306) 62 307) 63 308))), (q_15, .inl (cA_16, 64, .inl (upd (upd (upd f_28 61 4186) 62 4198) 63 4199))), (q_29, .inl (cA_30, 27, .inl (upd f_32 10 716)))] := hD
  refine lv_dup hx hb d_mLines_init_951 rfl ?_
  refine lv_bipush (v := 11) hx hb d_mLines_init_952 (by decide) ?_
  refine lv_sipush (v := 717) hx hb d_mLines_init_954 (by decide) ?_
  refine va_iast hx hb hK hP hD hS 3 2 rfl rfl (show ¬ ((11 : Int32) < 0 ∨ 27 ≤ (11 : Int32).toNatClampNeg) by decide) d_mLines_init_957 ?_
  clear hP hD hS
  intro H locs hP hD hS
  rw [show (11 : Int32).toNatClampNeg = 11 by decide] at hP hD
  replace hP : va_P (dC, dI) vcl [(h0, .inr (14, [.ref q_1, .ref q_15, .null, .null, .null, .null, .int 0, .null, .null, .null, .long 0, .null, .int 0, .int 0, .int 0, .int 0, .int 0, .int 0, .int 0, .null, .null])), (q_1, .inl (cA_2, 64, .inl (upd (upd (upd f_14 61 306) 62 307) 63 308))), (q_15, .inl (cA_16, 64, .inl (upd (upd (upd f_28 61 4186) 62 4198) 63 4199))), (q_29, .inl (cA_30, 27, .inl (upd (upd f_32 10 716) 11 717)))] H := hP
  replace hD : va_D A [(h0, .inr (14, [.ref q_1, .ref q_15, .null, .null, .null, .null, .int 0, .null, .null, .null, .long 0, .null, .int 0, .int 0, .int 0, .int 0, .int 0, .int 0, .int 0, .null, .null])), (q_1, .inl (cA_2, 64, .inl (upd (upd (upd f_14 61 306) 62 307) 63 308))), (q_15, .inl (cA_16, 64, .inl (upd (upd (upd f_28 61 4186) 62 4198) 63 4199))), (q_29, .inl (cA_30, 27, .inl (upd (upd f_32 10 716) 11 717)))] := hD
  refine lv_dup hx hb d_mLines_init_958 rfl ?_
  refine lv_bipush (v := 12) hx hb d_mLines_init_959 (by decide) ?_
  refine lv_sipush (v := 722) hx hb d_mLines_init_961 (by decide) ?_
  refine va_iast hx hb hK hP hD hS 3 2 rfl rfl (show ¬ ((12 : Int32) < 0 ∨ 27 ≤ (12 : Int32).toNatClampNeg) by decide) d_mLines_init_964 ?_
  clear hP hD hS
  intro H locs hP hD hS
  rw [show (12 : Int32).toNatClampNeg = 12 by decide] at hP hD
  replace hP : va_P (dC, dI) vcl [(h0, .inr (14, [.ref q_1, .ref q_15, .null, .null, .null, .null, .int 0, .null, .null, .null, .long 0, .null, .int 0, .int 0, .int 0, .int 0, .int 0, .int 0, .int 0, .null, .null])), (q_1, .inl (cA_2, 64, .inl (upd (upd (upd f_14 61 306) 62 307) 63 308))), (q_15, .inl (cA_16, 64, .inl (upd (upd (upd f_28 61 4186) 62 4198) 63 4199))), (q_29, .inl (cA_30, 27, .inl (upd (upd (upd f_32 10 716) 11 717) 12 722)))] H := hP
  replace hD : va_D A [(h0, .inr (14, [.ref q_1, .ref q_15, .null, .null, .null, .null, .int 0, .null, .null, .null, .long 0, .null, .int 0, .int 0, .int 0, .int 0, .int 0, .int 0, .int 0, .null, .null])), (q_1, .inl (cA_2, 64, .inl (upd (upd (upd f_14 61 306) 62 307) 63 308))), (q_15, .inl (cA_16, 64, .inl (upd (upd (upd f_28 61 4186) 62 4198) 63 4199))), (q_29, .inl (cA_30, 27, .inl (upd (upd (upd f_32 10 716) 11 717) 12 722)))] := hD
  refine lv_dup hx hb d_mLines_init_965 rfl ?_
  refine lv_bipush (v := 13) hx hb d_mLines_init_966 (by decide) ?_
  refine lv_sipush (v := 723) hx hb d_mLines_init_968 (by decide) ?_
  refine va_iast hx hb hK hP hD hS 3 2 rfl rfl (show ¬ ((13 : Int32) < 0 ∨ 27 ≤ (13 : Int32).toNatClampNeg) by decide) d_mLines_init_971 ?_
  clear hP hD hS
  intro H locs hP hD hS
  rw [show (13 : Int32).toNatClampNeg = 13 by decide] at hP hD
  replace hP : va_P (dC, dI) vcl [(h0, .inr (14, [.ref q_1, .ref q_15, .null, .null, .null, .null, .int 0, .null, .null, .null, .long 0, .null, .int 0, .int 0, .int 0, .int 0, .int 0, .int 0, .int 0, .null, .null])), (q_1, .inl (cA_2, 64, .inl (upd (upd (upd f_14 61 306) 62 307) 63 308))), (q_15, .inl (cA_16, 64, .inl (upd (upd (upd f_28 61 4186) 62 4198) 63 4199))), (q_29, .inl (cA_30, 27, .inl (upd (upd (upd (upd f_32 10 716) 11 717) 12 722) 13 723)))] H := hP
  replace hD : va_D A [(h0, .inr (14, [.ref q_1, .ref q_15, .null, .null, .null, .null, .int 0, .null, .null, .null, .long 0, .null, .int 0, .int 0, .int 0, .int 0, .int 0, .int 0, .int 0, .null, .null])), (q_1, .inl (cA_2, 64, .inl (upd (upd (upd f_14 61 306) 62 307) 63 308))), (q_15, .inl (cA_16, 64, .inl (upd (upd (upd f_28 61 4186) 62 4198) 63 4199))), (q_29, .inl (cA_30, 27, .inl (upd (upd (upd (upd f_32 10 716) 11 717) 12 722) 13 723)))] := hD
  refine lv_dup hx hb d_mLines_init_972 rfl ?_
  refine lv_bipush (v := 14) hx hb d_mLines_init_973 (by decide) ?_
  refine lv_sipush (v := 724) hx hb d_mLines_init_975 (by decide) ?_
  refine va_iast hx hb hK hP hD hS 3 2 rfl rfl (show ¬ ((14 : Int32) < 0 ∨ 27 ≤ (14 : Int32).toNatClampNeg) by decide) d_mLines_init_978 ?_
  clear hP hD hS
  intro H locs hP hD hS
  rw [show (14 : Int32).toNatClampNeg = 14 by decide] at hP hD
  obtain ⟨f_33, ef_33⟩ : ∃ y : Nat → Int32, y = upd (upd (upd (upd (upd f_32 10 716) 11 717) 12 722) 13 723) 14 724 := ⟨_, rfl⟩
  replace hP : va_P (dC, dI) vcl [(h0, .inr (14, [.ref q_1, .ref q_15, .null, .null, .null, .null, .int 0, .null, .null, .null, .long 0, .null, .int 0, .int 0, .int 0, .int 0, .int 0, .int 0, .int 0, .null, .null])), (q_1, .inl (cA_2, 64, .inl (upd (upd (upd f_14 61 306) 62 307) 63 308))), (q_15, .inl (cA_16, 64, .inl (upd (upd (upd f_28 61 4186) 62 4198) 63 4199))), (q_29, .inl (cA_30, 27, .inl (upd (upd (upd (upd (upd f_32 10 716) 11 717) 12 722) 13 723) 14 724)))] H := hP
  replace hD : va_D A [(h0, .inr (14, [.ref q_1, .ref q_15, .null, .null, .null, .null, .int 0, .null, .null, .null, .long 0, .null, .int 0, .int 0, .int 0, .int 0, .int 0, .int 0, .int 0, .null, .null])), (q_1, .inl (cA_2, 64, .inl (upd (upd (upd f_14 61 306) 62 307) 63 308))), (q_15, .inl (cA_16, 64, .inl (upd (upd (upd f_28 61 4186) 62 4198) 63 4199))), (q_29, .inl (cA_30, 27, .inl (upd (upd (upd (upd (upd f_32 10 716) 11 717) 12 722) 13 723) 14 724)))] := hD
  rw [← ef_33] at hP hD
  replace hP : va_P (dC, dI) vcl [(h0, .inr (14, [.ref q_1, .ref q_15, .null, .null, .null, .null, .int 0, .null, .null, .null, .long 0, .null, .int 0, .int 0, .int 0, .int 0, .int 0, .int 0, .int 0, .null, .null])), (q_1, .inl (cA_2, 64, .inl (upd (upd (upd f_14 61 306) 62 307) 63 308))), (q_15, .inl (cA_16, 64, .inl (upd (upd (upd f_28 61 4186) 62 4198) 63 4199))), (q_29, .inl (cA_30, 27, .inl f_33))] H := hP
  replace hD : va_D A [(h0, .inr (14, [.ref q_1, .ref q_15, .null, .null, .null, .null, .int 0, .null, .null, .null, .long 0, .null, .int 0, .int 0, .int 0, .int 0, .int 0, .int 0, .int 0, .null, .null])), (q_1, .inl (cA_2, 64, .inl (upd (upd (upd f_14 61 306) 62 307) 63 308))), (q_15, .inl (cA_16, 64, .inl (upd (upd (upd f_28 61 4186) 62 4198) 63 4199))), (q_29, .inl (cA_30, 27, .inl f_33))] := hD
  refine lv_dup hx hb d_mLines_init_979 rfl ?_
  refine lv_bipush (v := 15) hx hb d_mLines_init_980 (by decide) ?_
  refine lv_sipush (v := 725) hx hb d_mLines_init_982 (by decide) ?_
  refine va_iast hx hb hK hP hD hS 3 2 rfl rfl (show ¬ ((15 : Int32) < 0 ∨ 27 ≤ (15 : Int32).toNatClampNeg) by decide) d_mLines_init_985 ?_
  clear hP hD hS
  intro H locs hP hD hS
  rw [show (15 : Int32).toNatClampNeg = 15 by decide] at hP hD
  replace hP : va_P (dC, dI) vcl [(h0, .inr (14, [.ref q_1, .ref q_15, .null, .null, .null, .null, .int 0, .null, .null, .null, .long 0, .null, .int 0, .int 0, .int 0, .int 0, .int 0, .int 0, .int 0, .null, .null])), (q_1, .inl (cA_2, 64, .inl (upd (upd (upd f_14 61 306) 62 307) 63 308))), (q_15, .inl (cA_16, 64, .inl (upd (upd (upd f_28 61 4186) 62 4198) 63 4199))), (q_29, .inl (cA_30, 27, .inl (upd f_33 15 725)))] H := hP
  replace hD : va_D A [(h0, .inr (14, [.ref q_1, .ref q_15, .null, .null, .null, .null, .int 0, .null, .null, .null, .long 0, .null, .int 0, .int 0, .int 0, .int 0, .int 0, .int 0, .int 0, .null, .null])), (q_1, .inl (cA_2, 64, .inl (upd (upd (upd f_14 61 306) 62 307) 63 308))), (q_15, .inl (cA_16, 64, .inl (upd (upd (upd f_28 61 4186) 62 4198) 63 4199))), (q_29, .inl (cA_30, 27, .inl (upd f_33 15 725)))] := hD
  refine lv_dup hx hb d_mLines_init_986 rfl ?_
  refine lv_bipush (v := 16) hx hb d_mLines_init_987 (by decide) ?_
  refine lv_sipush (v := 726) hx hb d_mLines_init_989 (by decide) ?_
  refine va_iast hx hb hK hP hD hS 3 2 rfl rfl (show ¬ ((16 : Int32) < 0 ∨ 27 ≤ (16 : Int32).toNatClampNeg) by decide) d_mLines_init_992 ?_
  clear hP hD hS
  intro H locs hP hD hS
  rw [show (16 : Int32).toNatClampNeg = 16 by decide] at hP hD
  replace hP : va_P (dC, dI) vcl [(h0, .inr (14, [.ref q_1, .ref q_15, .null, .null, .null, .null, .int 0, .null, .null, .null, .long 0, .null, .int 0, .int 0, .int 0, .int 0, .int 0, .int 0, .int 0, .null, .null])), (q_1, .inl (cA_2, 64, .inl (upd (upd (upd f_14 61 306) 62 307) 63 308))), (q_15, .inl (cA_16, 64, .inl (upd (upd (upd f_28 61 4186) 62 4198) 63 4199))), (q_29, .inl (cA_30, 27, .inl (upd (upd f_33 15 725) 16 726)))] H := hP
  replace hD : va_D A [(h0, .inr (14, [.ref q_1, .ref q_15, .null, .null, .null, .null, .int 0, .null, .null, .null, .long 0, .null, .int 0, .int 0, .int 0, .int 0, .int 0, .int 0, .int 0, .null, .null])), (q_1, .inl (cA_2, 64, .inl (upd (upd (upd f_14 61 306) 62 307) 63 308))), (q_15, .inl (cA_16, 64, .inl (upd (upd (upd f_28 61 4186) 62 4198) 63 4199))), (q_29, .inl (cA_30, 27, .inl (upd (upd f_33 15 725) 16 726)))] := hD
  refine lv_dup hx hb d_mLines_init_993 rfl ?_
  refine lv_bipush (v := 17) hx hb d_mLines_init_994 (by decide) ?_
  refine lv_sipush (v := 727) hx hb d_mLines_init_996 (by decide) ?_
  refine va_iast hx hb hK hP hD hS 3 2 rfl rfl (show ¬ ((17 : Int32) < 0 ∨ 27 ≤ (17 : Int32).toNatClampNeg) by decide) d_mLines_init_999 ?_
  clear hP hD hS
  intro H locs hP hD hS
  rw [show (17 : Int32).toNatClampNeg = 17 by decide] at hP hD
  replace hP : va_P (dC, dI) vcl [(h0, .inr (14, [.ref q_1, .ref q_15, .null, .null, .null, .null, .int 0, .null, .null, .null, .long 0, .null, .int 0, .int 0, .int 0, .int 0, .int 0, .int 0, .int 0, .null, .null])), (q_1, .inl (cA_2, 64, .inl (upd (upd (upd f_14 61 306) 62 307) 63 308))), (q_15, .inl (cA_16, 64, .inl (upd (upd (upd f_28 61 4186) 62 4198) 63 4199))), (q_29, .inl (cA_30, 27, .inl (upd (upd (upd f_33 15 725) 16 726) 17 727)))] H := hP
  replace hD : va_D A [(h0, .inr (14, [.ref q_1, .ref q_15, .null, .null, .null, .null, .int 0, .null, .null, .null, .long 0, .null, .int 0, .int 0, .int 0, .int 0, .int 0, .int 0, .int 0, .null, .null])), (q_1, .inl (cA_2, 64, .inl (upd (upd (upd f_14 61 306) 62 307) 63 308))), (q_15, .inl (cA_16, 64, .inl (upd (upd (upd f_28 61 4186) 62 4198) 63 4199))), (q_29, .inl (cA_30, 27, .inl (upd (upd (upd f_33 15 725) 16 726) 17 727)))] := hD
  refine lv_dup hx hb d_mLines_init_1000 rfl ?_
  refine lv_bipush (v := 18) hx hb d_mLines_init_1001 (by decide) ?_
  refine lv_sipush (v := 728) hx hb d_mLines_init_1003 (by decide) ?_
  refine va_iast hx hb hK hP hD hS 3 2 rfl rfl (show ¬ ((18 : Int32) < 0 ∨ 27 ≤ (18 : Int32).toNatClampNeg) by decide) d_mLines_init_1006 ?_
  clear hP hD hS
  intro H locs hP hD hS
  rw [show (18 : Int32).toNatClampNeg = 18 by decide] at hP hD
  replace hP : va_P (dC, dI) vcl [(h0, .inr (14, [.ref q_1, .ref q_15, .null, .null, .null, .null, .int 0, .null, .null, .null, .long 0, .null, .int 0, .int 0, .int 0, .int 0, .int 0, .int 0, .int 0, .null, .null])), (q_1, .inl (cA_2, 64, .inl (upd (upd (upd f_14 61 306) 62 307) 63 308))), (q_15, .inl (cA_16, 64, .inl (upd (upd (upd f_28 61 4186) 62 4198) 63 4199))), (q_29, .inl (cA_30, 27, .inl (upd (upd (upd (upd f_33 15 725) 16 726) 17 727) 18 728)))] H := hP
  replace hD : va_D A [(h0, .inr (14, [.ref q_1, .ref q_15, .null, .null, .null, .null, .int 0, .null, .null, .null, .long 0, .null, .int 0, .int 0, .int 0, .int 0, .int 0, .int 0, .int 0, .null, .null])), (q_1, .inl (cA_2, 64, .inl (upd (upd (upd f_14 61 306) 62 307) 63 308))), (q_15, .inl (cA_16, 64, .inl (upd (upd (upd f_28 61 4186) 62 4198) 63 4199))), (q_29, .inl (cA_30, 27, .inl (upd (upd (upd (upd f_33 15 725) 16 726) 17 727) 18 728)))] := hD
  refine lv_dup hx hb d_mLines_init_1007 rfl ?_
  refine lv_bipush (v := 19) hx hb d_mLines_init_1008 (by decide) ?_
  refine lv_sipush (v := 729) hx hb d_mLines_init_1010 (by decide) ?_
  refine va_iast hx hb hK hP hD hS 3 2 rfl rfl (show ¬ ((19 : Int32) < 0 ∨ 27 ≤ (19 : Int32).toNatClampNeg) by decide) d_mLines_init_1013 ?_
  clear hP hD hS
  intro H locs hP hD hS
  rw [show (19 : Int32).toNatClampNeg = 19 by decide] at hP hD
  obtain ⟨f_34, ef_34⟩ : ∃ y : Nat → Int32, y = upd (upd (upd (upd (upd f_33 15 725) 16 726) 17 727) 18 728) 19 729 := ⟨_, rfl⟩
  replace hP : va_P (dC, dI) vcl [(h0, .inr (14, [.ref q_1, .ref q_15, .null, .null, .null, .null, .int 0, .null, .null, .null, .long 0, .null, .int 0, .int 0, .int 0, .int 0, .int 0, .int 0, .int 0, .null, .null])), (q_1, .inl (cA_2, 64, .inl (upd (upd (upd f_14 61 306) 62 307) 63 308))), (q_15, .inl (cA_16, 64, .inl (upd (upd (upd f_28 61 4186) 62 4198) 63 4199))), (q_29, .inl (cA_30, 27, .inl (upd (upd (upd (upd (upd f_33 15 725) 16 726) 17 727) 18 728) 19 729)))] H := hP
  replace hD : va_D A [(h0, .inr (14, [.ref q_1, .ref q_15, .null, .null, .null, .null, .int 0, .null, .null, .null, .long 0, .null, .int 0, .int 0, .int 0, .int 0, .int 0, .int 0, .int 0, .null, .null])), (q_1, .inl (cA_2, 64, .inl (upd (upd (upd f_14 61 306) 62 307) 63 308))), (q_15, .inl (cA_16, 64, .inl (upd (upd (upd f_28 61 4186) 62 4198) 63 4199))), (q_29, .inl (cA_30, 27, .inl (upd (upd (upd (upd (upd f_33 15 725) 16 726) 17 727) 18 728) 19 729)))] := hD
  rw [← ef_34] at hP hD
  replace hP : va_P (dC, dI) vcl [(h0, .inr (14, [.ref q_1, .ref q_15, .null, .null, .null, .null, .int 0, .null, .null, .null, .long 0, .null, .int 0, .int 0, .int 0, .int 0, .int 0, .int 0, .int 0, .null, .null])), (q_1, .inl (cA_2, 64, .inl (upd (upd (upd f_14 61 306) 62 307) 63 308))), (q_15, .inl (cA_16, 64, .inl (upd (upd (upd f_28 61 4186) 62 4198) 63 4199))), (q_29, .inl (cA_30, 27, .inl f_34))] H := hP
  replace hD : va_D A [(h0, .inr (14, [.ref q_1, .ref q_15, .null, .null, .null, .null, .int 0, .null, .null, .null, .long 0, .null, .int 0, .int 0, .int 0, .int 0, .int 0, .int 0, .int 0, .null, .null])), (q_1, .inl (cA_2, 64, .inl (upd (upd (upd f_14 61 306) 62 307) 63 308))), (q_15, .inl (cA_16, 64, .inl (upd (upd (upd f_28 61 4186) 62 4198) 63 4199))), (q_29, .inl (cA_30, 27, .inl f_34))] := hD
  refine lv_dup hx hb d_mLines_init_1014 rfl ?_
  refine lv_bipush (v := 20) hx hb d_mLines_init_1015 (by decide) ?_
  refine lv_sipush (v := 730) hx hb d_mLines_init_1017 (by decide) ?_
  refine va_iast hx hb hK hP hD hS 3 2 rfl rfl (show ¬ ((20 : Int32) < 0 ∨ 27 ≤ (20 : Int32).toNatClampNeg) by decide) d_mLines_init_1020 ?_
  clear hP hD hS
  intro H locs hP hD hS
  rw [show (20 : Int32).toNatClampNeg = 20 by decide] at hP hD
  replace hP : va_P (dC, dI) vcl [(h0, .inr (14, [.ref q_1, .ref q_15, .null, .null, .null, .null, .int 0, .null, .null, .null, .long 0, .null, .int 0, .int 0, .int 0, .int 0, .int 0, .int 0, .int 0, .null, .null])), (q_1, .inl (cA_2, 64, .inl (upd (upd (upd f_14 61 306) 62 307) 63 308))), (q_15, .inl (cA_16, 64, .inl (upd (upd (upd f_28 61 4186) 62 4198) 63 4199))), (q_29, .inl (cA_30, 27, .inl (upd f_34 20 730)))] H := hP
  replace hD : va_D A [(h0, .inr (14, [.ref q_1, .ref q_15, .null, .null, .null, .null, .int 0, .null, .null, .null, .long 0, .null, .int 0, .int 0, .int 0, .int 0, .int 0, .int 0, .int 0, .null, .null])), (q_1, .inl (cA_2, 64, .inl (upd (upd (upd f_14 61 306) 62 307) 63 308))), (q_15, .inl (cA_16, 64, .inl (upd (upd (upd f_28 61 4186) 62 4198) 63 4199))), (q_29, .inl (cA_30, 27, .inl (upd f_34 20 730)))] := hD
  refine lv_dup hx hb d_mLines_init_1021 rfl ?_
  refine lv_bipush (v := 21) hx hb d_mLines_init_1022 (by decide) ?_
  refine lv_sipush (v := 731) hx hb d_mLines_init_1024 (by decide) ?_
  refine va_iast hx hb hK hP hD hS 3 2 rfl rfl (show ¬ ((21 : Int32) < 0 ∨ 27 ≤ (21 : Int32).toNatClampNeg) by decide) d_mLines_init_1027 ?_
  clear hP hD hS
  intro H locs hP hD hS
  rw [show (21 : Int32).toNatClampNeg = 21 by decide] at hP hD
  replace hP : va_P (dC, dI) vcl [(h0, .inr (14, [.ref q_1, .ref q_15, .null, .null, .null, .null, .int 0, .null, .null, .null, .long 0, .null, .int 0, .int 0, .int 0, .int 0, .int 0, .int 0, .int 0, .null, .null])), (q_1, .inl (cA_2, 64, .inl (upd (upd (upd f_14 61 306) 62 307) 63 308))), (q_15, .inl (cA_16, 64, .inl (upd (upd (upd f_28 61 4186) 62 4198) 63 4199))), (q_29, .inl (cA_30, 27, .inl (upd (upd f_34 20 730) 21 731)))] H := hP
  replace hD : va_D A [(h0, .inr (14, [.ref q_1, .ref q_15, .null, .null, .null, .null, .int 0, .null, .null, .null, .long 0, .null, .int 0, .int 0, .int 0, .int 0, .int 0, .int 0, .int 0, .null, .null])), (q_1, .inl (cA_2, 64, .inl (upd (upd (upd f_14 61 306) 62 307) 63 308))), (q_15, .inl (cA_16, 64, .inl (upd (upd (upd f_28 61 4186) 62 4198) 63 4199))), (q_29, .inl (cA_30, 27, .inl (upd (upd f_34 20 730) 21 731)))] := hD
  refine lv_dup hx hb d_mLines_init_1028 rfl ?_
  refine lv_bipush (v := 22) hx hb d_mLines_init_1029 (by decide) ?_
  refine lv_sipush (v := 664) hx hb d_mLines_init_1031 (by decide) ?_
  refine va_iast hx hb hK hP hD hS 3 2 rfl rfl (show ¬ ((22 : Int32) < 0 ∨ 27 ≤ (22 : Int32).toNatClampNeg) by decide) d_mLines_init_1034 ?_
  clear hP hD hS
  intro H locs hP hD hS
  rw [show (22 : Int32).toNatClampNeg = 22 by decide] at hP hD
  replace hP : va_P (dC, dI) vcl [(h0, .inr (14, [.ref q_1, .ref q_15, .null, .null, .null, .null, .int 0, .null, .null, .null, .long 0, .null, .int 0, .int 0, .int 0, .int 0, .int 0, .int 0, .int 0, .null, .null])), (q_1, .inl (cA_2, 64, .inl (upd (upd (upd f_14 61 306) 62 307) 63 308))), (q_15, .inl (cA_16, 64, .inl (upd (upd (upd f_28 61 4186) 62 4198) 63 4199))), (q_29, .inl (cA_30, 27, .inl (upd (upd (upd f_34 20 730) 21 731) 22 664)))] H := hP
  replace hD : va_D A [(h0, .inr (14, [.ref q_1, .ref q_15, .null, .null, .null, .null, .int 0, .null, .null, .null, .long 0, .null, .int 0, .int 0, .int 0, .int 0, .int 0, .int 0, .int 0, .null, .null])), (q_1, .inl (cA_2, 64, .inl (upd (upd (upd f_14 61 306) 62 307) 63 308))), (q_15, .inl (cA_16, 64, .inl (upd (upd (upd f_28 61 4186) 62 4198) 63 4199))), (q_29, .inl (cA_30, 27, .inl (upd (upd (upd f_34 20 730) 21 731) 22 664)))] := hD
  refine lv_dup hx hb d_mLines_init_1035 rfl ?_
  refine lv_bipush (v := 23) hx hb d_mLines_init_1036 (by decide) ?_
  refine lv_sipush (v := 665) hx hb d_mLines_init_1038 (by decide) ?_
  refine va_iast hx hb hK hP hD hS 3 2 rfl rfl (show ¬ ((23 : Int32) < 0 ∨ 27 ≤ (23 : Int32).toNatClampNeg) by decide) d_mLines_init_1041 ?_
  clear hP hD hS
  intro H locs hP hD hS
  rw [show (23 : Int32).toNatClampNeg = 23 by decide] at hP hD
  replace hP : va_P (dC, dI) vcl [(h0, .inr (14, [.ref q_1, .ref q_15, .null, .null, .null, .null, .int 0, .null, .null, .null, .long 0, .null, .int 0, .int 0, .int 0, .int 0, .int 0, .int 0, .int 0, .null, .null])), (q_1, .inl (cA_2, 64, .inl (upd (upd (upd f_14 61 306) 62 307) 63 308))), (q_15, .inl (cA_16, 64, .inl (upd (upd (upd f_28 61 4186) 62 4198) 63 4199))), (q_29, .inl (cA_30, 27, .inl (upd (upd (upd (upd f_34 20 730) 21 731) 22 664) 23 665)))] H := hP
  replace hD : va_D A [(h0, .inr (14, [.ref q_1, .ref q_15, .null, .null, .null, .null, .int 0, .null, .null, .null, .long 0, .null, .int 0, .int 0, .int 0, .int 0, .int 0, .int 0, .int 0, .null, .null])), (q_1, .inl (cA_2, 64, .inl (upd (upd (upd f_14 61 306) 62 307) 63 308))), (q_15, .inl (cA_16, 64, .inl (upd (upd (upd f_28 61 4186) 62 4198) 63 4199))), (q_29, .inl (cA_30, 27, .inl (upd (upd (upd (upd f_34 20 730) 21 731) 22 664) 23 665)))] := hD
  refine lv_dup hx hb d_mLines_init_1042 rfl ?_
  refine lv_bipush (v := 24) hx hb d_mLines_init_1043 (by decide) ?_
  refine lv_sipush (v := 666) hx hb d_mLines_init_1045 (by decide) ?_
  refine va_iast hx hb hK hP hD hS 3 2 rfl rfl (show ¬ ((24 : Int32) < 0 ∨ 27 ≤ (24 : Int32).toNatClampNeg) by decide) d_mLines_init_1048 ?_
  clear hP hD hS
  intro H locs hP hD hS
  rw [show (24 : Int32).toNatClampNeg = 24 by decide] at hP hD
  obtain ⟨f_35, ef_35⟩ : ∃ y : Nat → Int32, y = upd (upd (upd (upd (upd f_34 20 730) 21 731) 22 664) 23 665) 24 666 := ⟨_, rfl⟩
  replace hP : va_P (dC, dI) vcl [(h0, .inr (14, [.ref q_1, .ref q_15, .null, .null, .null, .null, .int 0, .null, .null, .null, .long 0, .null, .int 0, .int 0, .int 0, .int 0, .int 0, .int 0, .int 0, .null, .null])), (q_1, .inl (cA_2, 64, .inl (upd (upd (upd f_14 61 306) 62 307) 63 308))), (q_15, .inl (cA_16, 64, .inl (upd (upd (upd f_28 61 4186) 62 4198) 63 4199))), (q_29, .inl (cA_30, 27, .inl (upd (upd (upd (upd (upd f_34 20 730) 21 731) 22 664) 23 665) 24 666)))] H := hP
  replace hD : va_D A [(h0, .inr (14, [.ref q_1, .ref q_15, .null, .null, .null, .null, .int 0, .null, .null, .null, .long 0, .null, .int 0, .int 0, .int 0, .int 0, .int 0, .int 0, .int 0, .null, .null])), (q_1, .inl (cA_2, 64, .inl (upd (upd (upd f_14 61 306) 62 307) 63 308))), (q_15, .inl (cA_16, 64, .inl (upd (upd (upd f_28 61 4186) 62 4198) 63 4199))), (q_29, .inl (cA_30, 27, .inl (upd (upd (upd (upd (upd f_34 20 730) 21 731) 22 664) 23 665) 24 666)))] := hD
  rw [← ef_35] at hP hD
  replace hP : va_P (dC, dI) vcl [(h0, .inr (14, [.ref q_1, .ref q_15, .null, .null, .null, .null, .int 0, .null, .null, .null, .long 0, .null, .int 0, .int 0, .int 0, .int 0, .int 0, .int 0, .int 0, .null, .null])), (q_1, .inl (cA_2, 64, .inl (upd (upd (upd f_14 61 306) 62 307) 63 308))), (q_15, .inl (cA_16, 64, .inl (upd (upd (upd f_28 61 4186) 62 4198) 63 4199))), (q_29, .inl (cA_30, 27, .inl f_35))] H := hP
  replace hD : va_D A [(h0, .inr (14, [.ref q_1, .ref q_15, .null, .null, .null, .null, .int 0, .null, .null, .null, .long 0, .null, .int 0, .int 0, .int 0, .int 0, .int 0, .int 0, .int 0, .null, .null])), (q_1, .inl (cA_2, 64, .inl (upd (upd (upd f_14 61 306) 62 307) 63 308))), (q_15, .inl (cA_16, 64, .inl (upd (upd (upd f_28 61 4186) 62 4198) 63 4199))), (q_29, .inl (cA_30, 27, .inl f_35))] := hD
  refine lv_dup hx hb d_mLines_init_1049 rfl ?_
  refine lv_bipush (v := 25) hx hb d_mLines_init_1050 (by decide) ?_
  refine lv_bipush (v := 88) hx hb d_mLines_init_1052 (by decide) ?_
  refine va_iast hx hb hK hP hD hS 3 2 rfl rfl (show ¬ ((25 : Int32) < 0 ∨ 27 ≤ (25 : Int32).toNatClampNeg) by decide) d_mLines_init_1054 ?_
  clear hP hD hS
  intro H locs hP hD hS
  rw [show (25 : Int32).toNatClampNeg = 25 by decide] at hP hD
  replace hP : va_P (dC, dI) vcl [(h0, .inr (14, [.ref q_1, .ref q_15, .null, .null, .null, .null, .int 0, .null, .null, .null, .long 0, .null, .int 0, .int 0, .int 0, .int 0, .int 0, .int 0, .int 0, .null, .null])), (q_1, .inl (cA_2, 64, .inl (upd (upd (upd f_14 61 306) 62 307) 63 308))), (q_15, .inl (cA_16, 64, .inl (upd (upd (upd f_28 61 4186) 62 4198) 63 4199))), (q_29, .inl (cA_30, 27, .inl (upd f_35 25 88)))] H := hP
  replace hD : va_D A [(h0, .inr (14, [.ref q_1, .ref q_15, .null, .null, .null, .null, .int 0, .null, .null, .null, .long 0, .null, .int 0, .int 0, .int 0, .int 0, .int 0, .int 0, .int 0, .null, .null])), (q_1, .inl (cA_2, 64, .inl (upd (upd (upd f_14 61 306) 62 307) 63 308))), (q_15, .inl (cA_16, 64, .inl (upd (upd (upd f_28 61 4186) 62 4198) 63 4199))), (q_29, .inl (cA_30, 27, .inl (upd f_35 25 88)))] := hD
  refine lv_dup hx hb d_mLines_init_1055 rfl ?_
  refine lv_bipush (v := 26) hx hb d_mLines_init_1056 (by decide) ?_
  refine lv_sipush (v := 667) hx hb d_mLines_init_1058 (by decide) ?_
  refine va_iast hx hb hK hP hD hS 3 2 rfl rfl (show ¬ ((26 : Int32) < 0 ∨ 27 ≤ (26 : Int32).toNatClampNeg) by decide) d_mLines_init_1061 ?_
  clear hP hD hS
  intro H locs hP hD hS
  rw [show (26 : Int32).toNatClampNeg = 26 by decide] at hP hD
  replace hP : va_P (dC, dI) vcl [(h0, .inr (14, [.ref q_1, .ref q_15, .null, .null, .null, .null, .int 0, .null, .null, .null, .long 0, .null, .int 0, .int 0, .int 0, .int 0, .int 0, .int 0, .int 0, .null, .null])), (q_1, .inl (cA_2, 64, .inl (upd (upd (upd f_14 61 306) 62 307) 63 308))), (q_15, .inl (cA_16, 64, .inl (upd (upd (upd f_28 61 4186) 62 4198) 63 4199))), (q_29, .inl (cA_30, 27, .inl (upd (upd f_35 25 88) 26 667)))] H := hP
  replace hD : va_D A [(h0, .inr (14, [.ref q_1, .ref q_15, .null, .null, .null, .null, .int 0, .null, .null, .null, .long 0, .null, .int 0, .int 0, .int 0, .int 0, .int 0, .int 0, .int 0, .null, .null])), (q_1, .inl (cA_2, 64, .inl (upd (upd (upd f_14 61 306) 62 307) 63 308))), (q_15, .inl (cA_16, 64, .inl (upd (upd (upd f_28 61 4186) 62 4198) 63 4199))), (q_29, .inl (cA_30, 27, .inl (upd (upd f_35 25 88) 26 667)))] := hD
  refine va_putF (D := (dC, dI)) (ci := 14) (v := .ref q_29) (ty := (.array .int)) (C := R_mLines) (T := F_mLines) (N := 21) hx hb hwd i_mLines t_mLines to_mLines no_mLines hown hK hP hD hS 0 rfl rfl 2 (by decide) (hwd _ wd_10_85) (fun _ h9 => h9) rfl hin rfl (by decide +kernel) rfl rfl (Nat.le_of_ble_eq_true rfl) d_mLines_init_1062 ?_
  clear hP hD hS
  intro H locs hP hD hS
  replace hP : va_P (dC, dI) vcl [(h0, .inr (14, [.ref q_1, .ref q_15, .ref q_29, .null, .null, .null, .int 0, .null, .null, .null, .long 0, .null, .int 0, .int 0, .int 0, .int 0, .int 0, .int 0, .int 0, .null, .null])), (q_1, .inl (cA_2, 64, .inl (upd (upd (upd f_14 61 306) 62 307) 63 308))), (q_15, .inl (cA_16, 64, .inl (upd (upd (upd f_28 61 4186) 62 4198) 63 4199))), (q_29, .inl (cA_30, 27, .inl (upd (upd f_35 25 88) 26 667)))] H := hP
  replace hD : va_D A [(h0, .inr (14, [.ref q_1, .ref q_15, .ref q_29, .null, .null, .null, .int 0, .null, .null, .null, .long 0, .null, .int 0, .int 0, .int 0, .int 0, .int 0, .int 0, .int 0, .null, .null])), (q_1, .inl (cA_2, 64, .inl (upd (upd (upd f_14 61 306) 62 307) 63 308))), (q_15, .inl (cA_16, 64, .inl (upd (upd (upd f_28 61 4186) 62 4198) 63 4199))), (q_29, .inl (cA_30, 27, .inl (upd (upd f_35 25 88) 26 667)))] := hD
  refine lv_aload_n hx hb d_mLines_init_1065 rfl (lv_at hl 0 rfl) ?_
  refine lv_bipush (v := 27) hx hb d_mLines_init_1066 (by decide) ?_
  refine va_newa (atype := .int) (N' := 27) (a0 := (27, .inl (fun _ => 0))) (ty := .int) (n := 27) hx hb (hwd _ wd_1_167) rfl hK hP hD hS hA (fun _ => rfl) (by decide) (by decide) (by decide) (Nat.le_of_ble_eq_true rfl) (Nat.le_of_ble_eq_true rfl) d_mLines_init_1068 ?_
  clear hP hD hS hK
  intro q_36 cA_37 H hK hP hD hS
  replace hP : va_P (dC, dI) vcl [(h0, .inr (14, [.ref q_1, .ref q_15, .ref q_29, .null, .null, .null, .int 0, .null, .null, .null, .long 0, .null, .int 0, .int 0, .int 0, .int 0, .int 0, .int 0, .int 0, .null, .null])), (q_1, .inl (cA_2, 64, .inl (upd (upd (upd f_14 61 306) 62 307) 63 308))), (q_15, .inl (cA_16, 64, .inl (upd (upd (upd f_28 61 4186) 62 4198) 63 4199))), (q_29, .inl (cA_30, 27, .inl (upd (upd f_35 25 88) 26 667))), (q_36, .inl (cA_37, 27, .inl (fun _ => 0)))] H := hP
  replace hD : va_D A [(h0, .inr (14, [.ref q_1, .ref q_15, .ref q_29, .null, .null, .null, .int 0, .null, .null, .null, .long 0, .null, .int 0, .int 0, .int 0, .int 0, .int 0, .int 0, .int 0, .null, .null])), (q_1, .inl (cA_2, 64, .inl (upd (upd (upd f_14 61 306) 62 307) 63 308))), (q_15, .inl (cA_16, 64, .inl (upd (upd (upd f_28 61 4186) 62 4198) 63 4199))), (q_29, .inl (cA_30, 27, .inl (upd (upd f_35 25 88) 26 667))), (q_36, .inl (cA_37, 27, .inl (fun _ => 0)))] := hD
  replace hK : va_K (dC, dI) vcl [(cA_2, .int), (cA_16, .int), (cA_30, .int), (cA_37, .int)] s := hK
  refine W.widen (k := 4) (n := 182) (by decide) (by decide) ?_
  refine lv_dup hx hb d_mLines_init_1070 rfl ?_
  refine lv_iconst (v := 0) hx hb d_mLines_init_1071 (by decide) ?_
  refine lv_sipush (v := 1039) hx hb d_mLines_init_1072 (by decide) ?_
  refine va_iast hx hb hK hP hD hS 4 3 rfl rfl (show ¬ ((0 : Int32) < 0 ∨ 27 ≤ (0 : Int32).toNatClampNeg) by decide) d_mLines_init_1075 ?_
  clear hP hD hS
  intro H locs hP hD hS
  rw [show (0 : Int32).toNatClampNeg = 0 by decide] at hP hD
  replace hP : va_P (dC, dI) vcl [(h0, .inr (14, [.ref q_1, .ref q_15, .ref q_29, .null, .null, .null, .int 0, .null, .null, .null, .long 0, .null, .int 0, .int 0, .int 0, .int 0, .int 0, .int 0, .int 0, .null, .null])), (q_1, .inl (cA_2, 64, .inl (upd (upd (upd f_14 61 306) 62 307) 63 308))), (q_15, .inl (cA_16, 64, .inl (upd (upd (upd f_28 61 4186) 62 4198) 63 4199))), (q_29, .inl (cA_30, 27, .inl (upd (upd f_35 25 88) 26 667))), (q_36, .inl (cA_37, 27, .inl (upd (fun _ => 0) 0 1039)))] H := hP
  replace hD : va_D A [(h0, .inr (14, [.ref q_1, .ref q_15, .ref q_29, .null, .null, .null, .int 0, .null, .null, .null, .long 0, .null, .int 0, .int 0, .int 0, .int 0, .int 0, .int 0, .int 0, .null, .null])), (q_1, .inl (cA_2, 64, .inl (upd (upd (upd f_14 61 306) 62 307) 63 308))), (q_15, .inl (cA_16, 64, .inl (upd (upd (upd f_28 61 4186) 62 4198) 63 4199))), (q_29, .inl (cA_30, 27, .inl (upd (upd f_35 25 88) 26 667))), (q_36, .inl (cA_37, 27, .inl (upd (fun _ => 0) 0 1039)))] := hD
  refine lv_dup hx hb d_mLines_init_1076 rfl ?_
  refine lv_iconst (v := 1) hx hb d_mLines_init_1077 (by decide) ?_
  refine lv_sipush (v := 4296) hx hb d_mLines_init_1078 (by decide) ?_
  refine va_iast hx hb hK hP hD hS 4 3 rfl rfl (show ¬ ((1 : Int32) < 0 ∨ 27 ≤ (1 : Int32).toNatClampNeg) by decide) d_mLines_init_1081 ?_
  clear hP hD hS
  intro H locs hP hD hS
  rw [show (1 : Int32).toNatClampNeg = 1 by decide] at hP hD
  replace hP : va_P (dC, dI) vcl [(h0, .inr (14, [.ref q_1, .ref q_15, .ref q_29, .null, .null, .null, .int 0, .null, .null, .null, .long 0, .null, .int 0, .int 0, .int 0, .int 0, .int 0, .int 0, .int 0, .null, .null])), (q_1, .inl (cA_2, 64, .inl (upd (upd (upd f_14 61 306) 62 307) 63 308))), (q_15, .inl (cA_16, 64, .inl (upd (upd (upd f_28 61 4186) 62 4198) 63 4199))), (q_29, .inl (cA_30, 27, .inl (upd (upd f_35 25 88) 26 667))), (q_36, .inl (cA_37, 27, .inl (upd (upd (fun _ => 0) 0 1039) 1 4296)))] H := hP
  replace hD : va_D A [(h0, .inr (14, [.ref q_1, .ref q_15, .ref q_29, .null, .null, .null, .int 0, .null, .null, .null, .long 0, .null, .int 0, .int 0, .int 0, .int 0, .int 0, .int 0, .int 0, .null, .null])), (q_1, .inl (cA_2, 64, .inl (upd (upd (upd f_14 61 306) 62 307) 63 308))), (q_15, .inl (cA_16, 64, .inl (upd (upd (upd f_28 61 4186) 62 4198) 63 4199))), (q_29, .inl (cA_30, 27, .inl (upd (upd f_35 25 88) 26 667))), (q_36, .inl (cA_37, 27, .inl (upd (upd (fun _ => 0) 0 1039) 1 4296)))] := hD
  refine lv_dup hx hb d_mLines_init_1082 rfl ?_
  refine lv_iconst (v := 2) hx hb d_mLines_init_1083 (by decide) ?_
  refine lv_sipush (v := 4297) hx hb d_mLines_init_1084 (by decide) ?_
  refine va_iast hx hb hK hP hD hS 4 3 rfl rfl (show ¬ ((2 : Int32) < 0 ∨ 27 ≤ (2 : Int32).toNatClampNeg) by decide) d_mLines_init_1087 ?_
  clear hP hD hS
  intro H locs hP hD hS
  rw [show (2 : Int32).toNatClampNeg = 2 by decide] at hP hD
  replace hP : va_P (dC, dI) vcl [(h0, .inr (14, [.ref q_1, .ref q_15, .ref q_29, .null, .null, .null, .int 0, .null, .null, .null, .long 0, .null, .int 0, .int 0, .int 0, .int 0, .int 0, .int 0, .int 0, .null, .null])), (q_1, .inl (cA_2, 64, .inl (upd (upd (upd f_14 61 306) 62 307) 63 308))), (q_15, .inl (cA_16, 64, .inl (upd (upd (upd f_28 61 4186) 62 4198) 63 4199))), (q_29, .inl (cA_30, 27, .inl (upd (upd f_35 25 88) 26 667))), (q_36, .inl (cA_37, 27, .inl (upd (upd (upd (fun _ => 0) 0 1039) 1 4296) 2 4297)))] H := hP
  replace hD : va_D A [(h0, .inr (14, [.ref q_1, .ref q_15, .ref q_29, .null, .null, .null, .int 0, .null, .null, .null, .long 0, .null, .int 0, .int 0, .int 0, .int 0, .int 0, .int 0, .int 0, .null, .null])), (q_1, .inl (cA_2, 64, .inl (upd (upd (upd f_14 61 306) 62 307) 63 308))), (q_15, .inl (cA_16, 64, .inl (upd (upd (upd f_28 61 4186) 62 4198) 63 4199))), (q_29, .inl (cA_30, 27, .inl (upd (upd f_35 25 88) 26 667))), (q_36, .inl (cA_37, 27, .inl (upd (upd (upd (fun _ => 0) 0 1039) 1 4296) 2 4297)))] := hD
  refine lv_dup hx hb d_mLines_init_1088 rfl ?_
  refine lv_iconst (v := 3) hx hb d_mLines_init_1089 (by decide) ?_
  refine lv_sipush (v := 4187) hx hb d_mLines_init_1090 (by decide) ?_
  refine va_iast hx hb hK hP hD hS 4 3 rfl rfl (show ¬ ((3 : Int32) < 0 ∨ 27 ≤ (3 : Int32).toNatClampNeg) by decide) d_mLines_init_1093 ?_
  clear hP hD hS
  intro H locs hP hD hS
  rw [show (3 : Int32).toNatClampNeg = 3 by decide] at hP hD
  obtain ⟨f_38, ef_38⟩ : ∃ y : Nat → Int32, y = upd (upd (upd (upd (fun _ => 0) 0 1039) 1 4296) 2 4297) 3 4187 := ⟨_, rfl⟩
  replace hP : va_P (dC, dI) vcl [(h0, .inr (14, [.ref q_1, .ref q_15, .ref q_29, .null, .null, .null, .int 0, .null, .null, .null, .long 0, .null, .int 0, .int 0, .int 0, .int 0, .int 0, .int 0, .int 0, .null, .null])), (q_1, .inl (cA_2, 64, .inl (upd (upd (upd f_14 61 306) 62 307) 63 308))), (q_15, .inl (cA_16, 64, .inl (upd (upd (upd f_28 61 4186) 62 4198) 63 4199))), (q_29, .inl (cA_30, 27, .inl (upd (upd f_35 25 88) 26 667))), (q_36, .inl (cA_37, 27, .inl (upd (upd (upd (upd (fun _ => 0) 0 1039) 1 4296) 2 4297) 3 4187)))] H := hP
  replace hD : va_D A [(h0, .inr (14, [.ref q_1, .ref q_15, .ref q_29, .null, .null, .null, .int 0, .null, .null, .null, .long 0, .null, .int 0, .int 0, .int 0, .int 0, .int 0, .int 0, .int 0, .null, .null])), (q_1, .inl (cA_2, 64, .inl (upd (upd (upd f_14 61 306) 62 307) 63 308))), (q_15, .inl (cA_16, 64, .inl (upd (upd (upd f_28 61 4186) 62 4198) 63 4199))), (q_29, .inl (cA_30, 27, .inl (upd (upd f_35 25 88) 26 667))), (q_36, .inl (cA_37, 27, .inl (upd (upd (upd (upd (fun _ => 0) 0 1039) 1 4296) 2 4297) 3 4187)))] := hD
  rw [← ef_38] at hP hD
  replace hP : va_P (dC, dI) vcl [(h0, .inr (14, [.ref q_1, .ref q_15, .ref q_29, .null, .null, .null, .int 0, .null, .null, .null, .long 0, .null, .int 0, .int 0, .int 0, .int 0, .int 0, .int 0, .int 0, .null, .null])), (q_1, .inl (cA_2, 64, .inl (upd (upd (upd f_14 61 306) 62 307) 63 308))), (q_15, .inl (cA_16, 64, .inl (upd (upd (upd f_28 61 4186) 62 4198) 63 4199))), (q_29, .inl (cA_30, 27, .inl (upd (upd f_35 25 88) 26 667))), (q_36, .inl (cA_37, 27, .inl f_38))] H := hP
  replace hD : va_D A [(h0, .inr (14, [.ref q_1, .ref q_15, .ref q_29, .null, .null, .null, .int 0, .null, .null, .null, .long 0, .null, .int 0, .int 0, .int 0, .int 0, .int 0, .int 0, .int 0, .null, .null])), (q_1, .inl (cA_2, 64, .inl (upd (upd (upd f_14 61 306) 62 307) 63 308))), (q_15, .inl (cA_16, 64, .inl (upd (upd (upd f_28 61 4186) 62 4198) 63 4199))), (q_29, .inl (cA_30, 27, .inl (upd (upd f_35 25 88) 26 667))), (q_36, .inl (cA_37, 27, .inl f_38))] := hD
  refine lv_dup hx hb d_mLines_init_1094 rfl ?_
  refine lv_iconst (v := 4) hx hb d_mLines_init_1095 (by decide) ?_
  refine lv_sipush (v := 4147) hx hb d_mLines_init_1096 (by decide) ?_
  refine va_iast hx hb hK hP hD hS 4 3 rfl rfl (show ¬ ((4 : Int32) < 0 ∨ 27 ≤ (4 : Int32).toNatClampNeg) by decide) d_mLines_init_1099 ?_
  clear hP hD hS
  intro H locs hP hD hS
  rw [show (4 : Int32).toNatClampNeg = 4 by decide] at hP hD
  replace hP : va_P (dC, dI) vcl [(h0, .inr (14, [.ref q_1, .ref q_15, .ref q_29, .null, .null, .null, .int 0, .null, .null, .null, .long 0, .null, .int 0, .int 0, .int 0, .int 0, .int 0, .int 0, .int 0, .null, .null])), (q_1, .inl (cA_2, 64, .inl (upd (upd (upd f_14 61 306) 62 307) 63 308))), (q_15, .inl (cA_16, 64, .inl (upd (upd (upd f_28 61 4186) 62 4198) 63 4199))), (q_29, .inl (cA_30, 27, .inl (upd (upd f_35 25 88) 26 667))), (q_36, .inl (cA_37, 27, .inl (upd f_38 4 4147)))] H := hP
  replace hD : va_D A [(h0, .inr (14, [.ref q_1, .ref q_15, .ref q_29, .null, .null, .null, .int 0, .null, .null, .null, .long 0, .null, .int 0, .int 0, .int 0, .int 0, .int 0, .int 0, .int 0, .null, .null])), (q_1, .inl (cA_2, 64, .inl (upd (upd (upd f_14 61 306) 62 307) 63 308))), (q_15, .inl (cA_16, 64, .inl (upd (upd (upd f_28 61 4186) 62 4198) 63 4199))), (q_29, .inl (cA_30, 27, .inl (upd (upd f_35 25 88) 26 667))), (q_36, .inl (cA_37, 27, .inl (upd f_38 4 4147)))] := hD
  refine lv_dup hx hb d_mLines_init_1100 rfl ?_
  refine lv_iconst (v := 5) hx hb d_mLines_init_1101 (by decide) ?_
  refine lv_sipush (v := 4148) hx hb d_mLines_init_1102 (by decide) ?_
  refine va_iast hx hb hK hP hD hS 4 3 rfl rfl (show ¬ ((5 : Int32) < 0 ∨ 27 ≤ (5 : Int32).toNatClampNeg) by decide) d_mLines_init_1105 ?_
  clear hP hD hS
  intro H locs hP hD hS
  rw [show (5 : Int32).toNatClampNeg = 5 by decide] at hP hD
  replace hP : va_P (dC, dI) vcl [(h0, .inr (14, [.ref q_1, .ref q_15, .ref q_29, .null, .null, .null, .int 0, .null, .null, .null, .long 0, .null, .int 0, .int 0, .int 0, .int 0, .int 0, .int 0, .int 0, .null, .null])), (q_1, .inl (cA_2, 64, .inl (upd (upd (upd f_14 61 306) 62 307) 63 308))), (q_15, .inl (cA_16, 64, .inl (upd (upd (upd f_28 61 4186) 62 4198) 63 4199))), (q_29, .inl (cA_30, 27, .inl (upd (upd f_35 25 88) 26 667))), (q_36, .inl (cA_37, 27, .inl (upd (upd f_38 4 4147) 5 4148)))] H := hP
  replace hD : va_D A [(h0, .inr (14, [.ref q_1, .ref q_15, .ref q_29, .null, .null, .null, .int 0, .null, .null, .null, .long 0, .null, .int 0, .int 0, .int 0, .int 0, .int 0, .int 0, .int 0, .null, .null])), (q_1, .inl (cA_2, 64, .inl (upd (upd (upd f_14 61 306) 62 307) 63 308))), (q_15, .inl (cA_16, 64, .inl (upd (upd (upd f_28 61 4186) 62 4198) 63 4199))), (q_29, .inl (cA_30, 27, .inl (upd (upd f_35 25 88) 26 667))), (q_36, .inl (cA_37, 27, .inl (upd (upd f_38 4 4147) 5 4148)))] := hD
  refine lv_dup hx hb d_mLines_init_1106 rfl ?_
  refine lv_bipush (v := 6) hx hb d_mLines_init_1107 (by decide) ?_
  refine lv_sipush (v := 4149) hx hb d_mLines_init_1109 (by decide) ?_
  refine va_iast hx hb hK hP hD hS 4 3 rfl rfl (show ¬ ((6 : Int32) < 0 ∨ 27 ≤ (6 : Int32).toNatClampNeg) by decide) d_mLines_init_1112 ?_
  clear hP hD hS
  intro H locs hP hD hS
  rw [show (6 : Int32).toNatClampNeg = 6 by decide] at hP hD
  replace hP : va_P (dC, dI) vcl [(h0, .inr (14, [.ref q_1, .ref q_15, .ref q_29, .null, .null, .null, .int 0, .null, .null, .null, .long 0, .null, .int 0, .int 0, .int 0, .int 0, .int 0, .int 0, .int 0, .null, .null])), (q_1, .inl (cA_2, 64, .inl (upd (upd (upd f_14 61 306) 62 307) 63 308))), (q_15, .inl (cA_16, 64, .inl (upd (upd (upd f_28 61 4186) 62 4198) 63 4199))), (q_29, .inl (cA_30, 27, .inl (upd (upd f_35 25 88) 26 667))), (q_36, .inl (cA_37, 27, .inl (upd (upd (upd f_38 4 4147) 5 4148) 6 4149)))] H := hP
  replace hD : va_D A [(h0, .inr (14, [.ref q_1, .ref q_15, .ref q_29, .null, .null, .null, .int 0, .null, .null, .null, .long 0, .null, .int 0, .int 0, .int 0, .int 0, .int 0, .int 0, .int 0, .null, .null])), (q_1, .inl (cA_2, 64, .inl (upd (upd (upd f_14 61 306) 62 307) 63 308))), (q_15, .inl (cA_16, 64, .inl (upd (upd (upd f_28 61 4186) 62 4198) 63 4199))), (q_29, .inl (cA_30, 27, .inl (upd (upd f_35 25 88) 26 667))), (q_36, .inl (cA_37, 27, .inl (upd (upd (upd f_38 4 4147) 5 4148) 6 4149)))] := hD
  refine lv_dup hx hb d_mLines_init_1113 rfl ?_
  refine lv_bipush (v := 7) hx hb d_mLines_init_1114 (by decide) ?_
  refine lv_sipush (v := 8300) hx hb d_mLines_init_1116 (by decide) ?_
  refine va_iast hx hb hK hP hD hS 4 3 rfl rfl (show ¬ ((7 : Int32) < 0 ∨ 27 ≤ (7 : Int32).toNatClampNeg) by decide) d_mLines_init_1119 ?_
  clear hP hD hS
  intro H locs hP hD hS
  rw [show (7 : Int32).toNatClampNeg = 7 by decide] at hP hD
  replace hP : va_P (dC, dI) vcl [(h0, .inr (14, [.ref q_1, .ref q_15, .ref q_29, .null, .null, .null, .int 0, .null, .null, .null, .long 0, .null, .int 0, .int 0, .int 0, .int 0, .int 0, .int 0, .int 0, .null, .null])), (q_1, .inl (cA_2, 64, .inl (upd (upd (upd f_14 61 306) 62 307) 63 308))), (q_15, .inl (cA_16, 64, .inl (upd (upd (upd f_28 61 4186) 62 4198) 63 4199))), (q_29, .inl (cA_30, 27, .inl (upd (upd f_35 25 88) 26 667))), (q_36, .inl (cA_37, 27, .inl (upd (upd (upd (upd f_38 4 4147) 5 4148) 6 4149) 7 8300)))] H := hP
  replace hD : va_D A [(h0, .inr (14, [.ref q_1, .ref q_15, .ref q_29, .null, .null, .null, .int 0, .null, .null, .null, .long 0, .null, .int 0, .int 0, .int 0, .int 0, .int 0, .int 0, .int 0, .null, .null])), (q_1, .inl (cA_2, 64, .inl (upd (upd (upd f_14 61 306) 62 307) 63 308))), (q_15, .inl (cA_16, 64, .inl (upd (upd (upd f_28 61 4186) 62 4198) 63 4199))), (q_29, .inl (cA_30, 27, .inl (upd (upd f_35 25 88) 26 667))), (q_36, .inl (cA_37, 27, .inl (upd (upd (upd (upd f_38 4 4147) 5 4148) 6 4149) 7 8300)))] := hD
  refine lv_dup hx hb d_mLines_init_1120 rfl ?_
  refine lv_bipush (v := 8) hx hb d_mLines_init_1121 (by decide) ?_
  refine lv_sipush (v := 8301) hx hb d_mLines_init_1123 (by decide) ?_
  refine va_iast hx hb hK hP hD hS 4 3 rfl rfl (show ¬ ((8 : Int32) < 0 ∨ 27 ≤ (8 : Int32).toNatClampNeg) by decide) d_mLines_init_1126 ?_
  clear hP hD hS
  intro H locs hP hD hS
  rw [show (8 : Int32).toNatClampNeg = 8 by decide] at hP hD
  obtain ⟨f_39, ef_39⟩ : ∃ y : Nat → Int32, y = upd (upd (upd (upd (upd f_38 4 4147) 5 4148) 6 4149) 7 8300) 8 8301 := ⟨_, rfl⟩
  replace hP : va_P (dC, dI) vcl [(h0, .inr (14, [.ref q_1, .ref q_15, .ref q_29, .null, .null, .null, .int 0, .null, .null, .null, .long 0, .null, .int 0, .int 0, .int 0, .int 0, .int 0, .int 0, .int 0, .null, .null])), (q_1, .inl (cA_2, 64, .inl (upd (upd (upd f_14 61 306) 62 307) 63 308))), (q_15, .inl (cA_16, 64, .inl (upd (upd (upd f_28 61 4186) 62 4198) 63 4199))), (q_29, .inl (cA_30, 27, .inl (upd (upd f_35 25 88) 26 667))), (q_36, .inl (cA_37, 27, .inl (upd (upd (upd (upd (upd f_38 4 4147) 5 4148) 6 4149) 7 8300) 8 8301)))] H := hP
  replace hD : va_D A [(h0, .inr (14, [.ref q_1, .ref q_15, .ref q_29, .null, .null, .null, .int 0, .null, .null, .null, .long 0, .null, .int 0, .int 0, .int 0, .int 0, .int 0, .int 0, .int 0, .null, .null])), (q_1, .inl (cA_2, 64, .inl (upd (upd (upd f_14 61 306) 62 307) 63 308))), (q_15, .inl (cA_16, 64, .inl (upd (upd (upd f_28 61 4186) 62 4198) 63 4199))), (q_29, .inl (cA_30, 27, .inl (upd (upd f_35 25 88) 26 667))), (q_36, .inl (cA_37, 27, .inl (upd (upd (upd (upd (upd f_38 4 4147) 5 4148) 6 4149) 7 8300) 8 8301)))] := hD
  rw [← ef_39] at hP hD
  replace hP : va_P (dC, dI) vcl [(h0, .inr (14, [.ref q_1, .ref q_15, .ref q_29, .null, .null, .null, .int 0, .null, .null, .null, .long 0, .null, .int 0, .int 0, .int 0, .int 0, .int 0, .int 0, .int 0, .null, .null])), (q_1, .inl (cA_2, 64, .inl (upd (upd (upd f_14 61 306) 62 307) 63 308))), (q_15, .inl (cA_16, 64, .inl (upd (upd (upd f_28 61 4186) 62 4198) 63 4199))), (q_29, .inl (cA_30, 27, .inl (upd (upd f_35 25 88) 26 667))), (q_36, .inl (cA_37, 27, .inl f_39))] H := hP
  replace hD : va_D A [(h0, .inr (14, [.ref q_1, .ref q_15, .ref q_29, .null, .null, .null, .int 0, .null, .null, .null, .long 0, .null, .int 0, .int 0, .int 0, .int 0, .int 0, .int 0, .int 0, .null, .null])), (q_1, .inl (cA_2, 64, .inl (upd (upd (upd f_14 61 306) 62 307) 63 308))), (q_15, .inl (cA_16, 64, .inl (upd (upd (upd f_28 61 4186) 62 4198) 63 4199))), (q_29, .inl (cA_30, 27, .inl (upd (upd f_35 25 88) 26 667))), (q_36, .inl (cA_37, 27, .inl f_39))] := hD
  refine lv_dup hx hb d_mLines_init_1127 rfl ?_
  refine lv_bipush (v := 9) hx hb d_mLines_init_1128 (by decide) ?_
  refine lv_sipush (v := 8266) hx hb d_mLines_init_1130 (by decide) ?_
  refine va_iast hx hb hK hP hD hS 4 3 rfl rfl (show ¬ ((9 : Int32) < 0 ∨ 27 ≤ (9 : Int32).toNatClampNeg) by decide) d_mLines_init_1133 ?_
  clear hP hD hS
  intro H locs hP hD hS
  rw [show (9 : Int32).toNatClampNeg = 9 by decide] at hP hD
  replace hP : va_P (dC, dI) vcl [(h0, .inr (14, [.ref q_1, .ref q_15, .ref q_29, .null, .null, .null, .int 0, .null, .null, .null, .long 0, .null, .int 0, .int 0, .int 0, .int 0, .int 0, .int 0, .int 0, .null, .null])), (q_1, .inl (cA_2, 64, .inl (upd (upd (upd f_14 61 306) 62 307) 63 308))), (q_15, .inl (cA_16, 64, .inl (upd (upd (upd f_28 61 4186) 62 4198) 63 4199))), (q_29, .inl (cA_30, 27, .inl (upd (upd f_35 25 88) 26 667))), (q_36, .inl (cA_37, 27, .inl (upd f_39 9 8266)))] H := hP
  replace hD : va_D A [(h0, .inr (14, [.ref q_1, .ref q_15, .ref q_29, .null, .null, .null, .int 0, .null, .null, .null, .long 0, .null, .int 0, .int 0, .int 0, .int 0, .int 0, .int 0, .int 0, .null, .null])), (q_1, .inl (cA_2, 64, .inl (upd (upd (upd f_14 61 306) 62 307) 63 308))), (q_15, .inl (cA_16, 64, .inl (upd (upd (upd f_28 61 4186) 62 4198) 63 4199))), (q_29, .inl (cA_30, 27, .inl (upd (upd f_35 25 88) 26 667))), (q_36, .inl (cA_37, 27, .inl (upd f_39 9 8266)))] := hD
  refine lv_dup hx hb d_mLines_init_1134 rfl ?_
  refine lv_bipush (v := 10) hx hb d_mLines_init_1135 (by decide) ?_
  refine lv_sipush (v := 8267) hx hb d_mLines_init_1137 (by decide) ?_
  refine va_iast hx hb hK hP hD hS 4 3 rfl rfl (show ¬ ((10 : Int32) < 0 ∨ 27 ≤ (10 : Int32).toNatClampNeg) by decide) d_mLines_init_1140 ?_
  clear hP hD hS
  intro H locs hP hD hS
  rw [show (10 : Int32).toNatClampNeg = 10 by decide] at hP hD
  replace hP : va_P (dC, dI) vcl [(h0, .inr (14, [.ref q_1, .ref q_15, .ref q_29, .null, .null, .null, .int 0, .null, .null, .null, .long 0, .null, .int 0, .int 0, .int 0, .int 0, .int 0, .int 0, .int 0, .null, .null])), (q_1, .inl (cA_2, 64, .inl (upd (upd (upd f_14 61 306) 62 307) 63 308))), (q_15, .inl (cA_16, 64, .inl (upd (upd (upd f_28 61 4186) 62 4198) 63 4199))), (q_29, .inl (cA_30, 27, .inl (upd (upd f_35 25 88) 26 667))), (q_36, .inl (cA_37, 27, .inl (upd (upd f_39 9 8266) 10 8267)))] H := hP
  replace hD : va_D A [(h0, .inr (14, [.ref q_1, .ref q_15, .ref q_29, .null, .null, .null, .int 0, .null, .null, .null, .long 0, .null, .int 0, .int 0, .int 0, .int 0, .int 0, .int 0, .int 0, .null, .null])), (q_1, .inl (cA_2, 64, .inl (upd (upd (upd f_14 61 306) 62 307) 63 308))), (q_15, .inl (cA_16, 64, .inl (upd (upd (upd f_28 61 4186) 62 4198) 63 4199))), (q_29, .inl (cA_30, 27, .inl (upd (upd f_35 25 88) 26 667))), (q_36, .inl (cA_37, 27, .inl (upd (upd f_39 9 8266) 10 8267)))] := hD
  refine lv_dup hx hb d_mLines_init_1141 rfl ?_
  refine lv_bipush (v := 11) hx hb d_mLines_init_1142 (by decide) ?_
  refine lv_sipush (v := 8268) hx hb d_mLines_init_1144 (by decide) ?_
  refine va_iast hx hb hK hP hD hS 4 3 rfl rfl (show ¬ ((11 : Int32) < 0 ∨ 27 ≤ (11 : Int32).toNatClampNeg) by decide) d_mLines_init_1147 ?_
  clear hP hD hS
  intro H locs hP hD hS
  rw [show (11 : Int32).toNatClampNeg = 11 by decide] at hP hD
  replace hP : va_P (dC, dI) vcl [(h0, .inr (14, [.ref q_1, .ref q_15, .ref q_29, .null, .null, .null, .int 0, .null, .null, .null, .long 0, .null, .int 0, .int 0, .int 0, .int 0, .int 0, .int 0, .int 0, .null, .null])), (q_1, .inl (cA_2, 64, .inl (upd (upd (upd f_14 61 306) 62 307) 63 308))), (q_15, .inl (cA_16, 64, .inl (upd (upd (upd f_28 61 4186) 62 4198) 63 4199))), (q_29, .inl (cA_30, 27, .inl (upd (upd f_35 25 88) 26 667))), (q_36, .inl (cA_37, 27, .inl (upd (upd (upd f_39 9 8266) 10 8267) 11 8268)))] H := hP
  replace hD : va_D A [(h0, .inr (14, [.ref q_1, .ref q_15, .ref q_29, .null, .null, .null, .int 0, .null, .null, .null, .long 0, .null, .int 0, .int 0, .int 0, .int 0, .int 0, .int 0, .int 0, .null, .null])), (q_1, .inl (cA_2, 64, .inl (upd (upd (upd f_14 61 306) 62 307) 63 308))), (q_15, .inl (cA_16, 64, .inl (upd (upd (upd f_28 61 4186) 62 4198) 63 4199))), (q_29, .inl (cA_30, 27, .inl (upd (upd f_35 25 88) 26 667))), (q_36, .inl (cA_37, 27, .inl (upd (upd (upd f_39 9 8266) 10 8267) 11 8268)))] := hD
  refine lv_dup hx hb d_mLines_init_1148 rfl ?_
  refine lv_bipush (v := 12) hx hb d_mLines_init_1149 (by decide) ?_
  refine lv_sipush (v := 8269) hx hb d_mLines_init_1151 (by decide) ?_
  refine va_iast hx hb hK hP hD hS 4 3 rfl rfl (show ¬ ((12 : Int32) < 0 ∨ 27 ≤ (12 : Int32).toNatClampNeg) by decide) d_mLines_init_1154 ?_
  clear hP hD hS
  intro H locs hP hD hS
  rw [show (12 : Int32).toNatClampNeg = 12 by decide] at hP hD
  replace hP : va_P (dC, dI) vcl [(h0, .inr (14, [.ref q_1, .ref q_15, .ref q_29, .null, .null, .null, .int 0, .null, .null, .null, .long 0, .null, .int 0, .int 0, .int 0, .int 0, .int 0, .int 0, .int 0, .null, .null])), (q_1, .inl (cA_2, 64, .inl (upd (upd (upd f_14 61 306) 62 307) 63 308))), (q_15, .inl (cA_16, 64, .inl (upd (upd (upd f_28 61 4186) 62 4198) 63 4199))), (q_29, .inl (cA_30, 27, .inl (upd (upd f_35 25 88) 26 667))), (q_36, .inl (cA_37, 27, .inl (upd (upd (upd (upd f_39 9 8266) 10 8267) 11 8268) 12 8269)))] H := hP
  replace hD : va_D A [(h0, .inr (14, [.ref q_1, .ref q_15, .ref q_29, .null, .null, .null, .int 0, .null, .null, .null, .long 0, .null, .int 0, .int 0, .int 0, .int 0, .int 0, .int 0, .int 0, .null, .null])), (q_1, .inl (cA_2, 64, .inl (upd (upd (upd f_14 61 306) 62 307) 63 308))), (q_15, .inl (cA_16, 64, .inl (upd (upd (upd f_28 61 4186) 62 4198) 63 4199))), (q_29, .inl (cA_30, 27, .inl (upd (upd f_35 25 88) 26 667))), (q_36, .inl (cA_37, 27, .inl (upd (upd (upd (upd f_39 9 8266) 10 8267) 11 8268) 12 8269)))] := hD
  refine lv_dup hx hb d_mLines_init_1155 rfl ?_
  refine lv_bipush (v := 13) hx hb d_mLines_init_1156 (by decide) ?_
  refine lv_sipush (v := 8306) hx hb d_mLines_init_1158 (by decide) ?_
  refine va_iast hx hb hK hP hD hS 4 3 rfl rfl (show ¬ ((13 : Int32) < 0 ∨ 27 ≤ (13 : Int32).toNatClampNeg) by decide) d_mLines_init_1161 ?_
  clear hP hD hS
  intro H locs hP hD hS
  rw [show (13 : Int32).toNatClampNeg = 13 by decide] at hP hD
  obtain ⟨f_40, ef_40⟩ : ∃ y : Nat → Int32, y = upd (upd (upd (upd (upd f_39 9 8266) 10 8267) 11 8268) 12 8269) 13 8306 := ⟨_, rfl⟩
  replace hP : va_P (dC, dI) vcl [(h0, .inr (14, [.ref q_1, .ref q_15, .ref q_29, .null, .null, .null, .int 0, .null, .null, .null, .long 0, .null, .int 0, .int 0, .int 0, .int 0, .int 0, .int 0, .int 0, .null, .null])), (q_1, .inl (cA_2, 64, .inl (upd (upd (upd f_14 61 306) 62 307) 63 308))), (q_15, .inl (cA_16, 64, .inl (upd (upd (upd f_28 61 4186) 62 4198) 63 4199))), (q_29, .inl (cA_30, 27, .inl (upd (upd f_35 25 88) 26 667))), (q_36, .inl (cA_37, 27, .inl (upd (upd (upd (upd (upd f_39 9 8266) 10 8267) 11 8268) 12 8269) 13 8306)))] H := hP
  replace hD : va_D A [(h0, .inr (14, [.ref q_1, .ref q_15, .ref q_29, .null, .null, .null, .int 0, .null, .null, .null, .long 0, .null, .int 0, .int 0, .int 0, .int 0, .int 0, .int 0, .int 0, .null, .null])), (q_1, .inl (cA_2, 64, .inl (upd (upd (upd f_14 61 306) 62 307) 63 308))), (q_15, .inl (cA_16, 64, .inl (upd (upd (upd f_28 61 4186) 62 4198) 63 4199))), (q_29, .inl (cA_30, 27, .inl (upd (upd f_35 25 88) 26 667))), (q_36, .inl (cA_37, 27, .inl (upd (upd (upd (upd (upd f_39 9 8266) 10 8267) 11 8268) 12 8269) 13 8306)))] := hD
  rw [← ef_40] at hP hD
  replace hP : va_P (dC, dI) vcl [(h0, .inr (14, [.ref q_1, .ref q_15, .ref q_29, .null, .null, .null, .int 0, .null, .null, .null, .long 0, .null, .int 0, .int 0, .int 0, .int 0, .int 0, .int 0, .int 0, .null, .null])), (q_1, .inl (cA_2, 64, .inl (upd (upd (upd f_14 61 306) 62 307) 63 308))), (q_15, .inl (cA_16, 64, .inl (upd (upd (upd f_28 61 4186) 62 4198) 63 4199))), (q_29, .inl (cA_30, 27, .inl (upd (upd f_35 25 88) 26 667))), (q_36, .inl (cA_37, 27, .inl f_40))] H := hP
  replace hD : va_D A [(h0, .inr (14, [.ref q_1, .ref q_15, .ref q_29, .null, .null, .null, .int 0, .null, .null, .null, .long 0, .null, .int 0, .int 0, .int 0, .int 0, .int 0, .int 0, .int 0, .null, .null])), (q_1, .inl (cA_2, 64, .inl (upd (upd (upd f_14 61 306) 62 307) 63 308))), (q_15, .inl (cA_16, 64, .inl (upd (upd (upd f_28 61 4186) 62 4198) 63 4199))), (q_29, .inl (cA_30, 27, .inl (upd (upd f_35 25 88) 26 667))), (q_36, .inl (cA_37, 27, .inl f_40))] := hD
  refine lv_dup hx hb d_mLines_init_1162 rfl ?_
  refine lv_bipush (v := 14) hx hb d_mLines_init_1163 (by decide) ?_
  refine lv_sipush (v := 8307) hx hb d_mLines_init_1165 (by decide) ?_
  refine va_iast hx hb hK hP hD hS 4 3 rfl rfl (show ¬ ((14 : Int32) < 0 ∨ 27 ≤ (14 : Int32).toNatClampNeg) by decide) d_mLines_init_1168 ?_
  clear hP hD hS
  intro H locs hP hD hS
  rw [show (14 : Int32).toNatClampNeg = 14 by decide] at hP hD
  replace hP : va_P (dC, dI) vcl [(h0, .inr (14, [.ref q_1, .ref q_15, .ref q_29, .null, .null, .null, .int 0, .null, .null, .null, .long 0, .null, .int 0, .int 0, .int 0, .int 0, .int 0, .int 0, .int 0, .null, .null])), (q_1, .inl (cA_2, 64, .inl (upd (upd (upd f_14 61 306) 62 307) 63 308))), (q_15, .inl (cA_16, 64, .inl (upd (upd (upd f_28 61 4186) 62 4198) 63 4199))), (q_29, .inl (cA_30, 27, .inl (upd (upd f_35 25 88) 26 667))), (q_36, .inl (cA_37, 27, .inl (upd f_40 14 8307)))] H := hP
  replace hD : va_D A [(h0, .inr (14, [.ref q_1, .ref q_15, .ref q_29, .null, .null, .null, .int 0, .null, .null, .null, .long 0, .null, .int 0, .int 0, .int 0, .int 0, .int 0, .int 0, .int 0, .null, .null])), (q_1, .inl (cA_2, 64, .inl (upd (upd (upd f_14 61 306) 62 307) 63 308))), (q_15, .inl (cA_16, 64, .inl (upd (upd (upd f_28 61 4186) 62 4198) 63 4199))), (q_29, .inl (cA_30, 27, .inl (upd (upd f_35 25 88) 26 667))), (q_36, .inl (cA_37, 27, .inl (upd f_40 14 8307)))] := hD
  refine lv_dup hx hb d_mLines_init_1169 rfl ?_
  refine lv_bipush (v := 15) hx hb d_mLines_init_1170 (by decide) ?_
  refine lv_sipush (v := 8308) hx hb d_mLines_init_1172 (by decide) ?_
  refine va_iast hx hb hK hP hD hS 4 3 rfl rfl (show ¬ ((15 : Int32) < 0 ∨ 27 ≤ (15 : Int32).toNatClampNeg) by decide) d_mLines_init_1175 ?_
  clear hP hD hS
  intro H locs hP hD hS
  rw [show (15 : Int32).toNatClampNeg = 15 by decide] at hP hD
  replace hP : va_P (dC, dI) vcl [(h0, .inr (14, [.ref q_1, .ref q_15, .ref q_29, .null, .null, .null, .int 0, .null, .null, .null, .long 0, .null, .int 0, .int 0, .int 0, .int 0, .int 0, .int 0, .int 0, .null, .null])), (q_1, .inl (cA_2, 64, .inl (upd (upd (upd f_14 61 306) 62 307) 63 308))), (q_15, .inl (cA_16, 64, .inl (upd (upd (upd f_28 61 4186) 62 4198) 63 4199))), (q_29, .inl (cA_30, 27, .inl (upd (upd f_35 25 88) 26 667))), (q_36, .inl (cA_37, 27, .inl (upd (upd f_40 14 8307) 15 8308)))] H := hP
  replace hD : va_D A [(h0, .inr (14, [.ref q_1, .ref q_15, .ref q_29, .null, .null, .null, .int 0, .null, .null, .null, .long 0, .null, .int 0, .int 0, .int 0, .int 0, .int 0, .int 0, .int 0, .null, .null])), (q_1, .inl (cA_2, 64, .inl (upd (upd (upd f_14 61 306) 62 307) 63 308))), (q_15, .inl (cA_16, 64, .inl (upd (upd (upd f_28 61 4186) 62 4198) 63 4199))), (q_29, .inl (cA_30, 27, .inl (upd (upd f_35 25 88) 26 667))), (q_36, .inl (cA_37, 27, .inl (upd (upd f_40 14 8307) 15 8308)))] := hD
  refine lv_dup hx hb d_mLines_init_1176 rfl ?_
  refine lv_bipush (v := 16) hx hb d_mLines_init_1177 (by decide) ?_
  refine lv_sipush (v := 8309) hx hb d_mLines_init_1179 (by decide) ?_
  refine va_iast hx hb hK hP hD hS 4 3 rfl rfl (show ¬ ((16 : Int32) < 0 ∨ 27 ≤ (16 : Int32).toNatClampNeg) by decide) d_mLines_init_1182 ?_
  clear hP hD hS
  intro H locs hP hD hS
  rw [show (16 : Int32).toNatClampNeg = 16 by decide] at hP hD
  replace hP : va_P (dC, dI) vcl [(h0, .inr (14, [.ref q_1, .ref q_15, .ref q_29, .null, .null, .null, .int 0, .null, .null, .null, .long 0, .null, .int 0, .int 0, .int 0, .int 0, .int 0, .int 0, .int 0, .null, .null])), (q_1, .inl (cA_2, 64, .inl (upd (upd (upd f_14 61 306) 62 307) 63 308))), (q_15, .inl (cA_16, 64, .inl (upd (upd (upd f_28 61 4186) 62 4198) 63 4199))), (q_29, .inl (cA_30, 27, .inl (upd (upd f_35 25 88) 26 667))), (q_36, .inl (cA_37, 27, .inl (upd (upd (upd f_40 14 8307) 15 8308) 16 8309)))] H := hP
  replace hD : va_D A [(h0, .inr (14, [.ref q_1, .ref q_15, .ref q_29, .null, .null, .null, .int 0, .null, .null, .null, .long 0, .null, .int 0, .int 0, .int 0, .int 0, .int 0, .int 0, .int 0, .null, .null])), (q_1, .inl (cA_2, 64, .inl (upd (upd (upd f_14 61 306) 62 307) 63 308))), (q_15, .inl (cA_16, 64, .inl (upd (upd (upd f_28 61 4186) 62 4198) 63 4199))), (q_29, .inl (cA_30, 27, .inl (upd (upd f_35 25 88) 26 667))), (q_36, .inl (cA_37, 27, .inl (upd (upd (upd f_40 14 8307) 15 8308) 16 8309)))] := hD
  refine lv_dup hx hb d_mLines_init_1183 rfl ?_
  refine lv_bipush (v := 17) hx hb d_mLines_init_1184 (by decide) ?_
  refine lv_sipush (v := 8310) hx hb d_mLines_init_1186 (by decide) ?_
  refine va_iast hx hb hK hP hD hS 4 3 rfl rfl (show ¬ ((17 : Int32) < 0 ∨ 27 ≤ (17 : Int32).toNatClampNeg) by decide) d_mLines_init_1189 ?_
  clear hP hD hS
  intro H locs hP hD hS
  rw [show (17 : Int32).toNatClampNeg = 17 by decide] at hP hD
  replace hP : va_P (dC, dI) vcl [(h0, .inr (14, [.ref q_1, .ref q_15, .ref q_29, .null, .null, .null, .int 0, .null, .null, .null, .long 0, .null, .int 0, .int 0, .int 0, .int 0, .int 0, .int 0, .int 0, .null, .null])), (q_1, .inl (cA_2, 64, .inl (upd (upd (upd f_14 61 306) 62 307) 63 308))), (q_15, .inl (cA_16, 64, .inl (upd (upd (upd f_28 61 4186) 62 4198) 63 4199))), (q_29, .inl (cA_30, 27, .inl (upd (upd f_35 25 88) 26 667))), (q_36, .inl (cA_37, 27, .inl (upd (upd (upd (upd f_40 14 8307) 15 8308) 16 8309) 17 8310)))] H := hP
  replace hD : va_D A [(h0, .inr (14, [.ref q_1, .ref q_15, .ref q_29, .null, .null, .null, .int 0, .null, .null, .null, .long 0, .null, .int 0, .int 0, .int 0, .int 0, .int 0, .int 0, .int 0, .null, .null])), (q_1, .inl (cA_2, 64, .inl (upd (upd (upd f_14 61 306) 62 307) 63 308))), (q_15, .inl (cA_16, 64, .inl (upd (upd (upd f_28 61 4186) 62 4198) 63 4199))), (q_29, .inl (cA_30, 27, .inl (upd (upd f_35 25 88) 26 667))), (q_36, .inl (cA_37, 27, .inl (upd (upd (upd (upd f_40 14 8307) 15 8308) 16 8309) 17 8310)))] := hD
  refine lv_dup hx hb d_mLines_init_1190 rfl ?_
  refine lv_bipush (v := 18) hx hb d_mLines_init_1191 (by decide) ?_
  refine lv_sipush (v := 8311) hx hb d_mLines_init_1193 (by decide) ?_
  refine va_iast hx hb hK hP hD hS 4 3 rfl rfl (show ¬ ((18 : Int32) < 0 ∨ 27 ≤ (18 : Int32).toNatClampNeg) by decide) d_mLines_init_1196 ?_
  clear hP hD hS
  intro H locs hP hD hS
  rw [show (18 : Int32).toNatClampNeg = 18 by decide] at hP hD
  obtain ⟨f_41, ef_41⟩ : ∃ y : Nat → Int32, y = upd (upd (upd (upd (upd f_40 14 8307) 15 8308) 16 8309) 17 8310) 18 8311 := ⟨_, rfl⟩
  replace hP : va_P (dC, dI) vcl [(h0, .inr (14, [.ref q_1, .ref q_15, .ref q_29, .null, .null, .null, .int 0, .null, .null, .null, .long 0, .null, .int 0, .int 0, .int 0, .int 0, .int 0, .int 0, .int 0, .null, .null])), (q_1, .inl (cA_2, 64, .inl (upd (upd (upd f_14 61 306) 62 307) 63 308))), (q_15, .inl (cA_16, 64, .inl (upd (upd (upd f_28 61 4186) 62 4198) 63 4199))), (q_29, .inl (cA_30, 27, .inl (upd (upd f_35 25 88) 26 667))), (q_36, .inl (cA_37, 27, .inl (upd (upd (upd (upd (upd f_40 14 8307) 15 8308) 16 8309) 17 8310) 18 8311)))] H := hP
  replace hD : va_D A [(h0, .inr (14, [.ref q_1, .ref q_15, .ref q_29, .null, .null, .null, .int 0, .null, .null, .null, .long 0, .null, .int 0, .int 0, .int 0, .int 0, .int 0, .int 0, .int 0, .null, .null])), (q_1, .inl (cA_2, 64, .inl (upd (upd (upd f_14 61 306) 62 307) 63 308))), (q_15, .inl (cA_16, 64, .inl (upd (upd (upd f_28 61 4186) 62 4198) 63 4199))), (q_29, .inl (cA_30, 27, .inl (upd (upd f_35 25 88) 26 667))), (q_36, .inl (cA_37, 27, .inl (upd (upd (upd (upd (upd f_40 14 8307) 15 8308) 16 8309) 17 8310) 18 8311)))] := hD
  rw [← ef_41] at hP hD
  replace hP : va_P (dC, dI) vcl [(h0, .inr (14, [.ref q_1, .ref q_15, .ref q_29, .null, .null, .null, .int 0, .null, .null, .null, .long 0, .null, .int 0, .int 0, .int 0, .int 0, .int 0, .int 0, .int 0, .null, .null])), (q_1, .inl (cA_2, 64, .inl (upd (upd (upd f_14 61 306) 62 307) 63 308))), (q_15, .inl (cA_16, 64, .inl (upd (upd (upd f_28 61 4186) 62 4198) 63 4199))), (q_29, .inl (cA_30, 27, .inl (upd (upd f_35 25 88) 26 667))), (q_36, .inl (cA_37, 27, .inl f_41))] H := hP
  replace hD : va_D A [(h0, .inr (14, [.ref q_1, .ref q_15, .ref q_29, .null, .null, .null, .int 0, .null, .null, .null, .long 0, .null, .int 0, .int 0, .int 0, .int 0, .int 0, .int 0, .int 0, .null, .null])), (q_1, .inl (cA_2, 64, .inl (upd (upd (upd f_14 61 306) 62 307) 63 308))), (q_15, .inl (cA_16, 64, .inl (upd (upd (upd f_28 61 4186) 62 4198) 63 4199))), (q_29, .inl (cA_30, 27, .inl (upd (upd f_35 25 88) 26 667))), (q_36, .inl (cA_37, 27, .inl f_41))] := hD
  refine lv_dup hx hb d_mLines_init_1197 rfl ?_
  refine lv_bipush (v := 19) hx hb d_mLines_init_1198 (by decide) ?_
  refine lv_sipush (v := 8274) hx hb d_mLines_init_1200 (by decide) ?_
  refine va_iast hx hb hK hP hD hS 4 3 rfl rfl (show ¬ ((19 : Int32) < 0 ∨ 27 ≤ (19 : Int32).toNatClampNeg) by decide) d_mLines_init_1203 ?_
  clear hP hD hS
  intro H locs hP hD hS
  rw [show (19 : Int32).toNatClampNeg = 19 by decide] at hP hD
  replace hP : va_P (dC, dI) vcl [(h0, .inr (14, [.ref q_1, .ref q_15, .ref q_29, .null, .null, .null, .int 0, .null, .null, .null, .long 0, .null, .int 0, .int 0, .int 0, .int 0, .int 0, .int 0, .int 0, .null, .null])), (q_1, .inl (cA_2, 64, .inl (upd (upd (upd f_14 61 306) 62 307) 63 308))), (q_15, .inl (cA_16, 64, .inl (upd (upd (upd f_28 61 4186) 62 4198) 63 4199))), (q_29, .inl (cA_30, 27, .inl (upd (upd f_35 25 88) 26 667))), (q_36, .inl (cA_37, 27, .inl (upd f_41 19 8274)))] H := hP
  replace hD : va_D A [(h0, .inr (14, [.ref q_1, .ref q_15, .ref q_29, .null, .null, .null, .int 0, .null, .null, .null, .long 0, .null, .int 0, .int 0, .int 0, .int 0, .int 0, .int 0, .int 0, .null, .null])), (q_1, .inl (cA_2, 64, .inl (upd (upd (upd f_14 61 306) 62 307) 63 308))), (q_15, .inl (cA_16, 64, .inl (upd (upd (upd f_28 61 4186) 62 4198) 63 4199))), (q_29, .inl (cA_30, 27, .inl (upd (upd f_35 25 88) 26 667))), (q_36, .inl (cA_37, 27, .inl (upd f_41 19 8274)))] := hD
  refine lv_dup hx hb d_mLines_init_1204 rfl ?_
  refine lv_bipush (v := 20) hx hb d_mLines_init_1205 (by decide) ?_
  refine lv_sipush (v := 8275) hx hb d_mLines_init_1207 (by decide) ?_
  refine va_iast hx hb hK hP hD hS 4 3 rfl rfl (show ¬ ((20 : Int32) < 0 ∨ 27 ≤ (20 : Int32).toNatClampNeg) by decide) d_mLines_init_1210 ?_
  clear hP hD hS
  intro H locs hP hD hS
  rw [show (20 : Int32).toNatClampNeg = 20 by decide] at hP hD
  replace hP : va_P (dC, dI) vcl [(h0, .inr (14, [.ref q_1, .ref q_15, .ref q_29, .null, .null, .null, .int 0, .null, .null, .null, .long 0, .null, .int 0, .int 0, .int 0, .int 0, .int 0, .int 0, .int 0, .null, .null])), (q_1, .inl (cA_2, 64, .inl (upd (upd (upd f_14 61 306) 62 307) 63 308))), (q_15, .inl (cA_16, 64, .inl (upd (upd (upd f_28 61 4186) 62 4198) 63 4199))), (q_29, .inl (cA_30, 27, .inl (upd (upd f_35 25 88) 26 667))), (q_36, .inl (cA_37, 27, .inl (upd (upd f_41 19 8274) 20 8275)))] H := hP
  replace hD : va_D A [(h0, .inr (14, [.ref q_1, .ref q_15, .ref q_29, .null, .null, .null, .int 0, .null, .null, .null, .long 0, .null, .int 0, .int 0, .int 0, .int 0, .int 0, .int 0, .int 0, .null, .null])), (q_1, .inl (cA_2, 64, .inl (upd (upd (upd f_14 61 306) 62 307) 63 308))), (q_15, .inl (cA_16, 64, .inl (upd (upd (upd f_28 61 4186) 62 4198) 63 4199))), (q_29, .inl (cA_30, 27, .inl (upd (upd f_35 25 88) 26 667))), (q_36, .inl (cA_37, 27, .inl (upd (upd f_41 19 8274) 20 8275)))] := hD
  refine lv_dup hx hb d_mLines_init_1211 rfl ?_
  refine lv_bipush (v := 21) hx hb d_mLines_init_1212 (by decide) ?_
  refine lv_sipush (v := 8276) hx hb d_mLines_init_1214 (by decide) ?_
  refine va_iast hx hb hK hP hD hS 4 3 rfl rfl (show ¬ ((21 : Int32) < 0 ∨ 27 ≤ (21 : Int32).toNatClampNeg) by decide) d_mLines_init_1217 ?_
  clear hP hD hS
  intro H locs hP hD hS
  rw [show (21 : Int32).toNatClampNeg = 21 by decide] at hP hD
  replace hP : va_P (dC, dI) vcl [(h0, .inr (14, [.ref q_1, .ref q_15, .ref q_29, .null, .null, .null, .int 0, .null, .null, .null, .long 0, .null, .int 0, .int 0, .int 0, .int 0, .int 0, .int 0, .int 0, .null, .null])), (q_1, .inl (cA_2, 64, .inl (upd (upd (upd f_14 61 306) 62 307) 63 308))), (q_15, .inl (cA_16, 64, .inl (upd (upd (upd f_28 61 4186) 62 4198) 63 4199))), (q_29, .inl (cA_30, 27, .inl (upd (upd f_35 25 88) 26 667))), (q_36, .inl (cA_37, 27, .inl (upd (upd (upd f_41 19 8274) 20 8275) 21 8276)))] H := hP
  replace hD : va_D A [(h0, .inr (14, [.ref q_1, .ref q_15, .ref q_29, .null, .null, .null, .int 0, .null, .null, .null, .long 0, .null, .int 0, .int 0, .int 0, .int 0, .int 0, .int 0, .int 0, .null, .null])), (q_1, .inl (cA_2, 64, .inl (upd (upd (upd f_14 61 306) 62 307) 63 308))), (q_15, .inl (cA_16, 64, .inl (upd (upd (upd f_28 61 4186) 62 4198) 63 4199))), (q_29, .inl (cA_30, 27, .inl (upd (upd f_35 25 88) 26 667))), (q_36, .inl (cA_37, 27, .inl (upd (upd (upd f_41 19 8274) 20 8275) 21 8276)))] := hD
  refine lv_dup hx hb d_mLines_init_1218 rfl ?_
  refine lv_bipush (v := 22) hx hb d_mLines_init_1219 (by decide) ?_
  refine lv_sipush (v := 8277) hx hb d_mLines_init_1221 (by decide) ?_
  refine va_iast hx hb hK hP hD hS 4 3 rfl rfl (show ¬ ((22 : Int32) < 0 ∨ 27 ≤ (22 : Int32).toNatClampNeg) by decide) d_mLines_init_1224 ?_
  clear hP hD hS
  intro H locs hP hD hS
  rw [show (22 : Int32).toNatClampNeg = 22 by decide] at hP hD
  replace hP : va_P (dC, dI) vcl [(h0, .inr (14, [.ref q_1, .ref q_15, .ref q_29, .null, .null, .null, .int 0, .null, .null, .null, .long 0, .null, .int 0, .int 0, .int 0, .int 0, .int 0, .int 0, .int 0, .null, .null])), (q_1, .inl (cA_2, 64, .inl (upd (upd (upd f_14 61 306) 62 307) 63 308))), (q_15, .inl (cA_16, 64, .inl (upd (upd (upd f_28 61 4186) 62 4198) 63 4199))), (q_29, .inl (cA_30, 27, .inl (upd (upd f_35 25 88) 26 667))), (q_36, .inl (cA_37, 27, .inl (upd (upd (upd (upd f_41 19 8274) 20 8275) 21 8276) 22 8277)))] H := hP
  replace hD : va_D A [(h0, .inr (14, [.ref q_1, .ref q_15, .ref q_29, .null, .null, .null, .int 0, .null, .null, .null, .long 0, .null, .int 0, .int 0, .int 0, .int 0, .int 0, .int 0, .int 0, .null, .null])), (q_1, .inl (cA_2, 64, .inl (upd (upd (upd f_14 61 306) 62 307) 63 308))), (q_15, .inl (cA_16, 64, .inl (upd (upd (upd f_28 61 4186) 62 4198) 63 4199))), (q_29, .inl (cA_30, 27, .inl (upd (upd f_35 25 88) 26 667))), (q_36, .inl (cA_37, 27, .inl (upd (upd (upd (upd f_41 19 8274) 20 8275) 21 8276) 22 8277)))] := hD
  refine lv_dup hx hb d_mLines_init_1225 rfl ?_
  refine lv_bipush (v := 23) hx hb d_mLines_init_1226 (by decide) ?_
  refine lv_sipush (v := 8282) hx hb d_mLines_init_1228 (by decide) ?_
  refine va_iast hx hb hK hP hD hS 4 3 rfl rfl (show ¬ ((23 : Int32) < 0 ∨ 27 ≤ (23 : Int32).toNatClampNeg) by decide) d_mLines_init_1231 ?_
  clear hP hD hS
  intro H locs hP hD hS
  rw [show (23 : Int32).toNatClampNeg = 23 by decide] at hP hD
  obtain ⟨f_42, ef_42⟩ : ∃ y : Nat → Int32, y = upd (upd (upd (upd (upd f_41 19 8274) 20 8275) 21 8276) 22 8277) 23 8282 := ⟨_, rfl⟩
  replace hP : va_P (dC, dI) vcl [(h0, .inr (14, [.ref q_1, .ref q_15, .ref q_29, .null, .null, .null, .int 0, .null, .null, .null, .long 0, .null, .int 0, .int 0, .int 0, .int 0, .int 0, .int 0, .int 0, .null, .null])), (q_1, .inl (cA_2, 64, .inl (upd (upd (upd f_14 61 306) 62 307) 63 308))), (q_15, .inl (cA_16, 64, .inl (upd (upd (upd f_28 61 4186) 62 4198) 63 4199))), (q_29, .inl (cA_30, 27, .inl (upd (upd f_35 25 88) 26 667))), (q_36, .inl (cA_37, 27, .inl (upd (upd (upd (upd (upd f_41 19 8274) 20 8275) 21 8276) 22 8277) 23 8282)))] H := hP
  replace hD : va_D A [(h0, .inr (14, [.ref q_1, .ref q_15, .ref q_29, .null, .null, .null, .int 0, .null, .null, .null, .long 0, .null, .int 0, .int 0, .int 0, .int 0, .int 0, .int 0, .int 0, .null, .null])), (q_1, .inl (cA_2, 64, .inl (upd (upd (upd f_14 61 306) 62 307) 63 308))), (q_15, .inl (cA_16, 64, .inl (upd (upd (upd f_28 61 4186) 62 4198) 63 4199))), (q_29, .inl (cA_30, 27, .inl (upd (upd f_35 25 88) 26 667))), (q_36, .inl (cA_37, 27, .inl (upd (upd (upd (upd (upd f_41 19 8274) 20 8275) 21 8276) 22 8277) 23 8282)))] := hD
  rw [← ef_42] at hP hD
  replace hP : va_P (dC, dI) vcl [(h0, .inr (14, [.ref q_1, .ref q_15, .ref q_29, .null, .null, .null, .int 0, .null, .null, .null, .long 0, .null, .int 0, .int 0, .int 0, .int 0, .int 0, .int 0, .int 0, .null, .null])), (q_1, .inl (cA_2, 64, .inl (upd (upd (upd f_14 61 306) 62 307) 63 308))), (q_15, .inl (cA_16, 64, .inl (upd (upd (upd f_28 61 4186) 62 4198) 63 4199))), (q_29, .inl (cA_30, 27, .inl (upd (upd f_35 25 88) 26 667))), (q_36, .inl (cA_37, 27, .inl f_42))] H := hP
  replace hD : va_D A [(h0, .inr (14, [.ref q_1, .ref q_15, .ref q_29, .null, .null, .null, .int 0, .null, .null, .null, .long 0, .null, .int 0, .int 0, .int 0, .int 0, .int 0, .int 0, .int 0, .null, .null])), (q_1, .inl (cA_2, 64, .inl (upd (upd (upd f_14 61 306) 62 307) 63 308))), (q_15, .inl (cA_16, 64, .inl (upd (upd (upd f_28 61 4186) 62 4198) 63 4199))), (q_29, .inl (cA_30, 27, .inl (upd (upd f_35 25 88) 26 667))), (q_36, .inl (cA_37, 27, .inl f_42))] := hD
  refine lv_dup hx hb d_mLines_init_1232 rfl ?_
  refine lv_bipush (v := 24) hx hb d_mLines_init_1233 (by decide) ?_
  refine lv_sipush (v := 8283) hx hb d_mLines_init_1235 (by decide) ?_
  refine va_iast hx hb hK hP hD hS 4 3 rfl rfl (show ¬ ((24 : Int32) < 0 ∨ 27 ≤ (24 : Int32).toNatClampNeg) by decide) d_mLines_init_1238 ?_
  clear hP hD hS
  intro H locs hP hD hS
  rw [show (24 : Int32).toNatClampNeg = 24 by decide] at hP hD
  replace hP : va_P (dC, dI) vcl [(h0, .inr (14, [.ref q_1, .ref q_15, .ref q_29, .null, .null, .null, .int 0, .null, .null, .null, .long 0, .null, .int 0, .int 0, .int 0, .int 0, .int 0, .int 0, .int 0, .null, .null])), (q_1, .inl (cA_2, 64, .inl (upd (upd (upd f_14 61 306) 62 307) 63 308))), (q_15, .inl (cA_16, 64, .inl (upd (upd (upd f_28 61 4186) 62 4198) 63 4199))), (q_29, .inl (cA_30, 27, .inl (upd (upd f_35 25 88) 26 667))), (q_36, .inl (cA_37, 27, .inl (upd f_42 24 8283)))] H := hP
  replace hD : va_D A [(h0, .inr (14, [.ref q_1, .ref q_15, .ref q_29, .null, .null, .null, .int 0, .null, .null, .null, .long 0, .null, .int 0, .int 0, .int 0, .int 0, .int 0, .int 0, .int 0, .null, .null])), (q_1, .inl (cA_2, 64, .inl (upd (upd (upd f_14 61 306) 62 307) 63 308))), (q_15, .inl (cA_16, 64, .inl (upd (upd (upd f_28 61 4186) 62 4198) 63 4199))), (q_29, .inl (cA_30, 27, .inl (upd (upd f_35 25 88) 26 667))), (q_36, .inl (cA_37, 27, .inl (upd f_42 24 8283)))] := hD
  refine lv_dup hx hb d_mLines_init_1239 rfl ?_
  refine lv_bipush (v := 25) hx hb d_mLines_init_1240 (by decide) ?_
  refine lv_sipush (v := 8292) hx hb d_mLines_init_1242 (by decide) ?_
  refine va_iast hx hb hK hP hD hS 4 3 rfl rfl (show ¬ ((25 : Int32) < 0 ∨ 27 ≤ (25 : Int32).toNatClampNeg) by decide) d_mLines_init_1245 ?_
  clear hP hD hS
  intro H locs hP hD hS
  rw [show (25 : Int32).toNatClampNeg = 25 by decide] at hP hD
  replace hP : va_P (dC, dI) vcl [(h0, .inr (14, [.ref q_1, .ref q_15, .ref q_29, .null, .null, .null, .int 0, .null, .null, .null, .long 0, .null, .int 0, .int 0, .int 0, .int 0, .int 0, .int 0, .int 0, .null, .null])), (q_1, .inl (cA_2, 64, .inl (upd (upd (upd f_14 61 306) 62 307) 63 308))), (q_15, .inl (cA_16, 64, .inl (upd (upd (upd f_28 61 4186) 62 4198) 63 4199))), (q_29, .inl (cA_30, 27, .inl (upd (upd f_35 25 88) 26 667))), (q_36, .inl (cA_37, 27, .inl (upd (upd f_42 24 8283) 25 8292)))] H := hP
  replace hD : va_D A [(h0, .inr (14, [.ref q_1, .ref q_15, .ref q_29, .null, .null, .null, .int 0, .null, .null, .null, .long 0, .null, .int 0, .int 0, .int 0, .int 0, .int 0, .int 0, .int 0, .null, .null])), (q_1, .inl (cA_2, 64, .inl (upd (upd (upd f_14 61 306) 62 307) 63 308))), (q_15, .inl (cA_16, 64, .inl (upd (upd (upd f_28 61 4186) 62 4198) 63 4199))), (q_29, .inl (cA_30, 27, .inl (upd (upd f_35 25 88) 26 667))), (q_36, .inl (cA_37, 27, .inl (upd (upd f_42 24 8283) 25 8292)))] := hD
  refine lv_dup hx hb d_mLines_init_1246 rfl ?_
  refine lv_bipush (v := 26) hx hb d_mLines_init_1247 (by decide) ?_
  refine lv_sipush (v := 8293) hx hb d_mLines_init_1249 (by decide) ?_
  refine va_iast hx hb hK hP hD hS 4 3 rfl rfl (show ¬ ((26 : Int32) < 0 ∨ 27 ≤ (26 : Int32).toNatClampNeg) by decide) d_mLines_init_1252 ?_
  clear hP hD hS
  intro H locs hP hD hS
  rw [show (26 : Int32).toNatClampNeg = 26 by decide] at hP hD
  replace hP : va_P (dC, dI) vcl [(h0, .inr (14, [.ref q_1, .ref q_15, .ref q_29, .null, .null, .null, .int 0, .null, .null, .null, .long 0, .null, .int 0, .int 0, .int 0, .int 0, .int 0, .int 0, .int 0, .null, .null])), (q_1, .inl (cA_2, 64, .inl (upd (upd (upd f_14 61 306) 62 307) 63 308))), (q_15, .inl (cA_16, 64, .inl (upd (upd (upd f_28 61 4186) 62 4198) 63 4199))), (q_29, .inl (cA_30, 27, .inl (upd (upd f_35 25 88) 26 667))), (q_36, .inl (cA_37, 27, .inl (upd (upd (upd f_42 24 8283) 25 8292) 26 8293)))] H := hP
  replace hD : va_D A [(h0, .inr (14, [.ref q_1, .ref q_15, .ref q_29, .null, .null, .null, .int 0, .null, .null, .null, .long 0, .null, .int 0, .int 0, .int 0, .int 0, .int 0, .int 0, .int 0, .null, .null])), (q_1, .inl (cA_2, 64, .inl (upd (upd (upd f_14 61 306) 62 307) 63 308))), (q_15, .inl (cA_16, 64, .inl (upd (upd (upd f_28 61 4186) 62 4198) 63 4199))), (q_29, .inl (cA_30, 27, .inl (upd (upd f_35 25 88) 26 667))), (q_36, .inl (cA_37, 27, .inl (upd (upd (upd f_42 24 8283) 25 8292) 26 8293)))] := hD
  refine va_putF (D := (dC, dI)) (ci := 14) (v := .ref q_36) (ty := (.array .int)) (C := R_mLines) (T := F_mLines) (N := 21) hx hb hwd i_mLines t_mLines to_mLines no_mLines hown hK hP hD hS 0 rfl rfl 3 (by decide) (hwd _ wd_10_86) (fun _ h9 => h9) rfl hin rfl (by decide +kernel) rfl rfl (Nat.le_of_ble_eq_true rfl) d_mLines_init_1253 ?_
  clear hP hD hS
  intro H locs hP hD hS
  replace hP : va_P (dC, dI) vcl [(h0, .inr (14, [.ref q_1, .ref q_15, .ref q_29, .ref q_36, .null, .null, .int 0, .null, .null, .null, .long 0, .null, .int 0, .int 0, .int 0, .int 0, .int 0, .int 0, .int 0, .null, .null])), (q_1, .inl (cA_2, 64, .inl (upd (upd (upd f_14 61 306) 62 307) 63 308))), (q_15, .inl (cA_16, 64, .inl (upd (upd (upd f_28 61 4186) 62 4198) 63 4199))), (q_29, .inl (cA_30, 27, .inl (upd (upd f_35 25 88) 26 667))), (q_36, .inl (cA_37, 27, .inl (upd (upd (upd f_42 24 8283) 25 8292) 26 8293)))] H := hP
  replace hD : va_D A [(h0, .inr (14, [.ref q_1, .ref q_15, .ref q_29, .ref q_36, .null, .null, .int 0, .null, .null, .null, .long 0, .null, .int 0, .int 0, .int 0, .int 0, .int 0, .int 0, .int 0, .null, .null])), (q_1, .inl (cA_2, 64, .inl (upd (upd (upd f_14 61 306) 62 307) 63 308))), (q_15, .inl (cA_16, 64, .inl (upd (upd (upd f_28 61 4186) 62 4198) 63 4199))), (q_29, .inl (cA_30, 27, .inl (upd (upd f_35 25 88) 26 667))), (q_36, .inl (cA_37, 27, .inl (upd (upd (upd f_42 24 8283) 25 8292) 26 8293)))] := hD
  refine lv_aload_n hx hb d_mLines_init_1256 rfl (lv_at hl 0 rfl) ?_
  refine lv_bipush (v := 13) hx hb d_mLines_init_1257 (by decide) ?_
  refine va_newa (atype := .int) (N' := 13) (a0 := (13, .inl (fun _ => 0))) (ty := .int) (n := 13) hx hb (hwd _ wd_1_167) rfl hK hP hD hS hA (fun _ => rfl) (by decide) (by decide) (by decide) (Nat.le_of_ble_eq_true rfl) (Nat.le_of_ble_eq_true rfl) d_mLines_init_1259 ?_
  clear hP hD hS hK
  intro q_43 cA_44 H hK hP hD hS
  replace hP : va_P (dC, dI) vcl [(h0, .inr (14, [.ref q_1, .ref q_15, .ref q_29, .ref q_36, .null, .null, .int 0, .null, .null, .null, .long 0, .null, .int 0, .int 0, .int 0, .int 0, .int 0, .int 0, .int 0, .null, .null])), (q_1, .inl (cA_2, 64, .inl (upd (upd (upd f_14 61 306) 62 307) 63 308))), (q_15, .inl (cA_16, 64, .inl (upd (upd (upd f_28 61 4186) 62 4198) 63 4199))), (q_29, .inl (cA_30, 27, .inl (upd (upd f_35 25 88) 26 667))), (q_36, .inl (cA_37, 27, .inl (upd (upd (upd f_42 24 8283) 25 8292) 26 8293))), (q_43, .inl (cA_44, 13, .inl (fun _ => 0)))] H := hP
  replace hD : va_D A [(h0, .inr (14, [.ref q_1, .ref q_15, .ref q_29, .ref q_36, .null, .null, .int 0, .null, .null, .null, .long 0, .null, .int 0, .int 0, .int 0, .int 0, .int 0, .int 0, .int 0, .null, .null])), (q_1, .inl (cA_2, 64, .inl (upd (upd (upd f_14 61 306) 62 307) 63 308))), (q_15, .inl (cA_16, 64, .inl (upd (upd (upd f_28 61 4186) 62 4198) 63 4199))), (q_29, .inl (cA_30, 27, .inl (upd (upd f_35 25 88) 26 667))), (q_36, .inl (cA_37, 27, .inl (upd (upd (upd f_42 24 8283) 25 8292) 26 8293))), (q_43, .inl (cA_44, 13, .inl (fun _ => 0)))] := hD
  replace hK : va_K (dC, dI) vcl [(cA_2, .int), (cA_16, .int), (cA_30, .int), (cA_37, .int), (cA_44, .int)] s := hK
  refine W.widen (k := 5) (n := 195) (by decide) (by decide) ?_
  refine lv_dup hx hb d_mLines_init_1261 rfl ?_
  refine lv_iconst (v := 0) hx hb d_mLines_init_1262 (by decide) ?_
  refine lv_sipush (v := 2056) hx hb d_mLines_init_1263 (by decide) ?_
  refine va_iast hx hb hK hP hD hS 5 4 rfl rfl (show ¬ ((0 : Int32) < 0 ∨ 13 ≤ (0 : Int32).toNatClampNeg) by decide) d_mLines_init_1266 ?_
  clear hP hD hS
  intro H locs hP hD hS
  rw [show (0 : Int32).toNatClampNeg = 0 by decide] at hP hD
  replace hP : va_P (dC, dI) vcl [(h0, .inr (14, [.ref q_1, .ref q_15, .ref q_29, .ref q_36, .null, .null, .int 0, .null, .null, .null, .long 0, .null, .int 0, .int 0, .int 0, .int 0, .int 0, .int 0, .int 0, .null, .null])), (q_1, .inl (cA_2, 64, .inl (upd (upd (upd f_14 61 306) 62 307) 63 308))), (q_15, .inl (cA_16, 64, .inl (upd (upd (upd f_28 61 4186) 62 4198) 63 4199))), (q_29, .inl (cA_30, 27, .inl (upd (upd f_35 25 88) 26 667))), (q_36, .inl (cA_37, 27, .inl (upd (upd (upd f_42 24 8283) 25 8292) 26 8293))), (q_43, .inl (cA_44, 13, .inl (upd (fun _ => 0) 0 2056)))] H := hP
  replace hD : va_D A [(h0, .inr (14, [.ref q_1, .ref q_15, .ref q_29, .ref q_36, .null, .null, .int 0, .null, .null, .null, .long 0, .null, .int 0, .int 0, .int 0, .int 0, .int 0, .int 0, .int 0, .null, .null])), (q_1, .inl (cA_2, 64, .inl (upd (upd (upd f_14 61 306) 62 307) 63 308))), (q_15, .inl (cA_16, 64, .inl (upd (upd (upd f_28 61 4186) 62 4198) 63 4199))), (q_29, .inl (cA_30, 27, .inl (upd (upd f_35 25 88) 26 667))), (q_36, .inl (cA_37, 27, .inl (upd (upd (upd f_42 24 8283) 25 8292) 26 8293))), (q_43, .inl (cA_44, 13, .inl (upd (fun _ => 0) 0 2056)))] := hD
  refine lv_dup hx hb d_mLines_init_1267 rfl ?_
  refine lv_iconst (v := 1) hx hb d_mLines_init_1268 (by decide) ?_
  refine lv_sipush (v := 2060) hx hb d_mLines_init_1269 (by decide) ?_
  refine va_iast hx hb hK hP hD hS 5 4 rfl rfl (show ¬ ((1 : Int32) < 0 ∨ 13 ≤ (1 : Int32).toNatClampNeg) by decide) d_mLines_init_1272 ?_
  clear hP hD hS
  intro H locs hP hD hS
  rw [show (1 : Int32).toNatClampNeg = 1 by decide] at hP hD
  replace hP : va_P (dC, dI) vcl [(h0, .inr (14, [.ref q_1, .ref q_15, .ref q_29, .ref q_36, .null, .null, .int 0, .null, .null, .null, .long 0, .null, .int 0, .int 0, .int 0, .int 0, .int 0, .int 0, .int 0, .null, .null])), (q_1, .inl (cA_2, 64, .inl (upd (upd (upd f_14 61 306) 62 307) 63 308))), (q_15, .inl (cA_16, 64, .inl (upd (upd (upd f_28 61 4186) 62 4198) 63 4199))), (q_29, .inl (cA_30, 27, .inl (upd (upd f_35 25 88) 26 667))), (q_36, .inl (cA_37, 27, .inl (upd (upd (upd f_42 24 8283) 25 8292) 26 8293))), (q_43, .inl (cA_44, 13, .inl (upd (upd (fun _ => 0) 0 2056) 1 2060)))] H := hP
  replace hD : va_D A [(h0, .inr (14, [.ref q_1, .ref q_15, .ref q_29, .ref q_36, .null, .null, .int 0, .null, .null, .null, .long 0, .null, .int 0, .int 0, .int 0, .int 0, .int 0, .int 0, .int 0, .null, .null])), (q_1, .inl (cA_2, 64, .inl (upd (upd (upd f_14 61 306) 62 307) 63 308))), (q_15, .inl (cA_16, 64, .inl (upd (upd (upd f_28 61 4186) 62 4198) 63 4199))), (q_29, .inl (cA_30, 27, .inl (upd (upd f_35 25 88) 26 667))), (q_36, .inl (cA_37, 27, .inl (upd (upd (upd f_42 24 8283) 25 8292) 26 8293))), (q_43, .inl (cA_44, 13, .inl (upd (upd (fun _ => 0) 0 2056) 1 2060)))] := hD
  refine lv_dup hx hb d_mLines_init_1273 rfl ?_
  refine lv_iconst (v := 2) hx hb d_mLines_init_1274 (by decide) ?_
  refine lv_sipush (v := 2061) hx hb d_mLines_init_1275 (by decide) ?_
  refine va_iast hx hb hK hP hD hS 5 4 rfl rfl (show ¬ ((2 : Int32) < 0 ∨ 13 ≤ (2 : Int32).toNatClampNeg) by decide) d_mLines_init_1278 ?_
  clear hP hD hS
  intro H locs hP hD hS
  rw [show (2 : Int32).toNatClampNeg = 2 by decide] at hP hD
  replace hP : va_P (dC, dI) vcl [(h0, .inr (14, [.ref q_1, .ref q_15, .ref q_29, .ref q_36, .null, .null, .int 0, .null, .null, .null, .long 0, .null, .int 0, .int 0, .int 0, .int 0, .int 0, .int 0, .int 0, .null, .null])), (q_1, .inl (cA_2, 64, .inl (upd (upd (upd f_14 61 306) 62 307) 63 308))), (q_15, .inl (cA_16, 64, .inl (upd (upd (upd f_28 61 4186) 62 4198) 63 4199))), (q_29, .inl (cA_30, 27, .inl (upd (upd f_35 25 88) 26 667))), (q_36, .inl (cA_37, 27, .inl (upd (upd (upd f_42 24 8283) 25 8292) 26 8293))), (q_43, .inl (cA_44, 13, .inl (upd (upd (upd (fun _ => 0) 0 2056) 1 2060) 2 2061)))] H := hP
  replace hD : va_D A [(h0, .inr (14, [.ref q_1, .ref q_15, .ref q_29, .ref q_36, .null, .null, .int 0, .null, .null, .null, .long 0, .null, .int 0, .int 0, .int 0, .int 0, .int 0, .int 0, .int 0, .null, .null])), (q_1, .inl (cA_2, 64, .inl (upd (upd (upd f_14 61 306) 62 307) 63 308))), (q_15, .inl (cA_16, 64, .inl (upd (upd (upd f_28 61 4186) 62 4198) 63 4199))), (q_29, .inl (cA_30, 27, .inl (upd (upd f_35 25 88) 26 667))), (q_36, .inl (cA_37, 27, .inl (upd (upd (upd f_42 24 8283) 25 8292) 26 8293))), (q_43, .inl (cA_44, 13, .inl (upd (upd (upd (fun _ => 0) 0 2056) 1 2060) 2 2061)))] := hD
  refine lv_dup hx hb d_mLines_init_1279 rfl ?_
  refine lv_iconst (v := 3) hx hb d_mLines_init_1280 (by decide) ?_
  refine lv_sipush (v := 4114) hx hb d_mLines_init_1281 (by decide) ?_
  refine va_iast hx hb hK hP hD hS 5 4 rfl rfl (show ¬ ((3 : Int32) < 0 ∨ 13 ≤ (3 : Int32).toNatClampNeg) by decide) d_mLines_init_1284 ?_
  clear hP hD hS
  intro H locs hP hD hS
  rw [show (3 : Int32).toNatClampNeg = 3 by decide] at hP hD
  obtain ⟨f_45, ef_45⟩ : ∃ y : Nat → Int32, y = upd (upd (upd (upd (fun _ => 0) 0 2056) 1 2060) 2 2061) 3 4114 := ⟨_, rfl⟩
  replace hP : va_P (dC, dI) vcl [(h0, .inr (14, [.ref q_1, .ref q_15, .ref q_29, .ref q_36, .null, .null, .int 0, .null, .null, .null, .long 0, .null, .int 0, .int 0, .int 0, .int 0, .int 0, .int 0, .int 0, .null, .null])), (q_1, .inl (cA_2, 64, .inl (upd (upd (upd f_14 61 306) 62 307) 63 308))), (q_15, .inl (cA_16, 64, .inl (upd (upd (upd f_28 61 4186) 62 4198) 63 4199))), (q_29, .inl (cA_30, 27, .inl (upd (upd f_35 25 88) 26 667))), (q_36, .inl (cA_37, 27, .inl (upd (upd (upd f_42 24 8283) 25 8292) 26 8293))), (q_43, .inl (cA_44, 13, .inl (upd (upd (upd (upd (fun _ => 0) 0 2056) 1 2060) 2 2061) 3 4114)))] H := hP
  replace hD : va_D A [(h0, .inr (14, [.ref q_1, .ref q_15, .ref q_29, .ref q_36, .null, .null, .int 0, .null, .null, .null, .long 0, .null, .int 0, .int 0, .int 0, .int 0, .int 0, .int 0, .int 0, .null, .null])), (q_1, .inl (cA_2, 64, .inl (upd (upd (upd f_14 61 306) 62 307) 63 308))), (q_15, .inl (cA_16, 64, .inl (upd (upd (upd f_28 61 4186) 62 4198) 63 4199))), (q_29, .inl (cA_30, 27, .inl (upd (upd f_35 25 88) 26 667))), (q_36, .inl (cA_37, 27, .inl (upd (upd (upd f_42 24 8283) 25 8292) 26 8293))), (q_43, .inl (cA_44, 13, .inl (upd (upd (upd (upd (fun _ => 0) 0 2056) 1 2060) 2 2061) 3 4114)))] := hD
  rw [← ef_45] at hP hD
  replace hP : va_P (dC, dI) vcl [(h0, .inr (14, [.ref q_1, .ref q_15, .ref q_29, .ref q_36, .null, .null, .int 0, .null, .null, .null, .long 0, .null, .int 0, .int 0, .int 0, .int 0, .int 0, .int 0, .int 0, .null, .null])), (q_1, .inl (cA_2, 64, .inl (upd (upd (upd f_14 61 306) 62 307) 63 308))), (q_15, .inl (cA_16, 64, .inl (upd (upd (upd f_28 61 4186) 62 4198) 63 4199))), (q_29, .inl (cA_30, 27, .inl (upd (upd f_35 25 88) 26 667))), (q_36, .inl (cA_37, 27, .inl (upd (upd (upd f_42 24 8283) 25 8292) 26 8293))), (q_43, .inl (cA_44, 13, .inl f_45))] H := hP
  replace hD : va_D A [(h0, .inr (14, [.ref q_1, .ref q_15, .ref q_29, .ref q_36, .null, .null, .int 0, .null, .null, .null, .long 0, .null, .int 0, .int 0, .int 0, .int 0, .int 0, .int 0, .int 0, .null, .null])), (q_1, .inl (cA_2, 64, .inl (upd (upd (upd f_14 61 306) 62 307) 63 308))), (q_15, .inl (cA_16, 64, .inl (upd (upd (upd f_28 61 4186) 62 4198) 63 4199))), (q_29, .inl (cA_30, 27, .inl (upd (upd f_35 25 88) 26 667))), (q_36, .inl (cA_37, 27, .inl (upd (upd (upd f_42 24 8283) 25 8292) 26 8293))), (q_43, .inl (cA_44, 13, .inl f_45))] := hD
  refine lv_dup hx hb d_mLines_init_1285 rfl ?_
  refine lv_iconst (v := 4) hx hb d_mLines_init_1286 (by decide) ?_
  refine lv_sipush (v := 4115) hx hb d_mLines_init_1287 (by decide) ?_
  refine va_iast hx hb hK hP hD hS 5 4 rfl rfl (show ¬ ((4 : Int32) < 0 ∨ 13 ≤ (4 : Int32).toNatClampNeg) by decide) d_mLines_init_1290 ?_
  clear hP hD hS
  intro H locs hP hD hS
  rw [show (4 : Int32).toNatClampNeg = 4 by decide] at hP hD
  replace hP : va_P (dC, dI) vcl [(h0, .inr (14, [.ref q_1, .ref q_15, .ref q_29, .ref q_36, .null, .null, .int 0, .null, .null, .null, .long 0, .null, .int 0, .int 0, .int 0, .int 0, .int 0, .int 0, .int 0, .null, .null])), (q_1, .inl (cA_2, 64, .inl (upd (upd (upd f_14 61 306) 62 307) 63 308))), (q_15, .inl (cA_16, 64, .inl (upd (upd (upd f_28 61 4186) 62 4198) 63 4199))), (q_29, .inl (cA_30, 27, .inl (upd (upd f_35 25 88) 26 667))), (q_36, .inl (cA_37, 27, .inl (upd (upd (upd f_42 24 8283) 25 8292) 26 8293))), (q_43, .inl (cA_44, 13, .inl (upd f_45 4 4115)))] H := hP
  replace hD : va_D A [(h0, .inr (14, [.ref q_1, .ref q_15, .ref q_29, .ref q_36, .null, .null, .int 0, .null, .null, .null, .long 0, .null, .int 0, .int 0, .int 0, .int 0, .int 0, .int 0, .int 0, .null, .null])), (q_1, .inl (cA_2, 64, .inl (upd (upd (upd f_14 61 306) 62 307) 63 308))), (q_15, .inl (cA_16, 64, .inl (upd (upd (upd f_28 61 4186) 62 4198) 63 4199))), (q_29, .inl (cA_30, 27, .inl (upd (upd f_35 25 88) 26 667))), (q_36, .inl (cA_37, 27, .inl (upd (upd (upd f_42 24 8283) 25 8292) 26 8293))), (q_43, .inl (cA_44, 13, .inl (upd f_45 4 4115)))] := hD
  refine lv_dup hx hb d_mLines_init_1291 rfl ?_
  refine lv_iconst (v := 5) hx hb d_mLines_init_1292 (by decide) ?_
  refine lv_sipush (v := 4116) hx hb d_mLines_init_1293 (by decide) ?_
  refine va_iast hx hb hK hP hD hS 5 4 rfl rfl (show ¬ ((5 : Int32) < 0 ∨ 13 ≤ (5 : Int32).toNatClampNeg) by decide) d_mLines_init_1296 ?_
  clear hP hD hS
  intro H locs hP hD hS
  rw [show (5 : Int32).toNatClampNeg = 5 by decide] at hP hD
  replace hP : va_P (dC, dI) vcl [(h0, .inr (14, [.ref q_1, .ref q_15, .ref q_29, .ref q_36, .null, .null, .int 0, .null, .null, .null, .long 0, .null, .int 0, .int 0, .int 0, .int 0, .int 0, .int 0, .int 0, .null, .null])), (q_1, .inl (cA_2, 64, .inl (upd (upd (upd f_14 61 306) 62 307) 63 308))), (q_15, .inl (cA_16, 64, .inl (upd (upd (upd f_28 61 4186) 62 4198) 63 4199))), (q_29, .inl (cA_30, 27, .inl (upd (upd f_35 25 88) 26 667))), (q_36, .inl (cA_37, 27, .inl (upd (upd (upd f_42 24 8283) 25 8292) 26 8293))), (q_43, .inl (cA_44, 13, .inl (upd (upd f_45 4 4115) 5 4116)))] H := hP
  replace hD : va_D A [(h0, .inr (14, [.ref q_1, .ref q_15, .ref q_29, .ref q_36, .null, .null, .int 0, .null, .null, .null, .long 0, .null, .int 0, .int 0, .int 0, .int 0, .int 0, .int 0, .int 0, .null, .null])), (q_1, .inl (cA_2, 64, .inl (upd (upd (upd f_14 61 306) 62 307) 63 308))), (q_15, .inl (cA_16, 64, .inl (upd (upd (upd f_28 61 4186) 62 4198) 63 4199))), (q_29, .inl (cA_30, 27, .inl (upd (upd f_35 25 88) 26 667))), (q_36, .inl (cA_37, 27, .inl (upd (upd (upd f_42 24 8283) 25 8292) 26 8293))), (q_43, .inl (cA_44, 13, .inl (upd (upd f_45 4 4115) 5 4116)))] := hD
  refine lv_dup hx hb d_mLines_init_1297 rfl ?_
  refine lv_bipush (v := 6) hx hb d_mLines_init_1298 (by decide) ?_
  refine lv_sipush (v := 4117) hx hb d_mLines_init_1300 (by decide) ?_
  refine va_iast hx hb hK hP hD hS 5 4 rfl rfl (show ¬ ((6 : Int32) < 0 ∨ 13 ≤ (6 : Int32).toNatClampNeg) by decide) d_mLines_init_1303 ?_
  clear hP hD hS
  intro H locs hP hD hS
  rw [show (6 : Int32).toNatClampNeg = 6 by decide] at hP hD
  replace hP : va_P (dC, dI) vcl [(h0, .inr (14, [.ref q_1, .ref q_15, .ref q_29, .ref q_36, .null, .null, .int 0, .null, .null, .null, .long 0, .null, .int 0, .int 0, .int 0, .int 0, .int 0, .int 0, .int 0, .null, .null])), (q_1, .inl (cA_2, 64, .inl (upd (upd (upd f_14 61 306) 62 307) 63 308))), (q_15, .inl (cA_16, 64, .inl (upd (upd (upd f_28 61 4186) 62 4198) 63 4199))), (q_29, .inl (cA_30, 27, .inl (upd (upd f_35 25 88) 26 667))), (q_36, .inl (cA_37, 27, .inl (upd (upd (upd f_42 24 8283) 25 8292) 26 8293))), (q_43, .inl (cA_44, 13, .inl (upd (upd (upd f_45 4 4115) 5 4116) 6 4117)))] H := hP
  replace hD : va_D A [(h0, .inr (14, [.ref q_1, .ref q_15, .ref q_29, .ref q_36, .null, .null, .int 0, .null, .null, .null, .long 0, .null, .int 0, .int 0, .int 0, .int 0, .int 0, .int 0, .int 0, .null, .null])), (q_1, .inl (cA_2, 64, .inl (upd (upd (upd f_14 61 306) 62 307) 63 308))), (q_15, .inl (cA_16, 64, .inl (upd (upd (upd f_28 61 4186) 62 4198) 63 4199))), (q_29, .inl (cA_30, 27, .inl (upd (upd f_35 25 88) 26 667))), (q_36, .inl (cA_37, 27, .inl (upd (upd (upd f_42 24 8283) 25 8292) 26 8293))), (q_43, .inl (cA_44, 13, .inl (upd (upd (upd f_45 4 4115) 5 4116) 6 4117)))] := hD
  refine lv_dup hx hb d_mLines_init_1304 rfl ?_
  refine lv_bipush (v := 7) hx hb d_mLines_init_1305 (by decide) ?_
  refine lv_sipush (v := 4118) hx hb d_mLines_init_1307 (by decide) ?_
  refine va_iast hx hb hK hP hD hS 5 4 rfl rfl (show ¬ ((7 : Int32) < 0 ∨ 13 ≤ (7 : Int32).toNatClampNeg) by decide) d_mLines_init_1310 ?_
  clear hP hD hS
  intro H locs hP hD hS
  rw [show (7 : Int32).toNatClampNeg = 7 by decide] at hP hD
  replace hP : va_P (dC, dI) vcl [(h0, .inr (14, [.ref q_1, .ref q_15, .ref q_29, .ref q_36, .null, .null, .int 0, .null, .null, .null, .long 0, .null, .int 0, .int 0, .int 0, .int 0, .int 0, .int 0, .int 0, .null, .null])), (q_1, .inl (cA_2, 64, .inl (upd (upd (upd f_14 61 306) 62 307) 63 308))), (q_15, .inl (cA_16, 64, .inl (upd (upd (upd f_28 61 4186) 62 4198) 63 4199))), (q_29, .inl (cA_30, 27, .inl (upd (upd f_35 25 88) 26 667))), (q_36, .inl (cA_37, 27, .inl (upd (upd (upd f_42 24 8283) 25 8292) 26 8293))), (q_43, .inl (cA_44, 13, .inl (upd (upd (upd (upd f_45 4 4115) 5 4116) 6 4117) 7 4118)))] H := hP
  replace hD : va_D A [(h0, .inr (14, [.ref q_1, .ref q_15, .ref q_29, .ref q_36, .null, .null, .int 0, .null, .null, .null, .long 0, .null, .int 0, .int 0, .int 0, .int 0, .int 0, .int 0, .int 0, .null, .null])), (q_1, .inl (cA_2, 64, .inl (upd (upd (upd f_14 61 306) 62 307) 63 308))), (q_15, .inl (cA_16, 64, .inl (upd (upd (upd f_28 61 4186) 62 4198) 63 4199))), (q_29, .inl (cA_30, 27, .inl (upd (upd f_35 25 88) 26 667))), (q_36, .inl (cA_37, 27, .inl (upd (upd (upd f_42 24 8283) 25 8292) 26 8293))), (q_43, .inl (cA_44, 13, .inl (upd (upd (upd (upd f_45 4 4115) 5 4116) 6 4117) 7 4118)))] := hD
  refine lv_dup hx hb d_mLines_init_1311 rfl ?_
  refine lv_bipush (v := 8) hx hb d_mLines_init_1312 (by decide) ?_
  refine lv_sipush (v := 4119) hx hb d_mLines_init_1314 (by decide) ?_
  refine va_iast hx hb hK hP hD hS 5 4 rfl rfl (show ¬ ((8 : Int32) < 0 ∨ 13 ≤ (8 : Int32).toNatClampNeg) by decide) d_mLines_init_1317 ?_
  clear hP hD hS
  intro H locs hP hD hS
  rw [show (8 : Int32).toNatClampNeg = 8 by decide] at hP hD
  obtain ⟨f_46, ef_46⟩ : ∃ y : Nat → Int32, y = upd (upd (upd (upd (upd f_45 4 4115) 5 4116) 6 4117) 7 4118) 8 4119 := ⟨_, rfl⟩
  replace hP : va_P (dC, dI) vcl [(h0, .inr (14, [.ref q_1, .ref q_15, .ref q_29, .ref q_36, .null, .null, .int 0, .null, .null, .null, .long 0, .null, .int 0, .int 0, .int 0, .int 0, .int 0, .int 0, .int 0, .null, .null])), (q_1, .inl (cA_2, 64, .inl (upd (upd (upd f_14 61 306) 62 307) 63 308))), (q_15, .inl (cA_16, 64, .inl (upd (upd (upd f_28 61 4186) 62 4198) 63 4199))), (q_29, .inl (cA_30, 27, .inl (upd (upd f_35 25 88) 26 667))), (q_36, .inl (cA_37, 27, .inl (upd (upd (upd f_42 24 8283) 25 8292) 26 8293))), (q_43, .inl (cA_44, 13, .inl (upd (upd (upd (upd (upd f_45 4 4115) 5 4116) 6 4117) 7 4118) 8 4119)))] H := hP
  replace hD : va_D A [(h0, .inr (14, [.ref q_1, .ref q_15, .ref q_29, .ref q_36, .null, .null, .int 0, .null, .null, .null, .long 0, .null, .int 0, .int 0, .int 0, .int 0, .int 0, .int 0, .int 0, .null, .null])), (q_1, .inl (cA_2, 64, .inl (upd (upd (upd f_14 61 306) 62 307) 63 308))), (q_15, .inl (cA_16, 64, .inl (upd (upd (upd f_28 61 4186) 62 4198) 63 4199))), (q_29, .inl (cA_30, 27, .inl (upd (upd f_35 25 88) 26 667))), (q_36, .inl (cA_37, 27, .inl (upd (upd (upd f_42 24 8283) 25 8292) 26 8293))), (q_43, .inl (cA_44, 13, .inl (upd (upd (upd (upd (upd f_45 4 4115) 5 4116) 6 4117) 7 4118) 8 4119)))] := hD
  rw [← ef_46] at hP hD
  replace hP : va_P (dC, dI) vcl [(h0, .inr (14, [.ref q_1, .ref q_15, .ref q_29, .ref q_36, .null, .null, .int 0, .null, .null, .null, .long 0, .null, .int 0, .int 0, .int 0, .int 0, .int 0, .int 0, .int 0, .null, .null])), (q_1, .inl (cA_2, 64, .inl (upd (upd (upd f_14 61 306) 62 307) 63 308))), (q_15, .inl (cA_16, 64, .inl (upd (upd (upd f_28 61 4186) 62 4198) 63 4199))), (q_29, .inl (cA_30, 27, .inl (upd (upd f_35 25 88) 26 667))), (q_36, .inl (cA_37, 27, .inl (upd (upd (upd f_42 24 8283) 25 8292) 26 8293))), (q_43, .inl (cA_44, 13, .inl f_46))] H := hP
  replace hD : va_D A [(h0, .inr (14, [.ref q_1, .ref q_15, .ref q_29, .ref q_36, .null, .null, .int 0, .null, .null, .null, .long 0, .null, .int 0, .int 0, .int 0, .int 0, .int 0, .int 0, .int 0, .null, .null])), (q_1, .inl (cA_2, 64, .inl (upd (upd (upd f_14 61 306) 62 307) 63 308))), (q_15, .inl (cA_16, 64, .inl (upd (upd (upd f_28 61 4186) 62 4198) 63 4199))), (q_29, .inl (cA_30, 27, .inl (upd (upd f_35 25 88) 26 667))), (q_36, .inl (cA_37, 27, .inl (upd (upd (upd f_42 24 8283) 25 8292) 26 8293))), (q_43, .inl (cA_44, 13, .inl f_46))] := hD
  refine lv_dup hx hb d_mLines_init_1318 rfl ?_
  refine lv_bipush (v := 9) hx hb d_mLines_init_1319 (by decide) ?_
  refine lv_sipush (v := 4124) hx hb d_mLines_init_1321 (by decide) ?_
  refine va_iast hx hb hK hP hD hS 5 4 rfl rfl (show ¬ ((9 : Int32) < 0 ∨ 13 ≤ (9 : Int32).toNatClampNeg) by decide) d_mLines_init_1324 ?_
  clear hP hD hS
  intro H locs hP hD hS
  rw [show (9 : Int32).toNatClampNeg = 9 by decide] at hP hD
  replace hP : va_P (dC, dI) vcl [(h0, .inr (14, [.ref q_1, .ref q_15, .ref q_29, .ref q_36, .null, .null, .int 0, .null, .null, .null, .long 0, .null, .int 0, .int 0, .int 0, .int 0, .int 0, .int 0, .int 0, .null, .null])), (q_1, .inl (cA_2, 64, .inl (upd (upd (upd f_14 61 306) 62 307) 63 308))), (q_15, .inl (cA_16, 64, .inl (upd (upd (upd f_28 61 4186) 62 4198) 63 4199))), (q_29, .inl (cA_30, 27, .inl (upd (upd f_35 25 88) 26 667))), (q_36, .inl (cA_37, 27, .inl (upd (upd (upd f_42 24 8283) 25 8292) 26 8293))), (q_43, .inl (cA_44, 13, .inl (upd f_46 9 4124)))] H := hP
  replace hD : va_D A [(h0, .inr (14, [.ref q_1, .ref q_15, .ref q_29, .ref q_36, .null, .null, .int 0, .null, .null, .null, .long 0, .null, .int 0, .int 0, .int 0, .int 0, .int 0, .int 0, .int 0, .null, .null])), (q_1, .inl (cA_2, 64, .inl (upd (upd (upd f_14 61 306) 62 307) 63 308))), (q_15, .inl (cA_16, 64, .inl (upd (upd (upd f_28 61 4186) 62 4198) 63 4199))), (q_29, .inl (cA_30, 27, .inl (upd (upd f_35 25 88) 26 667))), (q_36, .inl (cA_37, 27, .inl (upd (upd (upd f_42 24 8283) 25 8292) 26 8293))), (q_43, .inl (cA_44, 13, .inl (upd f_46 9 4124)))] := hD
  refine lv_dup hx hb d_mLines_init_1325 rfl ?_
  refine lv_bipush (v := 10) hx hb d_mLines_init_1326 (by decide) ?_
  refine lv_sipush (v := 4125) hx hb d_mLines_init_1328 (by decide) ?_
  refine va_iast hx hb hK hP hD hS 5 4 rfl rfl (show ¬ ((10 : Int32) < 0 ∨ 13 ≤ (10 : Int32).toNatClampNeg) by decide) d_mLines_init_1331 ?_
  clear hP hD hS
  intro H locs hP hD hS
  rw [show (10 : Int32).toNatClampNeg = 10 by decide] at hP hD
  replace hP : va_P (dC, dI) vcl [(h0, .inr (14, [.ref q_1, .ref q_15, .ref q_29, .ref q_36, .null, .null, .int 0, .null, .null, .null, .long 0, .null, .int 0, .int 0, .int 0, .int 0, .int 0, .int 0, .int 0, .null, .null])), (q_1, .inl (cA_2, 64, .inl (upd (upd (upd f_14 61 306) 62 307) 63 308))), (q_15, .inl (cA_16, 64, .inl (upd (upd (upd f_28 61 4186) 62 4198) 63 4199))), (q_29, .inl (cA_30, 27, .inl (upd (upd f_35 25 88) 26 667))), (q_36, .inl (cA_37, 27, .inl (upd (upd (upd f_42 24 8283) 25 8292) 26 8293))), (q_43, .inl (cA_44, 13, .inl (upd (upd f_46 9 4124) 10 4125)))] H := hP
  replace hD : va_D A [(h0, .inr (14, [.ref q_1, .ref q_15, .ref q_29, .ref q_36, .null, .null, .int 0, .null, .null, .null, .long 0, .null, .int 0, .int 0, .int 0, .int 0, .int 0, .int 0, .int 0, .null, .null])), (q_1, .inl (cA_2, 64, .inl (upd (upd (upd f_14 61 306) 62 307) 63 308))), (q_15, .inl (cA_16, 64, .inl (upd (upd (upd f_28 61 4186) 62 4198) 63 4199))), (q_29, .inl (cA_30, 27, .inl (upd (upd f_35 25 88) 26 667))), (q_36, .inl (cA_37, 27, .inl (upd (upd (upd f_42 24 8283) 25 8292) 26 8293))), (q_43, .inl (cA_44, 13, .inl (upd (upd f_46 9 4124) 10 4125)))] := hD
  refine lv_dup hx hb d_mLines_init_1332 rfl ?_
  refine lv_bipush (v := 11) hx hb d_mLines_init_1333 (by decide) ?_
  refine lv_sipush (v := 4126) hx hb d_mLines_init_1335 (by decide) ?_
  refine va_iast hx hb hK hP hD hS 5 4 rfl rfl (show ¬ ((11 : Int32) < 0 ∨ 13 ≤ (11 : Int32).toNatClampNeg) by decide) d_mLines_init_1338 ?_
  clear hP hD hS
  intro H locs hP hD hS
  rw [show (11 : Int32).toNatClampNeg = 11 by decide] at hP hD
  replace hP : va_P (dC, dI) vcl [(h0, .inr (14, [.ref q_1, .ref q_15, .ref q_29, .ref q_36, .null, .null, .int 0, .null, .null, .null, .long 0, .null, .int 0, .int 0, .int 0, .int 0, .int 0, .int 0, .int 0, .null, .null])), (q_1, .inl (cA_2, 64, .inl (upd (upd (upd f_14 61 306) 62 307) 63 308))), (q_15, .inl (cA_16, 64, .inl (upd (upd (upd f_28 61 4186) 62 4198) 63 4199))), (q_29, .inl (cA_30, 27, .inl (upd (upd f_35 25 88) 26 667))), (q_36, .inl (cA_37, 27, .inl (upd (upd (upd f_42 24 8283) 25 8292) 26 8293))), (q_43, .inl (cA_44, 13, .inl (upd (upd (upd f_46 9 4124) 10 4125) 11 4126)))] H := hP
  replace hD : va_D A [(h0, .inr (14, [.ref q_1, .ref q_15, .ref q_29, .ref q_36, .null, .null, .int 0, .null, .null, .null, .long 0, .null, .int 0, .int 0, .int 0, .int 0, .int 0, .int 0, .int 0, .null, .null])), (q_1, .inl (cA_2, 64, .inl (upd (upd (upd f_14 61 306) 62 307) 63 308))), (q_15, .inl (cA_16, 64, .inl (upd (upd (upd f_28 61 4186) 62 4198) 63 4199))), (q_29, .inl (cA_30, 27, .inl (upd (upd f_35 25 88) 26 667))), (q_36, .inl (cA_37, 27, .inl (upd (upd (upd f_42 24 8283) 25 8292) 26 8293))), (q_43, .inl (cA_44, 13, .inl (upd (upd (upd f_46 9 4124) 10 4125) 11 4126)))] := hD
  refine lv_dup hx hb d_mLines_init_1339 rfl ?_
  refine lv_bipush (v := 12) hx hb d_mLines_init_1340 (by decide) ?_
  refine lv_sipush (v := 4127) hx hb d_mLines_init_1342 (by decide) ?_
  refine va_iast hx hb hK hP hD hS 5 4 rfl rfl (show ¬ ((12 : Int32) < 0 ∨ 13 ≤ (12 : Int32).toNatClampNeg) by decide) d_mLines_init_1345 ?_
  clear hP hD hS
  intro H locs hP hD hS
  rw [show (12 : Int32).toNatClampNeg = 12 by decide] at hP hD
  replace hP : va_P (dC, dI) vcl [(h0, .inr (14, [.ref q_1, .ref q_15, .ref q_29, .ref q_36, .null, .null, .int 0, .null, .null, .null, .long 0, .null, .int 0, .int 0, .int 0, .int 0, .int 0, .int 0, .int 0, .null, .null])), (q_1, .inl (cA_2, 64, .inl (upd (upd (upd f_14 61 306) 62 307) 63 308))), (q_15, .inl (cA_16, 64, .inl (upd (upd (upd f_28 61 4186) 62 4198) 63 4199))), (q_29, .inl (cA_30, 27, .inl (upd (upd f_35 25 88) 26 667))), (q_36, .inl (cA_37, 27, .inl (upd (upd (upd f_42 24 8283) 25 8292) 26 8293))), (q_43, .inl (cA_44, 13, .inl (upd (upd (upd (upd f_46 9 4124) 10 4125) 11 4126) 12 4127)))] H := hP
  replace hD : va_D A [(h0, .inr (14, [.ref q_1, .ref q_15, .ref q_29, .ref q_36, .null, .null, .int 0, .null, .null, .null, .long 0, .null, .int 0, .int 0, .int 0, .int 0, .int 0, .int 0, .int 0, .null, .null])), (q_1, .inl (cA_2, 64, .inl (upd (upd (upd f_14 61 306) 62 307) 63 308))), (q_15, .inl (cA_16, 64, .inl (upd (upd (upd f_28 61 4186) 62 4198) 63 4199))), (q_29, .inl (cA_30, 27, .inl (upd (upd f_35 25 88) 26 667))), (q_36, .inl (cA_37, 27, .inl (upd (upd (upd f_42 24 8283) 25 8292) 26 8293))), (q_43, .inl (cA_44, 13, .inl (upd (upd (upd (upd f_46 9 4124) 10 4125) 11 4126) 12 4127)))] := hD
  refine va_putF (D := (dC, dI)) (ci := 14) (v := .ref q_43) (ty := (.array .int)) (C := R_mLines) (T := F_mLines) (N := 21) hx hb hwd i_mLines t_mLines to_mLines no_mLines hown hK hP hD hS 0 rfl rfl 4 (by decide) (hwd _ wd_10_87) (fun _ h9 => h9) rfl hin rfl (by decide +kernel) rfl rfl (Nat.le_of_ble_eq_true rfl) d_mLines_init_1346 ?_
  clear hP hD hS
  intro H locs hP hD hS
  replace hP : va_P (dC, dI) vcl [(h0, .inr (14, [.ref q_1, .ref q_15, .ref q_29, .ref q_36, .ref q_43, .null, .int 0, .null, .null, .null, .long 0, .null, .int 0, .int 0, .int 0, .int 0, .int 0, .int 0, .int 0, .null, .null])), (q_1, .inl (cA_2, 64, .inl (upd (upd (upd f_14 61 306) 62 307) 63 308))), (q_15, .inl (cA_16, 64, .inl (upd (upd (upd f_28 61 4186) 62 4198) 63 4199))), (q_29, .inl (cA_30, 27, .inl (upd (upd f_35 25 88) 26 667))), (q_36, .inl (cA_37, 27, .inl (upd (upd (upd f_42 24 8283) 25 8292) 26 8293))), (q_43, .inl (cA_44, 13, .inl (upd (upd (upd (upd f_46 9 4124) 10 4125) 11 4126) 12 4127)))] H := hP
  replace hD : va_D A [(h0, .inr (14, [.ref q_1, .ref q_15, .ref q_29, .ref q_36, .ref q_43, .null, .int 0, .null, .null, .null, .long 0, .null, .int 0, .int 0, .int 0, .int 0, .int 0, .int 0, .int 0, .null, .null])), (q_1, .inl (cA_2, 64, .inl (upd (upd (upd f_14 61 306) 62 307) 63 308))), (q_15, .inl (cA_16, 64, .inl (upd (upd (upd f_28 61 4186) 62 4198) 63 4199))), (q_29, .inl (cA_30, 27, .inl (upd (upd f_35 25 88) 26 667))), (q_36, .inl (cA_37, 27, .inl (upd (upd (upd f_42 24 8283) 25 8292) 26 8293))), (q_43, .inl (cA_44, 13, .inl (upd (upd (upd (upd f_46 9 4124) 10 4125) 11 4126) 12 4127)))] := hD
  refine lv_aload_n hx hb d_mLines_init_1349 rfl (lv_at hl 0 rfl) ?_
  refine lv_bipush (v := 10) hx hb d_mLines_init_1350 (by decide) ?_
  refine va_newa (atype := .int) (N' := 10) (a0 := (10, .inl (fun _ => 0))) (ty := .int) (n := 10) hx hb (hwd _ wd_1_167) rfl hK hP hD hS hA (fun _ => rfl) (by decide) (by decide) (by decide) (Nat.le_of_ble_eq_true rfl) (Nat.le_of_ble_eq_true rfl) d_mLines_init_1352 ?_
  clear hP hD hS hK
  intro q_47 cA_48 H hK hP hD hS
  replace hP : va_P (dC, dI) vcl [(h0, .inr (14, [.ref q_1, .ref q_15, .ref q_29, .ref q_36, .ref q_43, .null, .int 0, .null, .null, .null, .long 0, .null, .int 0, .int 0, .int 0, .int 0, .int 0, .int 0, .int 0, .null, .null])), (q_1, .inl (cA_2, 64, .inl (upd (upd (upd f_14 61 306) 62 307) 63 308))), (q_15, .inl (cA_16, 64, .inl (upd (upd (upd f_28 61 4186) 62 4198) 63 4199))), (q_29, .inl (cA_30, 27, .inl (upd (upd f_35 25 88) 26 667))), (q_36, .inl (cA_37, 27, .inl (upd (upd (upd f_42 24 8283) 25 8292) 26 8293))), (q_43, .inl (cA_44, 13, .inl (upd (upd (upd (upd f_46 9 4124) 10 4125) 11 4126) 12 4127))), (q_47, .inl (cA_48, 10, .inl (fun _ => 0)))] H := hP
  replace hD : va_D A [(h0, .inr (14, [.ref q_1, .ref q_15, .ref q_29, .ref q_36, .ref q_43, .null, .int 0, .null, .null, .null, .long 0, .null, .int 0, .int 0, .int 0, .int 0, .int 0, .int 0, .int 0, .null, .null])), (q_1, .inl (cA_2, 64, .inl (upd (upd (upd f_14 61 306) 62 307) 63 308))), (q_15, .inl (cA_16, 64, .inl (upd (upd (upd f_28 61 4186) 62 4198) 63 4199))), (q_29, .inl (cA_30, 27, .inl (upd (upd f_35 25 88) 26 667))), (q_36, .inl (cA_37, 27, .inl (upd (upd (upd f_42 24 8283) 25 8292) 26 8293))), (q_43, .inl (cA_44, 13, .inl (upd (upd (upd (upd f_46 9 4124) 10 4125) 11 4126) 12 4127))), (q_47, .inl (cA_48, 10, .inl (fun _ => 0)))] := hD
  replace hK : va_K (dC, dI) vcl [(cA_2, .int), (cA_16, .int), (cA_30, .int), (cA_37, .int), (cA_44, .int), (cA_48, .int)] s := hK
  refine W.widen (k := 6) (n := 205) (by decide) (by decide) ?_
  refine lv_dup hx hb d_mLines_init_1354 rfl ?_
  refine lv_iconst (v := 0) hx hb d_mLines_init_1355 (by decide) ?_
  refine lv_bipush (v := 17) hx hb d_mLines_init_1356 (by decide) ?_
  refine va_iast hx hb hK hP hD hS 6 5 rfl rfl (show ¬ ((0 : Int32) < 0 ∨ 10 ≤ (0 : Int32).toNatClampNeg) by decide) d_mLines_init_1358 ?_
  clear hP hD hS
  intro H locs hP hD hS
  rw [show (0 : Int32).toNatClampNeg = 0 by decide] at hP hD
  replace hP : va_P (dC, dI) vcl [(h0, .inr (14, [.ref q_1, .ref q_15, .ref q_29, .ref q_36, .ref q_43, .null, .int 0, .null, .null, .null, .long 0, .null, .int 0, .int 0, .int 0, .int 0, .int 0, .int 0, .int 0, .null, .null])), (q_1, .inl (cA_2, 64, .inl (upd (upd (upd f_14 61 306) 62 307) 63 308))), (q_15, .inl (cA_16, 64, .inl (upd (upd (upd f_28 61 4186) 62 4198) 63 4199))), (q_29, .inl (cA_30, 27, .inl (upd (upd f_35 25 88) 26 667))), (q_36, .inl (cA_37, 27, .inl (upd (upd (upd f_42 24 8283) 25 8292) 26 8293))), (q_43, .inl (cA_44, 13, .inl (upd (upd (upd (upd f_46 9 4124) 10 4125) 11 4126) 12 4127))), (q_47, .inl (cA_48, 10, .inl (upd (fun _ => 0) 0 17)))] H := hP
  replace hD : va_D A [(h0, .inr (14, [.ref q_1, .ref q_15, .ref q_29, .ref q_36, .ref q_43, .null, .int 0, .null, .null, .null, .long 0, .null, .int 0, .int 0, .int 0, .int 0, .int 0, .int 0, .int 0, .null, .null])), (q_1, .inl (cA_2, 64, .inl (upd (upd (upd f_14 61 306) 62 307) 63 308))), (q_15, .inl (cA_16, 64, .inl (upd (upd (upd f_28 61 4186) 62 4198) 63 4199))), (q_29, .inl (cA_30, 27, .inl (upd (upd f_35 25 88) 26 667))), (q_36, .inl (cA_37, 27, .inl (upd (upd (upd f_42 24 8283) 25 8292) 26 8293))), (q_43, .inl (cA_44, 13, .inl (upd (upd (upd (upd f_46 9 4124) 10 4125) 11 4126) 12 4127))), (q_47, .inl (cA_48, 10, .inl (upd (fun _ => 0) 0 17)))] := hD
  refine lv_dup hx hb d_mLines_init_1359 rfl ?_
  refine lv_iconst (v := 1) hx hb d_mLines_init_1360 (by decide) ?_
  refine lv_bipush (v := 9) hx hb d_mLines_init_1361 (by decide) ?_
  refine va_iast hx hb hK hP hD hS 6 5 rfl rfl (show ¬ ((1 : Int32) < 0 ∨ 10 ≤ (1 : Int32).toNatClampNeg) by decide) d_mLines_init_1363 ?_
  clear hP hD hS
  intro H locs hP hD hS
  rw [show (1 : Int32).toNatClampNeg = 1 by decide] at hP hD
  replace hP : va_P (dC, dI) vcl [(h0, .inr (14, [.ref q_1, .ref q_15, .ref q_29, .ref q_36, .ref q_43, .null, .int 0, .null, .null, .null, .long 0, .null, .int 0, .int 0, .int 0, .int 0, .int 0, .int 0, .int 0, .null, .null])), (q_1, .inl (cA_2, 64, .inl (upd (upd (upd f_14 61 306) 62 307) 63 308))), (q_15, .inl (cA_16, 64, .inl (upd (upd (upd f_28 61 4186) 62 4198) 63 4199))), (q_29, .inl (cA_30, 27, .inl (upd (upd f_35 25 88) 26 667))), (q_36, .inl (cA_37, 27, .inl (upd (upd (upd f_42 24 8283) 25 8292) 26 8293))), (q_43, .inl (cA_44, 13, .inl (upd (upd (upd (upd f_46 9 4124) 10 4125) 11 4126) 12 4127))), (q_47, .inl (cA_48, 10, .inl (upd (upd (fun _ => 0) 0 17) 1 9)))] H := hP
  replace hD : va_D A [(h0, .inr (14, [.ref q_1, .ref q_15, .ref q_29, .ref q_36, .ref q_43, .null, .int 0, .null, .null, .null, .long 0, .null, .int 0, .int 0, .int 0, .int 0, .int 0, .int 0, .int 0, .null, .null])), (q_1, .inl (cA_2, 64, .inl (upd (upd (upd f_14 61 306) 62 307) 63 308))), (q_15, .inl (cA_16, 64, .inl (upd (upd (upd f_28 61 4186) 62 4198) 63 4199))), (q_29, .inl (cA_30, 27, .inl (upd (upd f_35 25 88) 26 667))), (q_36, .inl (cA_37, 27, .inl (upd (upd (upd f_42 24 8283) 25 8292) 26 8293))), (q_43, .inl (cA_44, 13, .inl (upd (upd (upd (upd f_46 9 4124) 10 4125) 11 4126) 12 4127))), (q_47, .inl (cA_48, 10, .inl (upd (upd (fun _ => 0) 0 17) 1 9)))] := hD
  refine lv_dup hx hb d_mLines_init_1364 rfl ?_
  refine lv_iconst (v := 2) hx hb d_mLines_init_1365 (by decide) ?_
  refine lv_sipush (v := 130) hx hb d_mLines_init_1366 (by decide) ?_
  refine va_iast hx hb hK hP hD hS 6 5 rfl rfl (show ¬ ((2 : Int32) < 0 ∨ 10 ≤ (2 : Int32).toNatClampNeg) by decide) d_mLines_init_1369 ?_
  clear hP hD hS
  intro H locs hP hD hS
  rw [show (2 : Int32).toNatClampNeg = 2 by decide] at hP hD
  replace hP : va_P (dC, dI) vcl [(h0, .inr (14, [.ref q_1, .ref q_15, .ref q_29, .ref q_36, .ref q_43, .null, .int 0, .null, .null, .null, .long 0, .null, .int 0, .int 0, .int 0, .int 0, .int 0, .int 0, .int 0, .null, .null])), (q_1, .inl (cA_2, 64, .inl (upd (upd (upd f_14 61 306) 62 307) 63 308))), (q_15, .inl (cA_16, 64, .inl (upd (upd (upd f_28 61 4186) 62 4198) 63 4199))), (q_29, .inl (cA_30, 27, .inl (upd (upd f_35 25 88) 26 667))), (q_36, .inl (cA_37, 27, .inl (upd (upd (upd f_42 24 8283) 25 8292) 26 8293))), (q_43, .inl (cA_44, 13, .inl (upd (upd (upd (upd f_46 9 4124) 10 4125) 11 4126) 12 4127))), (q_47, .inl (cA_48, 10, .inl (upd (upd (upd (fun _ => 0) 0 17) 1 9) 2 130)))] H := hP
  replace hD : va_D A [(h0, .inr (14, [.ref q_1, .ref q_15, .ref q_29, .ref q_36, .ref q_43, .null, .int 0, .null, .null, .null, .long 0, .null, .int 0, .int 0, .int 0, .int 0, .int 0, .int 0, .int 0, .null, .null])), (q_1, .inl (cA_2, 64, .inl (upd (upd (upd f_14 61 306) 62 307) 63 308))), (q_15, .inl (cA_16, 64, .inl (upd (upd (upd f_28 61 4186) 62 4198) 63 4199))), (q_29, .inl (cA_30, 27, .inl (upd (upd f_35 25 88) 26 667))), (q_36, .inl (cA_37, 27, .inl (upd (upd (upd f_42 24 8283) 25 8292) 26 8293))), (q_43, .inl (cA_44, 13, .inl (upd (upd (upd (upd f_46 9 4124) 10 4125) 11 4126) 12 4127))), (q_47, .inl (cA_48, 10, .inl (upd (upd (upd (fun _ => 0) 0 17) 1 9) 2 130)))] := hD
  refine lv_dup hx hb d_mLines_init_1370 rfl ?_
  refine lv_iconst (v := 3) hx hb d_mLines_init_1371 (by decide) ?_
  refine lv_bipush (v := 66) hx hb d_mLines_init_1372 (by decide) ?_
  refine va_iast hx hb hK hP hD hS 6 5 rfl rfl (show ¬ ((3 : Int32) < 0 ∨ 10 ≤ (3 : Int32).toNatClampNeg) by decide) d_mLines_init_1374 ?_
  clear hP hD hS
  intro H locs hP hD hS
  rw [show (3 : Int32).toNatClampNeg = 3 by decide] at hP hD
  replace hP : va_P (dC, dI) vcl [(h0, .inr (14, [.ref q_1, .ref q_15, .ref q_29, .ref q_36, .ref q_43, .null, .int 0, .null, .null, .null, .long 0, .null, .int 0, .int 0, .int 0, .int 0, .int 0, .int 0, .int 0, .null, .null])), (q_1, .inl (cA_2, 64, .inl (upd (upd (upd f_14 61 306) 62 307) 63 308))), (q_15, .inl (cA_16, 64, .inl (upd (upd (upd f_28 61 4186) 62 4198) 63 4199))), (q_29, .inl (cA_30, 27, .inl (upd (upd f_35 25 88) 26 667))), (q_36, .inl (cA_37, 27, .inl (upd (upd (upd f_42 24 8283) 25 8292) 26 8293))), (q_43, .inl (cA_44, 13, .inl (upd (upd (upd (upd f_46 9 4124) 10 4125) 11 4126) 12 4127))), (q_47, .inl (cA_48, 10, .inl (upd (upd (upd (upd (fun _ => 0) 0 17) 1 9) 2 130) 3 66)))] H := hP
  replace hD : va_D A [(h0, .inr (14, [.ref q_1, .ref q_15, .ref q_29, .ref q_36, .ref q_43, .null, .int 0, .null, .null, .null, .long 0, .null, .int 0, .int 0, .int 0, .int 0, .int 0, .int 0, .int 0, .null, .null])), (q_1, .inl (cA_2, 64, .inl (upd (upd (upd f_14 61 306) 62 307) 63 308))), (q_15, .inl (cA_16, 64, .inl (upd (upd (upd f_28 61 4186) 62 4198) 63 4199))), (q_29, .inl (cA_30, 27, .inl (upd (upd f_35 25 88) 26 667))), (q_36, .inl (cA_37, 27, .inl (upd (upd (upd f_42 24 8283) 25 8292) 26 8293))), (q_43, .inl (cA_44, 13, .inl (upd (upd (upd (upd f_46 9 4124) 10 4125) 11 4126) 12 4127))), (q_47, .inl (cA_48, 10, .inl (upd (upd (upd (upd (fun _ => 0) 0 17) 1 9) 2 130) 3 66)))] := hD
  refine lv_dup hx hb d_mLines_init_1375 rfl ?_
  refine lv_iconst (v := 4) hx hb d_mLines_init_1376 (by decide) ?_
  refine lv_bipush (v := 10) hx hb d_mLines_init_1377 (by decide) ?_
  refine va_iast hx hb hK hP hD hS 6 5 rfl rfl (show ¬ ((4 : Int32) < 0 ∨ 10 ≤ (4 : Int32).toNatClampNeg) by decide) d_mLines_init_1379 ?_
  clear hP hD hS
  intro H locs hP hD hS
  rw [show (4 : Int32).toNatClampNeg = 4 by decide] at hP hD
  obtain ⟨f_49, ef_49⟩ : ∃ y : Nat → Int32, y = upd (upd (upd (upd (upd (fun _ => 0) 0 17) 1 9) 2 130) 3 66) 4 10 := ⟨_, rfl⟩
  replace hP : va_P (dC, dI) vcl [(h0, .inr (14, [.ref q_1, .ref q_15, .ref q_29, .ref q_36, .ref q_43, .null, .int 0, .null, .null, .null, .long 0, .null, .int 0, .int 0, .int 0, .int 0, .int 0, .int 0, .int 0, .null, .null])), (q_1, .inl (cA_2, 64, .inl (upd (upd (upd f_14 61 306) 62 307) 63 308))), (q_15, .inl (cA_16, 64, .inl (upd (upd (upd f_28 61 4186) 62 4198) 63 4199))), (q_29, .inl (cA_30, 27, .inl (upd (upd f_35 25 88) 26 667))), (q_36, .inl (cA_37, 27, .inl (upd (upd (upd f_42 24 8283) 25 8292) 26 8293))), (q_43, .inl (cA_44, 13, .inl (upd (upd (upd (upd f_46 9 4124) 10 4125) 11 4126) 12 4127))), (q_47, .inl (cA_48, 10, .inl (upd (upd (upd (upd (upd (fun _ => 0) 0 17) 1 9) 2 130) 3 66) 4 10)))] H := hP
  replace hD : va_D A [(h0, .inr (14, [.ref q_1, .ref q_15, .ref q_29, .ref q_36, .ref q_43, .null, .int 0, .null, .null, .null, .long 0, .null, .int 0, .int 0, .int 0, .int 0, .int 0, .int 0, .int 0, .null, .null])), (q_1, .inl (cA_2, 64, .inl (upd (upd (upd f_14 61 306) 62 307) 63 308))), (q_15, .inl (cA_16, 64, .inl (upd (upd (upd f_28 61 4186) 62 4198) 63 4199))), (q_29, .inl (cA_30, 27, .inl (upd (upd f_35 25 88) 26 667))), (q_36, .inl (cA_37, 27, .inl (upd (upd (upd f_42 24 8283) 25 8292) 26 8293))), (q_43, .inl (cA_44, 13, .inl (upd (upd (upd (upd f_46 9 4124) 10 4125) 11 4126) 12 4127))), (q_47, .inl (cA_48, 10, .inl (upd (upd (upd (upd (upd (fun _ => 0) 0 17) 1 9) 2 130) 3 66) 4 10)))] := hD
  rw [← ef_49] at hP hD
  replace hP : va_P (dC, dI) vcl [(h0, .inr (14, [.ref q_1, .ref q_15, .ref q_29, .ref q_36, .ref q_43, .null, .int 0, .null, .null, .null, .long 0, .null, .int 0, .int 0, .int 0, .int 0, .int 0, .int 0, .int 0, .null, .null])), (q_1, .inl (cA_2, 64, .inl (upd (upd (upd f_14 61 306) 62 307) 63 308))), (q_15, .inl (cA_16, 64, .inl (upd (upd (upd f_28 61 4186) 62 4198) 63 4199))), (q_29, .inl (cA_30, 27, .inl (upd (upd f_35 25 88) 26 667))), (q_36, .inl (cA_37, 27, .inl (upd (upd (upd f_42 24 8283) 25 8292) 26 8293))), (q_43, .inl (cA_44, 13, .inl (upd (upd (upd (upd f_46 9 4124) 10 4125) 11 4126) 12 4127))), (q_47, .inl (cA_48, 10, .inl f_49))] H := hP
  replace hD : va_D A [(h0, .inr (14, [.ref q_1, .ref q_15, .ref q_29, .ref q_36, .ref q_43, .null, .int 0, .null, .null, .null, .long 0, .null, .int 0, .int 0, .int 0, .int 0, .int 0, .int 0, .int 0, .null, .null])), (q_1, .inl (cA_2, 64, .inl (upd (upd (upd f_14 61 306) 62 307) 63 308))), (q_15, .inl (cA_16, 64, .inl (upd (upd (upd f_28 61 4186) 62 4198) 63 4199))), (q_29, .inl (cA_30, 27, .inl (upd (upd f_35 25 88) 26 667))), (q_36, .inl (cA_37, 27, .inl (upd (upd (upd f_42 24 8283) 25 8292) 26 8293))), (q_43, .inl (cA_44, 13, .inl (upd (upd (upd (upd f_46 9 4124) 10 4125) 11 4126) 12 4127))), (q_47, .inl (cA_48, 10, .inl f_49))] := hD
  refine lv_dup hx hb d_mLines_init_1380 rfl ?_
  refine lv_iconst (v := 5) hx hb d_mLines_init_1381 (by decide) ?_
  refine lv_iconst (v := 3) hx hb d_mLines_init_1382 (by decide) ?_
  refine va_iast hx hb hK hP hD hS 6 5 rfl rfl (show ¬ ((5 : Int32) < 0 ∨ 10 ≤ (5 : Int32).toNatClampNeg) by decide) d_mLines_init_1383 ?_
  clear hP hD hS
  intro H locs hP hD hS
  rw [show (5 : Int32).toNatClampNeg = 5 by decide] at hP hD
  replace hP : va_P (dC, dI) vcl [(h0, .inr (14, [.ref q_1, .ref q_15, .ref q_29, .ref q_36, .ref q_43, .null, .int 0, .null, .null, .null, .long 0, .null, .int 0, .int 0, .int 0, .int 0, .int 0, .int 0, .int 0, .null, .null])), (q_1, .inl (cA_2, 64, .inl (upd (upd (upd f_14 61 306) 62 307) 63 308))), (q_15, .inl (cA_16, 64, .inl (upd (upd (upd f_28 61 4186) 62 4198) 63 4199))), (q_29, .inl (cA_30, 27, .inl (upd (upd f_35 25 88) 26 667))), (q_36, .inl (cA_37, 27, .inl (upd (upd (upd f_42 24 8283) 25 8292) 26 8293))), (q_43, .inl (cA_44, 13, .inl (upd (upd (upd (upd f_46 9 4124) 10 4125) 11 4126) 12 4127))), (q_47, .inl (cA_48, 10, .inl (upd f_49 5 3)))] H := hP
  replace hD : va_D A [(h0, .inr (14, [.ref q_1, .ref q_15, .ref q_29, .ref q_36, .ref q_43, .null, .int 0, .null, .null, .null, .long 0, .null, .int 0, .int 0, .int 0, .int 0, .int 0, .int 0, .int 0, .null, .null])), (q_1, .inl (cA_2, 64, .inl (upd (upd (upd f_14 61 306) 62 307) 63 308))), (q_15, .inl (cA_16, 64, .inl (upd (upd (upd f_28 61 4186) 62 4198) 63 4199))), (q_29, .inl (cA_30, 27, .inl (upd (upd f_35 25 88) 26 667))), (q_36, .inl (cA_37, 27, .inl (upd (upd (upd f_42 24 8283) 25 8292) 26 8293))), (q_43, .inl (cA_44, 13, .inl (upd (upd (upd (upd f_46 9 4124) 10 4125) 11 4126) 12 4127))), (q_47, .inl (cA_48, 10, .inl (upd f_49 5 3)))] := hD
  refine lv_dup hx hb d_mLines_init_1384 rfl ?_
  refine lv_bipush (v := 6) hx hb d_mLines_init_1385 (by decide) ?_
  refine lv_bipush (v := 11) hx hb d_mLines_init_1387 (by decide) ?_
  refine va_iast hx hb hK hP hD hS 6 5 rfl rfl (show ¬ ((6 : Int32) < 0 ∨ 10 ≤ (6 : Int32).toNatClampNeg) by decide) d_mLines_init_1389 ?_
  clear hP hD hS
  intro H locs hP hD hS
  rw [show (6 : Int32).toNatClampNeg = 6 by decide] at hP hD
  replace hP : va_P (dC, dI) vcl [(h0, .inr (14, [.ref q_1, .ref q_15, .ref q_29, .ref q_36, .ref q_43, .null, .int 0, .null, .null, .null, .long 0, .null, .int 0, .int 0, .int 0, .int 0, .int 0, .int 0, .int 0, .null, .null])), (q_1, .inl (cA_2, 64, .inl (upd (upd (upd f_14 61 306) 62 307) 63 308))), (q_15, .inl (cA_16, 64, .inl (upd (upd (upd f_28 61 4186) 62 4198) 63 4199))), (q_29, .inl (cA_30, 27, .inl (upd (upd f_35 25 88) 26 667))), (q_36, .inl (cA_37, 27, .inl (upd (upd (upd f_42 24 8283) 25 8292) 26 8293))), (q_43, .inl (cA_44, 13, .inl (upd (upd (upd (upd f_46 9 4124) 10 4125) 11 4126) 12 4127))), (q_47, .inl (cA_48, 10, .inl (upd (upd f_49 5 3) 6 11)))] H := hP
  replace hD : va_D A [(h0, .inr (14, [.ref q_1, .ref q_15, .ref q_29, .ref q_36, .ref q_43, .null, .int 0, .null, .null, .null, .long 0, .null, .int 0, .int 0, .int 0, .int 0, .int 0, .int 0, .int 0, .null, .null])), (q_1, .inl (cA_2, 64, .inl (upd (upd (upd f_14 61 306) 62 307) 63 308))), (q_15, .inl (cA_16, 64, .inl (upd (upd (upd f_28 61 4186) 62 4198) 63 4199))), (q_29, .inl (cA_30, 27, .inl (upd (upd f_35 25 88) 26 667))), (q_36, .inl (cA_37, 27, .inl (upd (upd (upd f_42 24 8283) 25 8292) 26 8293))), (q_43, .inl (cA_44, 13, .inl (upd (upd (upd (upd f_46 9 4124) 10 4125) 11 4126) 12 4127))), (q_47, .inl (cA_48, 10, .inl (upd (upd f_49 5 3) 6 11)))] := hD
  refine lv_dup hx hb d_mLines_init_1390 rfl ?_
  refine lv_bipush (v := 7) hx hb d_mLines_init_1391 (by decide) ?_
  refine lv_bipush (v := 67) hx hb d_mLines_init_1393 (by decide) ?_
  refine va_iast hx hb hK hP hD hS 6 5 rfl rfl (show ¬ ((7 : Int32) < 0 ∨ 10 ≤ (7 : Int32).toNatClampNeg) by decide) d_mLines_init_1395 ?_
  clear hP hD hS
  intro H locs hP hD hS
  rw [show (7 : Int32).toNatClampNeg = 7 by decide] at hP hD
  replace hP : va_P (dC, dI) vcl [(h0, .inr (14, [.ref q_1, .ref q_15, .ref q_29, .ref q_36, .ref q_43, .null, .int 0, .null, .null, .null, .long 0, .null, .int 0, .int 0, .int 0, .int 0, .int 0, .int 0, .int 0, .null, .null])), (q_1, .inl (cA_2, 64, .inl (upd (upd (upd f_14 61 306) 62 307) 63 308))), (q_15, .inl (cA_16, 64, .inl (upd (upd (upd f_28 61 4186) 62 4198) 63 4199))), (q_29, .inl (cA_30, 27, .inl (upd (upd f_35 25 88) 26 667))), (q_36, .inl (cA_37, 27, .inl (upd (upd (upd f_42 24 8283) 25 8292) 26 8293))), (q_43, .inl (cA_44, 13, .inl (upd (upd (upd (upd f_46 9 4124) 10 4125) 11 4126) 12 4127))), (q_47, .inl (cA_48, 10, .inl (upd (upd (upd f_49 5 3) 6 11) 7 67)))] H := hP
  replace hD : va_D A [(h0, .inr (14, [.ref q_1, .ref q_15, .ref q_29, .ref q_36, .ref q_43, .null, .int 0, .null, .null, .null, .long 0, .null, .int 0, .int 0, .int 0, .int 0, .int 0, .int 0, .int 0, .null, .null])), (q_1, .inl (cA_2, 64, .inl (upd (upd (upd f_14 61 306) 62 307) 63 308))), (q_15, .inl (cA_16, 64, .inl (upd (upd (upd f_28 61 4186) 62 4198) 63 4199))), (q_29, .inl (cA_30, 27, .inl (upd (upd f_35 25 88) 26 667))), (q_36, .inl (cA_37, 27, .inl (upd (upd (upd f_42 24 8283) 25 8292) 26 8293))), (q_43, .inl (cA_44, 13, .inl (upd (upd (upd (upd f_46 9 4124) 10 4125) 11 4126) 12 4127))), (q_47, .inl (cA_48, 10, .inl (upd (upd (upd f_49 5 3) 6 11) 7 67)))] := hD
  refine lv_dup hx hb d_mLines_init_1396 rfl ?_
  refine lv_bipush (v := 8) hx hb d_mLines_init_1397 (by decide) ?_
  refine lv_sipush (v := 131) hx hb d_mLines_init_1399 (by decide) ?_
  refine va_iast hx hb hK hP hD hS 6 5 rfl rfl (show ¬ ((8 : Int32) < 0 ∨ 10 ≤ (8 : Int32).toNatClampNeg) by decide) d_mLines_init_1402 ?_
  clear hP hD hS
  intro H locs hP hD hS
  rw [show (8 : Int32).toNatClampNeg = 8 by decide] at hP hD
  replace hP : va_P (dC, dI) vcl [(h0, .inr (14, [.ref q_1, .ref q_15, .ref q_29, .ref q_36, .ref q_43, .null, .int 0, .null, .null, .null, .long 0, .null, .int 0, .int 0, .int 0, .int 0, .int 0, .int 0, .int 0, .null, .null])), (q_1, .inl (cA_2, 64, .inl (upd (upd (upd f_14 61 306) 62 307) 63 308))), (q_15, .inl (cA_16, 64, .inl (upd (upd (upd f_28 61 4186) 62 4198) 63 4199))), (q_29, .inl (cA_30, 27, .inl (upd (upd f_35 25 88) 26 667))), (q_36, .inl (cA_37, 27, .inl (upd (upd (upd f_42 24 8283) 25 8292) 26 8293))), (q_43, .inl (cA_44, 13, .inl (upd (upd (upd (upd f_46 9 4124) 10 4125) 11 4126) 12 4127))), (q_47, .inl (cA_48, 10, .inl (upd (upd (upd (upd f_49 5 3) 6 11) 7 67) 8 131)))] H := hP
  replace hD : va_D A [(h0, .inr (14, [.ref q_1, .ref q_15, .ref q_29, .ref q_36, .ref q_43, .null, .int 0, .null, .null, .null, .long 0, .null, .int 0, .int 0, .int 0, .int 0, .int 0, .int 0, .int 0, .null, .null])), (q_1, .inl (cA_2, 64, .inl (upd (upd (upd f_14 61 306) 62 307) 63 308))), (q_15, .inl (cA_16, 64, .inl (upd (upd (upd f_28 61 4186) 62 4198) 63 4199))), (q_29, .inl (cA_30, 27, .inl (upd (upd f_35 25 88) 26 667))), (q_36, .inl (cA_37, 27, .inl (upd (upd (upd f_42 24 8283) 25 8292) 26 8293))), (q_43, .inl (cA_44, 13, .inl (upd (upd (upd (upd f_46 9 4124) 10 4125) 11 4126) 12 4127))), (q_47, .inl (cA_48, 10, .inl (upd (upd (upd (upd f_49 5 3) 6 11) 7 67) 8 131)))] := hD
  refine lv_dup hx hb d_mLines_init_1403 rfl ?_
  refine lv_bipush (v := 9) hx hb d_mLines_init_1404 (by decide) ?_
  refine lv_sipush (v := 4097) hx hb d_mLines_init_1406 (by decide) ?_
  refine va_iast hx hb hK hP hD hS 6 5 rfl rfl (show ¬ ((9 : Int32) < 0 ∨ 10 ≤ (9 : Int32).toNatClampNeg) by decide) d_mLines_init_1409 ?_
  clear hP hD hS
  intro H locs hP hD hS
  rw [show (9 : Int32).toNatClampNeg = 9 by decide] at hP hD
  replace hP : va_P (dC, dI) vcl [(h0, .inr (14, [.ref q_1, .ref q_15, .ref q_29, .ref q_36, .ref q_43, .null, .int 0, .null, .null, .null, .long 0, .null, .int 0, .int 0, .int 0, .int 0, .int 0, .int 0, .int 0, .null, .null])), (q_1, .inl (cA_2, 64, .inl (upd (upd (upd f_14 61 306) 62 307) 63 308))), (q_15, .inl (cA_16, 64, .inl (upd (upd (upd f_28 61 4186) 62 4198) 63 4199))), (q_29, .inl (cA_30, 27, .inl (upd (upd f_35 25 88) 26 667))), (q_36, .inl (cA_37, 27, .inl (upd (upd (upd f_42 24 8283) 25 8292) 26 8293))), (q_43, .inl (cA_44, 13, .inl (upd (upd (upd (upd f_46 9 4124) 10 4125) 11 4126) 12 4127))), (q_47, .inl (cA_48, 10, .inl (upd (upd (upd (upd (upd f_49 5 3) 6 11) 7 67) 8 131) 9 4097)))] H := hP
  replace hD : va_D A [(h0, .inr (14, [.ref q_1, .ref q_15, .ref q_29, .ref q_36, .ref q_43, .null, .int 0, .null, .null, .null, .long 0, .null, .int 0, .int 0, .int 0, .int 0, .int 0, .int 0, .int 0, .null, .null])), (q_1, .inl (cA_2, 64, .inl (upd (upd (upd f_14 61 306) 62 307) 63 308))), (q_15, .inl (cA_16, 64, .inl (upd (upd (upd f_28 61 4186) 62 4198) 63 4199))), (q_29, .inl (cA_30, 27, .inl (upd (upd f_35 25 88) 26 667))), (q_36, .inl (cA_37, 27, .inl (upd (upd (upd f_42 24 8283) 25 8292) 26 8293))), (q_43, .inl (cA_44, 13, .inl (upd (upd (upd (upd f_46 9 4124) 10 4125) 11 4126) 12 4127))), (q_47, .inl (cA_48, 10, .inl (upd (upd (upd (upd (upd f_49 5 3) 6 11) 7 67) 8 131) 9 4097)))] := hD
  refine va_putF (D := (dC, dI)) (ci := 14) (v := .ref q_47) (ty := (.array .int)) (C := R_mLines) (T := F_mLines) (N := 21) hx hb hwd i_mLines t_mLines to_mLines no_mLines hown hK hP hD hS 0 rfl rfl 5 (by decide) (hwd _ wd_10_88) (fun _ h9 => h9) rfl hin rfl (by decide +kernel) rfl rfl (Nat.le_of_ble_eq_true rfl) d_mLines_init_1410 ?_
  clear hP hD hS
  intro H locs hP hD hS
  replace hP : va_P (dC, dI) vcl [(h0, .inr (14, [.ref q_1, .ref q_15, .ref q_29, .ref q_36, .ref q_43, .ref q_47, .int 0, .null, .null, .null, .long 0, .null, .int 0, .int 0, .int 0, .int 0, .int 0, .int 0, .int 0, .null, .null])), (q_1, .inl (cA_2, 64, .inl (upd (upd (upd f_14 61 306) 62 307) 63 308))), (q_15, .inl (cA_16, 64, .inl (upd (upd (upd f_28 61 4186) 62 4198) 63 4199))), (q_29, .inl (cA_30, 27, .inl (upd (upd f_35 25 88) 26 667))), (q_36, .inl (cA_37, 27, .inl (upd (upd (upd f_42 24 8283) 25 8292) 26 8293))), (q_43, .inl (cA_44, 13, .inl (upd (upd (upd (upd f_46 9 4124) 10 4125) 11 4126) 12 4127))), (q_47, .inl (cA_48, 10, .inl (upd (upd (upd (upd (upd f_49 5 3) 6 11) 7 67) 8 131) 9 4097)))] H := hP
  replace hD : va_D A [(h0, .inr (14, [.ref q_1, .ref q_15, .ref q_29, .ref q_36, .ref q_43, .ref q_47, .int 0, .null, .null, .null, .long 0, .null, .int 0, .int 0, .int 0, .int 0, .int 0, .int 0, .int 0, .null, .null])), (q_1, .inl (cA_2, 64, .inl (upd (upd (upd f_14 61 306) 62 307) 63 308))), (q_15, .inl (cA_16, 64, .inl (upd (upd (upd f_28 61 4186) 62 4198) 63 4199))), (q_29, .inl (cA_30, 27, .inl (upd (upd f_35 25 88) 26 667))), (q_36, .inl (cA_37, 27, .inl (upd (upd (upd f_42 24 8283) 25 8292) 26 8293))), (q_43, .inl (cA_44, 13, .inl (upd (upd (upd (upd f_46 9 4124) 10 4125) 11 4126) 12 4127))), (q_47, .inl (cA_48, 10, .inl (upd (upd (upd (upd (upd f_49 5 3) 6 11) 7 67) 8 131) 9 4097)))] := hD
  refine lv_aload_n hx hb d_mLines_init_1413 rfl (lv_at hl 0 rfl) ?_
  refine lv_sipush (v := 10000) hx hb d_mLines_init_1414 (by decide) ?_
  refine va_newa (atype := .boolean) (N' := 10000) (a0 := (10000, .inl (fun _ => 0))) (ty := .boolean) (n := 10000) hx hb (hwd _ wd_2_150) rfl hK hP hD hS hA (fun _ => rfl) (by decide) (by decide) (by decide) (Nat.le_of_ble_eq_true rfl) (Nat.le_of_ble_eq_true rfl) d_mLines_init_1417 ?_
  clear hP hD hS hK
  intro q_50 cA_51 H hK hP hD hS
  replace hP : va_P (dC, dI) vcl [(h0, .inr (14, [.ref q_1, .ref q_15, .ref q_29, .ref q_36, .ref q_43, .ref q_47, .int 0, .null, .null, .null, .long 0, .null, .int 0, .int 0, .int 0, .int 0, .int 0, .int 0, .int 0, .null, .null])), (q_1, .inl (cA_2, 64, .inl (upd (upd (upd f_14 61 306) 62 307) 63 308))), (q_15, .inl (cA_16, 64, .inl (upd (upd (upd f_28 61 4186) 62 4198) 63 4199))), (q_29, .inl (cA_30, 27, .inl (upd (upd f_35 25 88) 26 667))), (q_36, .inl (cA_37, 27, .inl (upd (upd (upd f_42 24 8283) 25 8292) 26 8293))), (q_43, .inl (cA_44, 13, .inl (upd (upd (upd (upd f_46 9 4124) 10 4125) 11 4126) 12 4127))), (q_47, .inl (cA_48, 10, .inl (upd (upd (upd (upd (upd f_49 5 3) 6 11) 7 67) 8 131) 9 4097))), (q_50, .inl (cA_51, 10000, .inl (fun _ => 0)))] H := hP
  replace hD : va_D A [(h0, .inr (14, [.ref q_1, .ref q_15, .ref q_29, .ref q_36, .ref q_43, .ref q_47, .int 0, .null, .null, .null, .long 0, .null, .int 0, .int 0, .int 0, .int 0, .int 0, .int 0, .int 0, .null, .null])), (q_1, .inl (cA_2, 64, .inl (upd (upd (upd f_14 61 306) 62 307) 63 308))), (q_15, .inl (cA_16, 64, .inl (upd (upd (upd f_28 61 4186) 62 4198) 63 4199))), (q_29, .inl (cA_30, 27, .inl (upd (upd f_35 25 88) 26 667))), (q_36, .inl (cA_37, 27, .inl (upd (upd (upd f_42 24 8283) 25 8292) 26 8293))), (q_43, .inl (cA_44, 13, .inl (upd (upd (upd (upd f_46 9 4124) 10 4125) 11 4126) 12 4127))), (q_47, .inl (cA_48, 10, .inl (upd (upd (upd (upd (upd f_49 5 3) 6 11) 7 67) 8 131) 9 4097))), (q_50, .inl (cA_51, 10000, .inl (fun _ => 0)))] := hD
  replace hK : va_K (dC, dI) vcl [(cA_2, .int), (cA_16, .int), (cA_30, .int), (cA_37, .int), (cA_44, .int), (cA_48, .int), (cA_51, .boolean)] s := hK
  refine W.widen (k := 7) (n := 10205) (by decide) (by decide) ?_
  refine va_putF (D := (dC, dI)) (ci := 14) (v := .ref q_50) (ty := (.array .boolean)) (C := R_mLines) (T := F_mLines) (N := 21) hx hb hwd i_mLines t_mLines to_mLines no_mLines hown hK hP hD hS 0 rfl rfl 7 (by decide) (hwd _ wd_10_90) (fun _ h9 => h9) rfl hin rfl (by decide +kernel) rfl rfl (Nat.le_of_ble_eq_true rfl) d_mLines_init_1419 ?_
  clear hP hD hS
  intro H locs hP hD hS
  replace hP : va_P (dC, dI) vcl [(h0, .inr (14, [.ref q_1, .ref q_15, .ref q_29, .ref q_36, .ref q_43, .ref q_47, .int 0, .ref q_50, .null, .null, .long 0, .null, .int 0, .int 0, .int 0, .int 0, .int 0, .int 0, .int 0, .null, .null])), (q_1, .inl (cA_2, 64, .inl (upd (upd (upd f_14 61 306) 62 307) 63 308))), (q_15, .inl (cA_16, 64, .inl (upd (upd (upd f_28 61 4186) 62 4198) 63 4199))), (q_29, .inl (cA_30, 27, .inl (upd (upd f_35 25 88) 26 667))), (q_36, .inl (cA_37, 27, .inl (upd (upd (upd f_42 24 8283) 25 8292) 26 8293))), (q_43, .inl (cA_44, 13, .inl (upd (upd (upd (upd f_46 9 4124) 10 4125) 11 4126) 12 4127))), (q_47, .inl (cA_48, 10, .inl (upd (upd (upd (upd (upd f_49 5 3) 6 11) 7 67) 8 131) 9 4097))), (q_50, .inl (cA_51, 10000, .inl (fun _ => 0)))] H := hP
  replace hD : va_D A [(h0, .inr (14, [.ref q_1, .ref q_15, .ref q_29, .ref q_36, .ref q_43, .ref q_47, .int 0, .ref q_50, .null, .null, .long 0, .null, .int 0, .int 0, .int 0, .int 0, .int 0, .int 0, .int 0, .null, .null])), (q_1, .inl (cA_2, 64, .inl (upd (upd (upd f_14 61 306) 62 307) 63 308))), (q_15, .inl (cA_16, 64, .inl (upd (upd (upd f_28 61 4186) 62 4198) 63 4199))), (q_29, .inl (cA_30, 27, .inl (upd (upd f_35 25 88) 26 667))), (q_36, .inl (cA_37, 27, .inl (upd (upd (upd f_42 24 8283) 25 8292) 26 8293))), (q_43, .inl (cA_44, 13, .inl (upd (upd (upd (upd f_46 9 4124) 10 4125) 11 4126) 12 4127))), (q_47, .inl (cA_48, 10, .inl (upd (upd (upd (upd (upd f_49 5 3) 6 11) 7 67) 8 131) 9 4097))), (q_50, .inl (cA_51, 10000, .inl (fun _ => 0)))] := hD
  refine lv_aload_n hx hb d_mLines_init_1422 rfl (lv_at hl 0 rfl) ?_
  refine lv_sipush (v := 10000) hx hb d_mLines_init_1423 (by decide) ?_
  refine va_newa (atype := .boolean) (N' := 10000) (a0 := (10000, .inl (fun _ => 0))) (ty := .boolean) (n := 10000) hx hb (hwd _ wd_2_150) rfl hK hP hD hS hA (fun _ => rfl) (by decide) (by decide) (by decide) (Nat.le_of_ble_eq_true rfl) (Nat.le_of_ble_eq_true rfl) d_mLines_init_1426 ?_
  clear hP hD hS hK
  intro q_52 cA_53 H hK hP hD hS
  replace hP : va_P (dC, dI) vcl [(h0, .inr (14, [.ref q_1, .ref q_15, .ref q_29, .ref q_36, .ref q_43, .ref q_47, .int 0, .ref q_50, .null, .null, .long 0, .null, .int 0, .int 0, .int 0, .int 0, .int 0, .int 0, .int 0, .null, .null])), (q_1, .inl (cA_2, 64, .inl (upd (upd (upd f_14 61 306) 62 307) 63 308))), (q_15, .inl (cA_16, 64, .inl (upd (upd (upd f_28 61 4186) 62 4198) 63 4199))), (q_29, .inl (cA_30, 27, .inl (upd (upd f_35 25 88) 26 667))), (q_36, .inl (cA_37, 27, .inl (upd (upd (upd f_42 24 8283) 25 8292) 26 8293))), (q_43, .inl (cA_44, 13, .inl (upd (upd (upd (upd f_46 9 4124) 10 4125) 11 4126) 12 4127))), (q_47, .inl (cA_48, 10, .inl (upd (upd (upd (upd (upd f_49 5 3) 6 11) 7 67) 8 131) 9 4097))), (q_50, .inl (cA_51, 10000, .inl (fun _ => 0))), (q_52, .inl (cA_53, 10000, .inl (fun _ => 0)))] H := hP
  replace hD : va_D A [(h0, .inr (14, [.ref q_1, .ref q_15, .ref q_29, .ref q_36, .ref q_43, .ref q_47, .int 0, .ref q_50, .null, .null, .long 0, .null, .int 0, .int 0, .int 0, .int 0, .int 0, .int 0, .int 0, .null, .null])), (q_1, .inl (cA_2, 64, .inl (upd (upd (upd f_14 61 306) 62 307) 63 308))), (q_15, .inl (cA_16, 64, .inl (upd (upd (upd f_28 61 4186) 62 4198) 63 4199))), (q_29, .inl (cA_30, 27, .inl (upd (upd f_35 25 88) 26 667))), (q_36, .inl (cA_37, 27, .inl (upd (upd (upd f_42 24 8283) 25 8292) 26 8293))), (q_43, .inl (cA_44, 13, .inl (upd (upd (upd (upd f_46 9 4124) 10 4125) 11 4126) 12 4127))), (q_47, .inl (cA_48, 10, .inl (upd (upd (upd (upd (upd f_49 5 3) 6 11) 7 67) 8 131) 9 4097))), (q_50, .inl (cA_51, 10000, .inl (fun _ => 0))), (q_52, .inl (cA_53, 10000, .inl (fun _ => 0)))] := hD
  replace hK : va_K (dC, dI) vcl [(cA_2, .int), (cA_16, .int), (cA_30, .int), (cA_37, .int), (cA_44, .int), (cA_48, .int), (cA_51, .boolean), (cA_53, .boolean)] s := hK
  refine W.widen (k := 8) (n := 20205) (by decide) (by decide) ?_
  refine va_putF (D := (dC, dI)) (ci := 14) (v := .ref q_52) (ty := (.array .boolean)) (C := R_mLines) (T := F_mLines) (N := 21) hx hb hwd i_mLines t_mLines to_mLines no_mLines hown hK hP hD hS 0 rfl rfl 8 (by decide) (hwd _ wd_10_92) (fun _ h9 => h9) rfl hin rfl (by decide +kernel) rfl rfl (Nat.le_of_ble_eq_true rfl) d_mLines_init_1428 ?_
  clear hP hD hS
  intro H locs hP hD hS
  replace hP : va_P (dC, dI) vcl [(h0, .inr (14, [.ref q_1, .ref q_15, .ref q_29, .ref q_36, .ref q_43, .ref q_47, .int 0, .ref q_50, .ref q_52, .null, .long 0, .null, .int 0, .int 0, .int 0, .int 0, .int 0, .int 0, .int 0, .null, .null])), (q_1, .inl (cA_2, 64, .inl (upd (upd (upd f_14 61 306) 62 307) 63 308))), (q_15, .inl (cA_16, 64, .inl (upd (upd (upd f_28 61 4186) 62 4198) 63 4199))), (q_29, .inl (cA_30, 27, .inl (upd (upd f_35 25 88) 26 667))), (q_36, .inl (cA_37, 27, .inl (upd (upd (upd f_42 24 8283) 25 8292) 26 8293))), (q_43, .inl (cA_44, 13, .inl (upd (upd (upd (upd f_46 9 4124) 10 4125) 11 4126) 12 4127))), (q_47, .inl (cA_48, 10, .inl (upd (upd (upd (upd (upd f_49 5 3) 6 11) 7 67) 8 131) 9 4097))), (q_50, .inl (cA_51, 10000, .inl (fun _ => 0))), (q_52, .inl (cA_53, 10000, .inl (fun _ => 0)))] H := hP
  replace hD : va_D A [(h0, .inr (14, [.ref q_1, .ref q_15, .ref q_29, .ref q_36, .ref q_43, .ref q_47, .int 0, .ref q_50, .ref q_52, .null, .long 0, .null, .int 0, .int 0, .int 0, .int 0, .int 0, .int 0, .int 0, .null, .null])), (q_1, .inl (cA_2, 64, .inl (upd (upd (upd f_14 61 306) 62 307) 63 308))), (q_15, .inl (cA_16, 64, .inl (upd (upd (upd f_28 61 4186) 62 4198) 63 4199))), (q_29, .inl (cA_30, 27, .inl (upd (upd f_35 25 88) 26 667))), (q_36, .inl (cA_37, 27, .inl (upd (upd (upd f_42 24 8283) 25 8292) 26 8293))), (q_43, .inl (cA_44, 13, .inl (upd (upd (upd (upd f_46 9 4124) 10 4125) 11 4126) 12 4127))), (q_47, .inl (cA_48, 10, .inl (upd (upd (upd (upd (upd f_49 5 3) 6 11) 7 67) 8 131) 9 4097))), (q_50, .inl (cA_51, 10000, .inl (fun _ => 0))), (q_52, .inl (cA_53, 10000, .inl (fun _ => 0)))] := hD
  refine lv_aload_n hx hb d_mLines_init_1431 rfl (lv_at hl 0 rfl) ?_
  refine lv_sipush (v := 10000) hx hb d_mLines_init_1432 (by decide) ?_
  refine va_newa (atype := .boolean) (N' := 10000) (a0 := (10000, .inl (fun _ => 0))) (ty := .boolean) (n := 10000) hx hb (hwd _ wd_2_150) rfl hK hP hD hS hA (fun _ => rfl) (by decide) (by decide) (by decide) (Nat.le_of_ble_eq_true rfl) (Nat.le_of_ble_eq_true rfl) d_mLines_init_1435 ?_
  clear hP hD hS hK
  intro q_54 cA_55 H hK hP hD hS
  replace hP : va_P (dC, dI) vcl [(h0, .inr (14, [.ref q_1, .ref q_15, .ref q_29, .ref q_36, .ref q_43, .ref q_47, .int 0, .ref q_50, .ref q_52, .null, .long 0, .null, .int 0, .int 0, .int 0, .int 0, .int 0, .int 0, .int 0, .null, .null])), (q_1, .inl (cA_2, 64, .inl (upd (upd (upd f_14 61 306) 62 307) 63 308))), (q_15, .inl (cA_16, 64, .inl (upd (upd (upd f_28 61 4186) 62 4198) 63 4199))), (q_29, .inl (cA_30, 27, .inl (upd (upd f_35 25 88) 26 667))), (q_36, .inl (cA_37, 27, .inl (upd (upd (upd f_42 24 8283) 25 8292) 26 8293))), (q_43, .inl (cA_44, 13, .inl (upd (upd (upd (upd f_46 9 4124) 10 4125) 11 4126) 12 4127))), (q_47, .inl (cA_48, 10, .inl (upd (upd (upd (upd (upd f_49 5 3) 6 11) 7 67) 8 131) 9 4097))), (q_50, .inl (cA_51, 10000, .inl (fun _ => 0))), (q_52, .inl (cA_53, 10000, .inl (fun _ => 0))), (q_54, .inl (cA_55, 10000, .inl (fun _ => 0)))] H := hP
  replace hD : va_D A [(h0, .inr (14, [.ref q_1, .ref q_15, .ref q_29, .ref q_36, .ref q_43, .ref q_47, .int 0, .ref q_50, .ref q_52, .null, .long 0, .null, .int 0, .int 0, .int 0, .int 0, .int 0, .int 0, .int 0, .null, .null])), (q_1, .inl (cA_2, 64, .inl (upd (upd (upd f_14 61 306) 62 307) 63 308))), (q_15, .inl (cA_16, 64, .inl (upd (upd (upd f_28 61 4186) 62 4198) 63 4199))), (q_29, .inl (cA_30, 27, .inl (upd (upd f_35 25 88) 26 667))), (q_36, .inl (cA_37, 27, .inl (upd (upd (upd f_42 24 8283) 25 8292) 26 8293))), (q_43, .inl (cA_44, 13, .inl (upd (upd (upd (upd f_46 9 4124) 10 4125) 11 4126) 12 4127))), (q_47, .inl (cA_48, 10, .inl (upd (upd (upd (upd (upd f_49 5 3) 6 11) 7 67) 8 131) 9 4097))), (q_50, .inl (cA_51, 10000, .inl (fun _ => 0))), (q_52, .inl (cA_53, 10000, .inl (fun _ => 0))), (q_54, .inl (cA_55, 10000, .inl (fun _ => 0)))] := hD
  replace hK : va_K (dC, dI) vcl [(cA_2, .int), (cA_16, .int), (cA_30, .int), (cA_37, .int), (cA_44, .int), (cA_48, .int), (cA_51, .boolean), (cA_53, .boolean), (cA_55, .boolean)] s := hK
  refine W.widen (k := 9) (n := 30205) (by decide) (by decide) ?_
  refine va_putF (D := (dC, dI)) (ci := 14) (v := .ref q_54) (ty := (.array .boolean)) (C := R_mLines) (T := F_mLines) (N := 21) hx hb hwd i_mLines t_mLines to_mLines no_mLines hown hK hP hD hS 0 rfl rfl 19 (by decide) (hwd _ wd_10_105) (fun _ h9 => h9) rfl hin rfl (by decide +kernel) rfl rfl (Nat.le_of_ble_eq_true rfl) d_mLines_init_1437 ?_
  clear hP hD hS
  intro H locs hP hD hS
  replace hP : va_P (dC, dI) vcl [(h0, .inr (14, [.ref q_1, .ref q_15, .ref q_29, .ref q_36, .ref q_43, .ref q_47, .int 0, .ref q_50, .ref q_52, .null, .long 0, .null, .int 0, .int 0, .int 0, .int 0, .int 0, .int 0, .int 0, .ref q_54, .null])), (q_1, .inl (cA_2, 64, .inl (upd (upd (upd f_14 61 306) 62 307) 63 308))), (q_15, .inl (cA_16, 64, .inl (upd (upd (upd f_28 61 4186) 62 4198) 63 4199))), (q_29, .inl (cA_30, 27, .inl (upd (upd f_35 25 88) 26 667))), (q_36, .inl (cA_37, 27, .inl (upd (upd (upd f_42 24 8283) 25 8292) 26 8293))), (q_43, .inl (cA_44, 13, .inl (upd (upd (upd (upd f_46 9 4124) 10 4125) 11 4126) 12 4127))), (q_47, .inl (cA_48, 10, .inl (upd (upd (upd (upd (upd f_49 5 3) 6 11) 7 67) 8 131) 9 4097))), (q_50, .inl (cA_51, 10000, .inl (fun _ => 0))), (q_52, .inl (cA_53, 10000, .inl (fun _ => 0))), (q_54, .inl (cA_55, 10000, .inl (fun _ => 0)))] H := hP
  replace hD : va_D A [(h0, .inr (14, [.ref q_1, .ref q_15, .ref q_29, .ref q_36, .ref q_43, .ref q_47, .int 0, .ref q_50, .ref q_52, .null, .long 0, .null, .int 0, .int 0, .int 0, .int 0, .int 0, .int 0, .int 0, .ref q_54, .null])), (q_1, .inl (cA_2, 64, .inl (upd (upd (upd f_14 61 306) 62 307) 63 308))), (q_15, .inl (cA_16, 64, .inl (upd (upd (upd f_28 61 4186) 62 4198) 63 4199))), (q_29, .inl (cA_30, 27, .inl (upd (upd f_35 25 88) 26 667))), (q_36, .inl (cA_37, 27, .inl (upd (upd (upd f_42 24 8283) 25 8292) 26 8293))), (q_43, .inl (cA_44, 13, .inl (upd (upd (upd (upd f_46 9 4124) 10 4125) 11 4126) 12 4127))), (q_47, .inl (cA_48, 10, .inl (upd (upd (upd (upd (upd f_49 5 3) 6 11) 7 67) 8 131) 9 4097))), (q_50, .inl (cA_51, 10000, .inl (fun _ => 0))), (q_52, .inl (cA_53, 10000, .inl (fun _ => 0))), (q_54, .inl (cA_55, 10000, .inl (fun _ => 0)))] := hD
  refine lv_aload_n hx hb d_mLines_init_1440 rfl (lv_at hl 0 rfl) ?_
  refine lv_sipush (v := 10000) hx hb d_mLines_init_1441 (by decide) ?_
  refine va_newa (atype := .boolean) (N' := 10000) (a0 := (10000, .inl (fun _ => 0))) (ty := .boolean) (n := 10000) hx hb (hwd _ wd_2_150) rfl hK hP hD hS hA (fun _ => rfl) (by decide) (by decide) (by decide) (Nat.le_of_ble_eq_true rfl) (Nat.le_of_ble_eq_true rfl) d_mLines_init_1444 ?_
  clear hP hD hS hK
  intro q_56 cA_57 H hK hP hD hS
  replace hP : va_P (dC, dI) vcl [(h0, .inr (14, [.ref q_1, .ref q_15, .ref q_29, .ref q_36, .ref q_43, .ref q_47, .int 0, .ref q_50, .ref q_52, .null, .long 0, .null, .int 0, .int 0, .int 0, .int 0, .int 0, .int 0, .int 0, .ref q_54, .null])), (q_1, .inl (cA_2, 64, .inl (upd (upd (upd f_14 61 306) 62 307) 63 308))), (q_15, .inl (cA_16, 64, .inl (upd (upd (upd f_28 61 4186) 62 4198) 63 4199))), (q_29, .inl (cA_30, 27, .inl (upd (upd f_35 25 88) 26 667))), (q_36, .inl (cA_37, 27, .inl (upd (upd (upd f_42 24 8283) 25 8292) 26 8293))), (q_43, .inl (cA_44, 13, .inl (upd (upd (upd (upd f_46 9 4124) 10 4125) 11 4126) 12 4127))), (q_47, .inl (cA_48, 10, .inl (upd (upd (upd (upd (upd f_49 5 3) 6 11) 7 67) 8 131) 9 4097))), (q_50, .inl (cA_51, 10000, .inl (fun _ => 0))), (q_52, .inl (cA_53, 10000, .inl (fun _ => 0))), (q_54, .inl (cA_55, 10000, .inl (fun _ => 0))), (q_56, .inl (cA_57, 10000, .inl (fun _ => 0)))] H := hP
  replace hD : va_D A [(h0, .inr (14, [.ref q_1, .ref q_15, .ref q_29, .ref q_36, .ref q_43, .ref q_47, .int 0, .ref q_50, .ref q_52, .null, .long 0, .null, .int 0, .int 0, .int 0, .int 0, .int 0, .int 0, .int 0, .ref q_54, .null])), (q_1, .inl (cA_2, 64, .inl (upd (upd (upd f_14 61 306) 62 307) 63 308))), (q_15, .inl (cA_16, 64, .inl (upd (upd (upd f_28 61 4186) 62 4198) 63 4199))), (q_29, .inl (cA_30, 27, .inl (upd (upd f_35 25 88) 26 667))), (q_36, .inl (cA_37, 27, .inl (upd (upd (upd f_42 24 8283) 25 8292) 26 8293))), (q_43, .inl (cA_44, 13, .inl (upd (upd (upd (upd f_46 9 4124) 10 4125) 11 4126) 12 4127))), (q_47, .inl (cA_48, 10, .inl (upd (upd (upd (upd (upd f_49 5 3) 6 11) 7 67) 8 131) 9 4097))), (q_50, .inl (cA_51, 10000, .inl (fun _ => 0))), (q_52, .inl (cA_53, 10000, .inl (fun _ => 0))), (q_54, .inl (cA_55, 10000, .inl (fun _ => 0))), (q_56, .inl (cA_57, 10000, .inl (fun _ => 0)))] := hD
  replace hK : va_K (dC, dI) vcl [(cA_2, .int), (cA_16, .int), (cA_30, .int), (cA_37, .int), (cA_44, .int), (cA_48, .int), (cA_51, .boolean), (cA_53, .boolean), (cA_55, .boolean), (cA_57, .boolean)] s := hK
  refine W.widen (k := 10) (n := 40205) (by decide) (by decide) ?_
  refine va_putF (D := (dC, dI)) (ci := 14) (v := .ref q_56) (ty := (.array .boolean)) (C := R_mLines) (T := F_mLines) (N := 21) hx hb hwd i_mLines t_mLines to_mLines no_mLines hown hK hP hD hS 0 rfl rfl 20 (by decide) (hwd _ wd_10_106) (fun _ h9 => h9) rfl hin rfl (by decide +kernel) rfl rfl (Nat.le_of_ble_eq_true rfl) d_mLines_init_1446 ?_
  clear hP hD hS
  intro H locs hP hD hS
  replace hP : va_P (dC, dI) vcl [(h0, .inr (14, [.ref q_1, .ref q_15, .ref q_29, .ref q_36, .ref q_43, .ref q_47, .int 0, .ref q_50, .ref q_52, .null, .long 0, .null, .int 0, .int 0, .int 0, .int 0, .int 0, .int 0, .int 0, .ref q_54, .ref q_56])), (q_1, .inl (cA_2, 64, .inl (upd (upd (upd f_14 61 306) 62 307) 63 308))), (q_15, .inl (cA_16, 64, .inl (upd (upd (upd f_28 61 4186) 62 4198) 63 4199))), (q_29, .inl (cA_30, 27, .inl (upd (upd f_35 25 88) 26 667))), (q_36, .inl (cA_37, 27, .inl (upd (upd (upd f_42 24 8283) 25 8292) 26 8293))), (q_43, .inl (cA_44, 13, .inl (upd (upd (upd (upd f_46 9 4124) 10 4125) 11 4126) 12 4127))), (q_47, .inl (cA_48, 10, .inl (upd (upd (upd (upd (upd f_49 5 3) 6 11) 7 67) 8 131) 9 4097))), (q_50, .inl (cA_51, 10000, .inl (fun _ => 0))), (q_52, .inl (cA_53, 10000, .inl (fun _ => 0))), (q_54, .inl (cA_55, 10000, .inl (fun _ => 0))), (q_56, .inl (cA_57, 10000, .inl (fun _ => 0)))] H := hP
  replace hD : va_D A [(h0, .inr (14, [.ref q_1, .ref q_15, .ref q_29, .ref q_36, .ref q_43, .ref q_47, .int 0, .ref q_50, .ref q_52, .null, .long 0, .null, .int 0, .int 0, .int 0, .int 0, .int 0, .int 0, .int 0, .ref q_54, .ref q_56])), (q_1, .inl (cA_2, 64, .inl (upd (upd (upd f_14 61 306) 62 307) 63 308))), (q_15, .inl (cA_16, 64, .inl (upd (upd (upd f_28 61 4186) 62 4198) 63 4199))), (q_29, .inl (cA_30, 27, .inl (upd (upd f_35 25 88) 26 667))), (q_36, .inl (cA_37, 27, .inl (upd (upd (upd f_42 24 8283) 25 8292) 26 8293))), (q_43, .inl (cA_44, 13, .inl (upd (upd (upd (upd f_46 9 4124) 10 4125) 11 4126) 12 4127))), (q_47, .inl (cA_48, 10, .inl (upd (upd (upd (upd (upd f_49 5 3) 6 11) 7 67) 8 131) 9 4097))), (q_50, .inl (cA_51, 10000, .inl (fun _ => 0))), (q_52, .inl (cA_53, 10000, .inl (fun _ => 0))), (q_54, .inl (cA_55, 10000, .inl (fun _ => 0))), (q_56, .inl (cA_57, 10000, .inl (fun _ => 0)))] := hD
  refine lv_aload_n hx hb d_mLines_init_1449 rfl (lv_at hl 0 rfl) ?_
  refine lv_iload_n hx hb d_mLines_init_1450 rfl (lv_at hl 1 rfl) ?_
  refine va_newa (atype := .byte) (N' := 1) (a0 := (1, .inl (fun _ => 0))) (ty := .byte) (n := 1) hx hb (hwd _ wd_1_166) rfl hK hP hD hS hA (fun _ => rfl) (by decide) (by decide) (by decide) (Nat.le_of_ble_eq_true rfl) (Nat.le_of_ble_eq_true rfl) d_mLines_init_1451 ?_
  clear hP hD hS hK
  intro q_58 cA_59 H hK hP hD hS
  replace hP : va_P (dC, dI) vcl [(h0, .inr (14, [.ref q_1, .ref q_15, .ref q_29, .ref q_36, .ref q_43, .ref q_47, .int 0, .ref q_50, .ref q_52, .null, .long 0, .null, .int 0, .int 0, .int 0, .int 0, .int 0, .int 0, .int 0, .ref q_54, .ref q_56])), (q_1, .inl (cA_2, 64, .inl (upd (upd (upd f_14 61 306) 62 307) 63 308))), (q_15, .inl (cA_16, 64, .inl (upd (upd (upd f_28 61 4186) 62 4198) 63 4199))), (q_29, .inl (cA_30, 27, .inl (upd (upd f_35 25 88) 26 667))), (q_36, .inl (cA_37, 27, .inl (upd (upd (upd f_42 24 8283) 25 8292) 26 8293))), (q_43, .inl (cA_44, 13, .inl (upd (upd (upd (upd f_46 9 4124) 10 4125) 11 4126) 12 4127))), (q_47, .inl (cA_48, 10, .inl (upd (upd (upd (upd (upd f_49 5 3) 6 11) 7 67) 8 131) 9 4097))), (q_50, .inl (cA_51, 10000, .inl (fun _ => 0))), (q_52, .inl (cA_53, 10000, .inl (fun _ => 0))), (q_54, .inl (cA_55, 10000, .inl (fun _ => 0))), (q_56, .inl (cA_57, 10000, .inl (fun _ => 0))), (q_58, .inl (cA_59, 1, .inl (fun _ => 0)))] H := hP
  replace hD : va_D A [(h0, .inr (14, [.ref q_1, .ref q_15, .ref q_29, .ref q_36, .ref q_43, .ref q_47, .int 0, .ref q_50, .ref q_52, .null, .long 0, .null, .int 0, .int 0, .int 0, .int 0, .int 0, .int 0, .int 0, .ref q_54, .ref q_56])), (q_1, .inl (cA_2, 64, .inl (upd (upd (upd f_14 61 306) 62 307) 63 308))), (q_15, .inl (cA_16, 64, .inl (upd (upd (upd f_28 61 4186) 62 4198) 63 4199))), (q_29, .inl (cA_30, 27, .inl (upd (upd f_35 25 88) 26 667))), (q_36, .inl (cA_37, 27, .inl (upd (upd (upd f_42 24 8283) 25 8292) 26 8293))), (q_43, .inl (cA_44, 13, .inl (upd (upd (upd (upd f_46 9 4124) 10 4125) 11 4126) 12 4127))), (q_47, .inl (cA_48, 10, .inl (upd (upd (upd (upd (upd f_49 5 3) 6 11) 7 67) 8 131) 9 4097))), (q_50, .inl (cA_51, 10000, .inl (fun _ => 0))), (q_52, .inl (cA_53, 10000, .inl (fun _ => 0))), (q_54, .inl (cA_55, 10000, .inl (fun _ => 0))), (q_56, .inl (cA_57, 10000, .inl (fun _ => 0))), (q_58, .inl (cA_59, 1, .inl (fun _ => 0)))] := hD
  replace hK : va_K (dC, dI) vcl [(cA_2, .int), (cA_16, .int), (cA_30, .int), (cA_37, .int), (cA_44, .int), (cA_48, .int), (cA_51, .boolean), (cA_53, .boolean), (cA_55, .boolean), (cA_57, .boolean), (cA_59, .byte)] s := hK
  refine W.widen (k := 11) (n := 40206) (by decide) (by decide) ?_
  refine va_putF (D := (dC, dI)) (ci := 14) (v := .ref q_58) (ty := (.array .byte)) (C := R_mLines) (T := F_mLines) (N := 21) hx hb hwd i_mLines t_mLines to_mLines no_mLines hown hK hP hD hS 0 rfl rfl 9 (by decide) (hwd _ wd_10_93) (fun _ h9 => h9) rfl hin rfl (by decide +kernel) rfl rfl (Nat.le_of_ble_eq_true rfl) d_mLines_init_1453 ?_
  clear hP hD hS
  intro H locs hP hD hS
  replace hP : va_P (dC, dI) vcl [(h0, .inr (14, [.ref q_1, .ref q_15, .ref q_29, .ref q_36, .ref q_43, .ref q_47, .int 0, .ref q_50, .ref q_52, .ref q_58, .long 0, .null, .int 0, .int 0, .int 0, .int 0, .int 0, .int 0, .int 0, .ref q_54, .ref q_56])), (q_1, .inl (cA_2, 64, .inl (upd (upd (upd f_14 61 306) 62 307) 63 308))), (q_15, .inl (cA_16, 64, .inl (upd (upd (upd f_28 61 4186) 62 4198) 63 4199))), (q_29, .inl (cA_30, 27, .inl (upd (upd f_35 25 88) 26 667))), (q_36, .inl (cA_37, 27, .inl (upd (upd (upd f_42 24 8283) 25 8292) 26 8293))), (q_43, .inl (cA_44, 13, .inl (upd (upd (upd (upd f_46 9 4124) 10 4125) 11 4126) 12 4127))), (q_47, .inl (cA_48, 10, .inl (upd (upd (upd (upd (upd f_49 5 3) 6 11) 7 67) 8 131) 9 4097))), (q_50, .inl (cA_51, 10000, .inl (fun _ => 0))), (q_52, .inl (cA_53, 10000, .inl (fun _ => 0))), (q_54, .inl (cA_55, 10000, .inl (fun _ => 0))), (q_56, .inl (cA_57, 10000, .inl (fun _ => 0))), (q_58, .inl (cA_59, 1, .inl (fun _ => 0)))] H := hP
  replace hD : va_D A [(h0, .inr (14, [.ref q_1, .ref q_15, .ref q_29, .ref q_36, .ref q_43, .ref q_47, .int 0, .ref q_50, .ref q_52, .ref q_58, .long 0, .null, .int 0, .int 0, .int 0, .int 0, .int 0, .int 0, .int 0, .ref q_54, .ref q_56])), (q_1, .inl (cA_2, 64, .inl (upd (upd (upd f_14 61 306) 62 307) 63 308))), (q_15, .inl (cA_16, 64, .inl (upd (upd (upd f_28 61 4186) 62 4198) 63 4199))), (q_29, .inl (cA_30, 27, .inl (upd (upd f_35 25 88) 26 667))), (q_36, .inl (cA_37, 27, .inl (upd (upd (upd f_42 24 8283) 25 8292) 26 8293))), (q_43, .inl (cA_44, 13, .inl (upd (upd (upd (upd f_46 9 4124) 10 4125) 11 4126) 12 4127))), (q_47, .inl (cA_48, 10, .inl (upd (upd (upd (upd (upd f_49 5 3) 6 11) 7 67) 8 131) 9 4097))), (q_50, .inl (cA_51, 10000, .inl (fun _ => 0))), (q_52, .inl (cA_53, 10000, .inl (fun _ => 0))), (q_54, .inl (cA_55, 10000, .inl (fun _ => 0))), (q_56, .inl (cA_57, 10000, .inl (fun _ => 0))), (q_58, .inl (cA_59, 1, .inl (fun _ => 0)))] := hD
  have hP9 := hP.sub (ws' := [(h0, .inr (14, [.ref q_1, .ref q_15, .ref q_29, .ref q_36, .ref q_43, .ref q_47, .int 0, .ref q_50, .ref q_52, .ref q_58, .long 0, .null, .int 0, .int 0, .int 0, .int 0, .int 0, .int 0, .int 0, .ref q_54, .ref q_56])), (q_1, .inl (cA_2, 64, .inl (upd (upd (upd f_14 61 306) 62 307) 63 308))), (q_15, .inl (cA_16, 64, .inl (upd (upd (upd f_28 61 4186) 62 4198) 63 4199))), (q_29, .inl (cA_30, 27, .inl (upd (upd f_35 25 88) 26 667))), (q_36, .inl (cA_37, 27, .inl (upd (upd (upd f_42 24 8283) 25 8292) 26 8293))), (q_43, .inl (cA_44, 13, .inl (upd (upd (upd (upd f_46 9 4124) 10 4125) 11 4126) 12 4127))), (q_47, .inl (cA_48, 10, .inl (upd (upd (upd (upd (upd f_49 5 3) 6 11) 7 67) 8 131) 9 4097))), (q_50, .inl (cA_51, 10000, .inl (fun _ => 0))), (q_52, .inl (cA_53, 10000, .inl (fun _ => 0))), (q_54, .inl (cA_55, 10000, .inl (fun _ => 0))), (q_56, .inl (cA_57, 10000, .inl (fun _ => 0))), (q_58, .inl (cA_59, 1, .inl (fun _ => 0)))]) [0, 1, 2, 3, 4, 5, 6, 7, 8, 9, 10, 11] rfl
  have hD9 := hD.sub (ws' := [(h0, .inr (14, [.ref q_1, .ref q_15, .ref q_29, .ref q_36, .ref q_43, .ref q_47, .int 0, .ref q_50, .ref q_52, .ref q_58, .long 0, .null, .int 0, .int 0, .int 0, .int 0, .int 0, .int 0, .int 0, .ref q_54, .ref q_56])), (q_1, .inl (cA_2, 64, .inl (upd (upd (upd f_14 61 306) 62 307) 63 308))), (q_15, .inl (cA_16, 64, .inl (upd (upd (upd f_28 61 4186) 62 4198) 63 4199))), (q_29, .inl (cA_30, 27, .inl (upd (upd f_35 25 88) 26 667))), (q_36, .inl (cA_37, 27, .inl (upd (upd (upd f_42 24 8283) 25 8292) 26 8293))), (q_43, .inl (cA_44, 13, .inl (upd (upd (upd (upd f_46 9 4124) 10 4125) 11 4126) 12 4127))), (q_47, .inl (cA_48, 10, .inl (upd (upd (upd (upd (upd f_49 5 3) 6 11) 7 67) 8 131) 9 4097))), (q_50, .inl (cA_51, 10000, .inl (fun _ => 0))), (q_52, .inl (cA_53, 10000, .inl (fun _ => 0))), (q_54, .inl (cA_55, 10000, .inl (fun _ => 0))), (q_56, .inl (cA_57, 10000, .inl (fun _ => 0))), (q_58, .inl (cA_59, 1, .inl (fun _ => 0)))]) [0, 1, 2, 3, 4, 5, 6, 7, 8, 9, 10, 11] (by decide) rfl
  have hK9 := hK.sub (tys' := [(cA_2, .int), (cA_16, .int), (cA_30, .int), (cA_37, .int), (cA_44, .int), (cA_48, .int), (cA_51, .boolean), (cA_53, .boolean), (cA_55, .boolean), (cA_57, .boolean), (cA_59, .byte)]) [0, 1, 2, 3, 4, 5, 6, 7, 8, 9, 10] rfl
  exact W.vret hx hb hr (fun t ht hW => ⟨⟨(f_14, f_28, f_35, f_42, f_46, f_49), rfl, (trivial), q_1, q_15, q_29, q_36, q_43, q_47, q_50, q_52, q_54, q_56, q_58, cA_2, cA_16, cA_30, cA_37, cA_44, cA_48, cA_51, cA_53, cA_55, cA_57, cA_59, by rw [ht]; exact hP9, va_K.moved hW.alike hK9, hD9⟩, hS.F ht⟩) hS.2.2 d_mLines_init_1456
