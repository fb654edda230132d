


def c_tr1 (l : Launch) (dC : Nat → ClassId) (dI : Nat → Nat → Nat) (tt : Nat → Nat) (a_this : Nat) (x_bytes : Nat) (x_above : Nat) (x_line : Nat) (a_tree : Nat) (k_tree : ClassId) (sz : Nat) := e_LineReader_addModes l dC dI tt a_this (.ref x_bytes) (.ref x_above) (.ref x_line) (rdO 5) a_tree k_tree (fun _ => 0) 200 0 (rdO 13, lsT (pdI tL2)) sz (by rw [← tr_0Z]; exact tr_all.1)

def c_tr2 (l : Launch) (dC : Nat → ClassId) (dI : Nat → Nat → Nat) (tt : Nat → Nat) (a_this : Nat) (x_bytes : Nat) (x_above : Nat) (x_line : Nat) (a_tree : Nat) (k_tree : ClassId) (sz : Nat) := e_LineReader_addModes l dC dI tt a_this (.ref x_bytes) (.ref x_above) (.ref x_line) (rdO 13) a_tree k_tree (lsT (pdI tL2)) 200 1 (rdO 21, lsT (pdI tL4)) sz tr_all.2.1

def c_tr3 (l : Launch) (dC : Nat → ClassId) (dI : Nat → Nat → Nat) (tt : Nat → Nat) (a_this : Nat) (x_bytes : Nat) (x_above : Nat) (x_line : Nat) (a_tree : Nat) (k_tree : ClassId) (sz : Nat) := e_LineReader_addWord l dC dI tt a_this (.ref x_bytes) (.ref x_above) (.ref x_line) (rdO 21) a_tree k_tree (lsT (pdI tL4)) 200 0 4097 22 (rdO 27, lsT (pdI tL5)) sz tr_all.2.2.1

def c_tr4 (l : Launch) (dC : Nat → ClassId) (dI : Nat → Nat → Nat) (tt : Nat → Nat) (a_this : Nat) (x_bytes : Nat) (x_above : Nat) (x_line : Nat) (a_tree : Nat) (k_tree : ClassId) (sz : Nat) := e_LineReader_addWord l dC dI tt a_this (.ref x_bytes) (.ref x_above) (.ref x_line) (rdO 27) a_tree k_tree (lsT (pdI tL5)) 200 2 4097 22 (rdO 38, lsT (pdI tL6)) sz tr_all.2.2.2.1

def c_tr5 (l : Launch) (dC : Nat → ClassId) (dI : Nat → Nat → Nat) (tt : Nat → Nat) (a_this : Nat) (x_bytes : Nat) (x_above : Nat) (x_line : Nat) (a_tree : Nat) (k_tree : ClassId) (sz : Nat) := e_LineReader_addRuns_WHITE_RESTS_WHITE_BLOCKS l dC dI tt a_this (.ref x_bytes) (.ref x_above) (.ref x_line) (rdO 38) a_tree k_tree (lsT (pdI tL6)) 200 3 (rdO 141, lsT (pdI tL20)) sz tr_all.2.2.2.2.1

def c_tr6 (l : Launch) (dC : Nat → ClassId) (dI : Nat → Nat → Nat) (tt : Nat → Nat) (a_this : Nat) (x_bytes : Nat) (x_above : Nat) (x_line : Nat) (a_tree : Nat) (k_tree : ClassId) (sz : Nat) := e_LineReader_addRuns_BLACK_RESTS_BLACK_BLOCKS l dC dI tt a_this (.ref x_bytes) (.ref x_above) (.ref x_line) (rdO 141) a_tree k_tree (lsT (pdI tL20)) 200 4 (rdO 244, lsT (pdI tL34)) sz tr_all.2.2.2.2.2

abbrev at_c_LineReader_init_S (dC : Nat → ClassId) (dI : Nat → Nat → Nat) (h0 : Nat) (tp : Nat) (A : Nat → Prop) (u : Unit) (t : State) : Prop := match u with
  | _ => ∃ (q_3 : Nat) (q_5 : Nat) (q_1 : Nat) (cA_4 : ClassId) (cA_6 : ClassId) (cA_2 : ClassId), va_P (dC, dI) vcl [(h0, .inr (5, [.ref q_1, .int 244, .ref tp, .int 0, .int 0, .int 0, .ref q_3, .int 0, .ref q_5, .int 0, .int 0, .int 0, .int 0, .int 0, .int 0])), (q_3, .inl (cA_4, 10000, .inl (fun _ => 0))), (q_5, .inl (cA_6, 10000, .inl (fun _ => 0))), (q_1, .inl (cA_2, 1024, .inl (lsT (pdI tL34))))] t.heap ∧ va_K (dC, dI) vcl [(cA_4, .int), (cA_6, .int), (cA_2, .int)] t ∧ va_D A [(h0, .inr (5, [.ref q_1, .int 244, .ref tp, .int 0, .int 0, .int 0, .ref q_3, .int 0, .ref q_5, .int 0, .int 0, .int 0, .int 0, .int 0, .int 0])), (q_3, .inl (cA_4, 10000, .inl (fun _ => 0))), (q_5, .inl (cA_6, 10000, .inl (fun _ => 0))), (q_1, .inl (cA_2, 1024, .inl (lsT (pdI tL34))))]
abbrev po_c_LineReader_init_S (h0 : Nat) (tp : Nat) (u : Unit) : Prop := match u with
  | _ => True
abbrev q_c_LineReader_init_S (dC : Nat → ClassId) (dI : Nat → Nat → Nat) (h0 : Nat) (tp : Nat) (A : Nat → Prop) : Array Value → State → Outcome → State → Prop := va_Qv (po_c_LineReader_init_S h0 tp) (at_c_LineReader_init_S dC dI h0 tp A) A
abbrev rm_c_LineReader_init_S : Room := { frames := 3, cells := 3, slots := 21024, locals := 72 }
set_option maxHeartbeats 4000000 in
set_option maxRecDepth 100000 in
theorem c_LineReader_init_S (l : Launch) (dC : Nat → ClassId) (dI : Nat → Nat → Nat) (tt : Nat → Nat) (h0 : Nat) (tp : Nat) (sz : Nat)  : Met l y_LineReader_init w_LineReader_init rm_c_LineReader_init_S (va_Pc [.ref h0, .ref tp] (fun U => U.heap.size = sz ∧ va_P (dC, dI) vcl [(h0, .inr (5, [.null, .int 0, .null, .int 0, .int 0, .int 0, .null, .int 0, .null, .int 0, .int 0, .int 0, .int 0, .int 0, .int 0]))] U.heap ∧ va_K (dC, dI) vcl [] U ∧ va_D (fun _ => True) [(h0, .inr (5, [.null, .int 0, .null, .int 0, .int 0, .int 0, .null, .int 0, .null, .int 0, .int 0, .int 0, .int 0, .int 0, .int 0]))] ∧ SF tt (va_A [(h0, .inr (5, [.null, .int 0, .null, .int 0, .int 0, .int 0, .null, .int 0, .null, .int 0, .int 0, .int 0, .int 0, .int 0, .int 0]))] sz) U U.heap)) (q_c_LineReader_init_S dC dI h0 tp (va_A [(h0, .inr (5, [.null, .int 0, .null, .int 0, .int 0, .int 0, .null, .int 0, .null, .int 0, .int 0, .int 0, .int 0, .int 0, .int 0]))] sz)) 3 21024 (va_A [(h0, .inr (5, [.null, .int 0, .null, .int 0, .int 0, .int 0, .null, .int 0, .null, .int 0, .int 0, .int 0, .int 0, .int 0, .int 0]))] sz) := by
  refine Met.ofW (cc := b_LineReader_init) (maxL := 2) (ret := none) (by decide) rfl ?_
  intro p e s m args below meth c s₁ B hml hv
  obtain ⟨rfl, hsz, hP, hK, hD0, hF⟩ := hv
  have hx := B.exec
  have hb := B.bytes
  have hr := B.returns
  have hwd : ∀ w ∈ gT, w.before _ s = true := fun w h => atoms_spec (ws := w_LineReader_init) B.pre w (List.mem_cons_of_mem _ h)
  have hown : s.vm.findClass R_LineReader = some m.cls := findClass_of_methodNamed B.named
  have hlocks := B.notSynchronized
  have hin : meth.name = "<init>" := (name_of_methodNamed B.named B.method).1
  subst hsz
  have hD := hD0.self (sz := s.heap.size)
  generalize hAe : va_A [(h0, .inr (5, [.null, .int 0, .null, .int 0, .int 0, .int 0, .null, .int 0, .null, .int 0, .int 0, .int 0, .int 0, .int 0, .int 0]))] s.heap.size = A at hD hF ⊢
  have hA : ∀ q : Nat, s.heap.size ≤ q → A q := fun q h => by rw [← hAe]; exact Or.inr h
  have hS : va_S A s.heap s.heap [] := va_S.rf
  have hP : va_P (dC, dI) vcl [(h0, .inr (5, [.null, .int 0, .null, .int 0, .int 0, .int 0, .null, .int 0, .null, .int 0, .int 0, .int 0, .int 0, .int 0, .int 0]))] s.heap := hP
  have hl := lv_entry ([.ref h0, .ref tp]) (n := 2) (Nat.le_of_ble_eq_true rfl)
  rw [lg_entry_eq]
  generalize (lg_sl ([.ref h0, .ref tp]) ++ List.replicate (2 - (lg_sl ([.ref h0, .ref tp])).length) Slot.unset).toArray = ls at hl ⊢
  have hl : lv_has ls 2 [(0, .ref h0), (1, .ref tp)] := hl
  refine lv_aload_n hx hb d_LineReader_init_0 rfl (lv_at hl 0 rfl) ?_
  refine W.objInit hx hb hown (hwd _ wd_4_41) (hwd _ wd_1_35) (hwd _ wd_1_36) rfl (by rw [hml]; exact hl.1) rfl d_LineReader_init_1 (Nat.le_of_ble_eq_true rfl) (Nat.le_of_ble_eq_true rfl) ?_
  refine W.eq (g2 := F0 m 4 ls []) rfl ?_
  refine lv_aload_n hx hb d_LineReader_init_4 rfl (lv_at hl 0 rfl) ?_
  refine lv_sipush (v := 1024) hx hb d_LineReader_init_5 (by decide) ?_
  refine va_newa (atype := .int) (N' := 1024) (a0 := (1024, .inl (fun _ => 0))) (ty := .int) (n := 1024) hx hb (hwd _ wd_1_167) rfl hK hP hD hS hA (fun _ => rfl) (by decide) (by decide) (by decide) (Nat.le_of_ble_eq_true rfl) (Nat.le_of_ble_eq_true rfl) d_LineReader_init_8 ?_
  clear hP hD hS hK
  intro q_1 cA_2 H hK hP hD hS
  replace hP : va_P (dC, dI) vcl [(h0, .inr (5, [.null, .int 0, .null, .int 0, .int 0, .int 0, .null, .int 0, .null, .int 0, .int 0, .int 0, .int 0, .int 0, .int 0])), (q_1, .inl (cA_2, 1024, .inl (fun _ => 0)))] H := hP
  replace hD : va_D A [(h0, .inr (5, [.null, .int 0, .null, .int 0, .int 0, .int 0, .null, .int 0, .null, .int 0, .int 0, .int 0, .int 0, .int 0, .int 0])), (q_1, .inl (cA_2, 1024, .inl (fun _ => 0)))] := hD
  replace hK : va_K (dC, dI) vcl [(cA_2, .int)] s := hK
  refine W.widen (k := 1) (n := 1024) (by decide) (by decide) ?_
  refine va_putF (D := (dC, dI)) (ci := 5) (v := .ref q_1) (ty := (.array .int)) (C := R_LineReader) (T := F_LineReader) (N := 15) hx hb hwd i_LineReader t_LineReader to_LineReader no_LineReader hown hK hP hD hS 0 rfl rfl 0 (by decide) (hwd _ wd_4_70) (fun _ h9 => h9) rfl hin rfl (by decide +kernel) rfl rfl (Nat.le_of_ble_eq_true rfl) d_LineReader_init_10 ?_
  clear hP hD hS
  intro H locs hP hD hS
  replace hP : va_P (dC, dI) vcl [(h0, .inr (5, [.ref q_1, .int 0, .null, .int 0, .int 0, .int 0, .null, .int 0, .null, .int 0, .int 0, .int 0, .int 0, .int 0, .int 0])), (q_1, .inl (cA_2, 1024, .inl (fun _ => 0)))] H := hP
  replace hD : va_D A [(h0, .inr (5, [.ref q_1, .int 0, .null, .int 0, .int 0, .int 0, .null, .int 0, .null, .int 0, .int 0, .int 0, .int 0, .int 0, .int 0])), (q_1, .inl (cA_2, 1024, .inl (fun _ => 0)))] := hD
  refine lv_aload_n hx hb d_LineReader_init_13 rfl (lv_at hl 0 rfl) ?_
  refine lv_iconst (v := 5) hx hb d_LineReader_init_14 (by decide) ?_
  refine va_put (D := (dC, dI)) (ci := 5) (v := .int 5) (ty := .int) (C := R_LineReader) (T := F_LineReader) (N := 15) hx hb hwd i_LineReader t_LineReader to_LineReader no_LineReader hown hK hP hD hS 0 rfl rfl 1 (by decide) (hwd _ wd_4_71) (fun _ h9 => h9) rfl (by decide +kernel) rfl rfl (Nat.le_of_ble_eq_true rfl) d_LineReader_init_15 ?_
  clear hP hD hS
  intro H locs hP hD hS
  replace hP : va_P (dC, dI) vcl [(h0, .inr (5, [.ref q_1, .int 5, .null, .int 0, .int 0, .int 0, .null, .int 0, .null, .int 0, .int 0, .int 0, .int 0, .int 0, .int 0])), (q_1, .inl (cA_2, 1024, .inl (fun _ => 0)))] H := hP
  replace hD : va_D A [(h0, .inr (5, [.ref q_1, .int 5, .null, .int 0, .int 0, .int 0, .null, .int 0, .null, .int 0, .int 0, .int 0, .int 0, .int 0, .int 0])), (q_1, .inl (cA_2, 1024, .inl (fun _ => 0)))] := hD
  refine lv_aload_n hx hb d_LineReader_init_18 rfl (lv_at hl 0 rfl) ?_
  refine lv_sipush (v := 10000) hx hb d_LineReader_init_19 (by decide) ?_
  refine va_newa (atype := .int) (N' := 10000) (a0 := (10000, .inl (fun _ => 0))) (ty := .int) (n := 10000) hx hb (hwd _ wd_1_167) rfl hK hP hD hS hA (fun _ => rfl) (by decide) (by decide) (by decide) (Nat.le_of_ble_eq_true rfl) (Nat.le_of_ble_eq_true rfl) d_LineReader_init_22 ?_
  clear hP hD hS hK
  intro q_3 cA_4 H hK hP hD hS
  replace hP : va_P (dC, dI) vcl [(h0, .inr (5, [.ref q_1, .int 5, .null, .int 0, .int 0, .int 0, .null, .int 0, .null, .int 0, .int 0, .int 0, .int 0, .int 0, .int 0])), (q_1, .inl (cA_2, 1024, .inl (fun _ => 0))), (q_3, .inl (cA_4, 10000, .inl (fun _ => 0)))] H := hP
  replace hD : va_D A [(h0, .inr (5, [.ref q_1, .int 5, .null, .int 0, .int 0, .int 0, .null, .int 0, .null, .int 0, .int 0, .int 0, .int 0, .int 0, .int 0])), (q_1, .inl (cA_2, 1024, .inl (fun _ => 0))), (q_3, .inl (cA_4, 10000, .inl (fun _ => 0)))] := hD
  replace hK : va_K (dC, dI) vcl [(cA_2, .int), (cA_4, .int)] s := hK
  refine W.widen (k := 2) (n := 11024) (by decide) (by decide) ?_
  refine va_put (D := (dC, dI)) (ci := 5) (v := .ref q_3) (ty := (.array .int)) (C := R_LineReader) (T := F_LineReader) (N := 15) hx hb hwd i_LineReader t_LineReader to_LineReader no_LineReader hown hK hP hD hS 0 rfl rfl 6 (by decide) (hwd _ wd_4_76) (fun _ h9 => h9) rfl (by decide +kernel) rfl rfl (Nat.le_of_ble_eq_true rfl) d_LineReader_init_24 ?_
  clear hP hD hS
  intro H locs hP hD hS
  replace hP : va_P (dC, dI) vcl [(h0, .inr (5, [.ref q_1, .int 5, .null, .int 0, .int 0, .int 0, .ref q_3, .int 0, .null, .int 0, .int 0, .int 0, .int 0, .int 0, .int 0])), (q_1, .inl (cA_2, 1024, .inl (fun _ => 0))), (q_3, .inl (cA_4, 10000, .inl (fun _ => 0)))] H := hP
  replace hD : va_D A [(h0, .inr (5, [.ref q_1, .int 5, .null, .int 0, .int 0, .int 0, .ref q_3, .int 0, .null, .int 0, .int 0, .int 0, .int 0, .int 0, .int 0])), (q_1, .inl (cA_2, 1024, .inl (fun _ => 0))), (q_3, .inl (cA_4, 10000, .inl (fun _ => 0)))] := hD
  refine lv_aload_n hx hb d_LineReader_init_27 rfl (lv_at hl 0 rfl) ?_
  refine lv_sipush (v := 10000) hx hb d_LineReader_init_28 (by decide) ?_
  refine va_newa (atype := .int) (N' := 10000) (a0 := (10000, .inl (fun _ => 0))) (ty := .int) (n := 10000) hx hb (hwd _ wd_1_167) rfl hK hP hD hS hA (fun _ => rfl) (by decide) (by decide) (by decide) (Nat.le_of_ble_eq_true rfl) (Nat.le_of_ble_eq_true rfl) d_LineReader_init_31 ?_
  clear hP hD hS hK
  intro q_5 cA_6 H hK hP hD hS
  replace hP : va_P (dC, dI) vcl [(h0, .inr (5, [.ref q_1, .int 5, .null, .int 0, .int 0, .int 0, .ref q_3, .int 0, .null, .int 0, .int 0, .int 0, .int 0, .int 0, .int 0])), (q_1, .inl (cA_2, 1024, .inl (fun _ => 0))), (q_3, .inl (cA_4, 10000, .inl (fun _ => 0))), (q_5, .inl (cA_6, 10000, .inl (fun _ => 0)))] H := hP
  replace hD : va_D A [(h0, .inr (5, [.ref q_1, .int 5, .null, .int 0, .int 0, .int 0, .ref q_3, .int 0, .null, .int 0, .int 0, .int 0, .int 0, .int 0, .int 0])), (q_1, .inl (cA_2, 1024, .inl (fun _ => 0))), (q_3, .inl (cA_4, 10000, .inl (fun _ => 0))), (q_5, .inl (cA_6, 10000, .inl (fun _ => 0)))] := hD
  replace hK : va_K (dC, dI) vcl [(cA_2, .int), (cA_4, .int), (cA_6, .int)] s := hK
  refine W.widen (k := 3) (n := 21024) (by decide) (by decide) ?_
  refine va_put (D := (dC, dI)) (ci := 5) (v := .ref q_5) (ty := (.array .int)) (C := R_LineReader) (T := F_LineReader) (N := 15) hx hb hwd i_LineReader t_LineReader to_LineReader no_LineReader hown hK hP hD hS 0 rfl rfl 8 (by decide) (hwd _ wd_4_78) (fun _ h9 => h9) rfl (by decide +kernel) rfl rfl (Nat.le_of_ble_eq_true rfl) d_LineReader_init_33 ?_
  clear hP hD hS
  intro H locs hP hD hS
  replace hP : va_P (dC, dI) vcl [(h0, .inr (5, [.ref q_1, .int 5, .null, .int 0, .int 0, .int 0, .ref q_3, .int 0, .ref q_5, .int 0, .int 0, .int 0, .int 0, .int 0, .int 0])), (q_1, .inl (cA_2, 1024, .inl (fun _ => 0))), (q_3, .inl (cA_4, 10000, .inl (fun _ => 0))), (q_5, .inl (cA_6, 10000, .inl (fun _ => 0)))] H := hP
  replace hD : va_D A [(h0, .inr (5, [.ref q_1, .int 5, .null, .int 0, .int 0, .int 0, .ref q_3, .int 0, .ref q_5, .int 0, .int 0, .int 0, .int 0, .int 0, .int 0])), (q_1, .inl (cA_2, 1024, .inl (fun _ => 0))), (q_3, .inl (cA_4, 10000, .inl (fun _ => 0))), (q_5, .inl (cA_6, 10000, .inl (fun _ => 0)))] := hD
  refine lv_aload_n hx hb d_LineReader_init_36 rfl (lv_at hl 0 rfl) ?_
  refine lv_aload_n hx hb d_LineReader_init_37 rfl (lv_at hl 1 rfl) ?_
  refine va_put (D := (dC, dI)) (ci := 5) (v := .ref tp) (ty := (.array .byte)) (C := R_LineReader) (T := F_LineReader) (N := 15) hx hb hwd i_LineReader t_LineReader to_LineReader no_LineReader hown hK hP hD hS 0 rfl rfl 2 (by decide) (hwd _ wd_4_72) (fun _ h9 => h9) rfl (by decide +kernel) rfl rfl (Nat.le_of_ble_eq_true rfl) d_LineReader_init_38 ?_
  clear hP hD hS
  intro H locs hP hD hS
  replace hP : va_P (dC, dI) vcl [(h0, .inr (5, [.ref q_1, .int 5, .ref tp, .int 0, .int 0, .int 0, .ref q_3, .int 0, .ref q_5, .int 0, .int 0, .int 0, .int 0, .int 0, .int 0])), (q_1, .inl (cA_2, 1024, .inl (fun _ => 0))), (q_3, .inl (cA_4, 10000, .inl (fun _ => 0))), (q_5, .inl (cA_6, 10000, .inl (fun _ => 0)))] H := hP
  replace hD : va_D A [(h0, .inr (5, [.ref q_1, .int 5, .ref tp, .int 0, .int 0, .int 0, .ref q_3, .int 0, .ref q_5, .int 0, .int 0, .int 0, .int 0, .int 0, .int 0])), (q_1, .inl (cA_2, 1024, .inl (fun _ => 0))), (q_3, .inl (cA_4, 10000, .inl (fun _ => 0))), (q_5, .inl (cA_6, 10000, .inl (fun _ => 0)))] := hD
  refine lv_aload_n hx hb d_LineReader_init_41 rfl (lv_at hl 0 rfl) ?_
  refine lv_iconst (v := 0) hx hb d_LineReader_init_42 (by decide) ?_
  have hPc := hP.sub (ws' := [(h0, .inr (5, [.ref q_1, .int 5, .ref tp, .int 0, .int 0, .int 0, .ref q_3, .int 0, .ref q_5, .int 0, .int 0, .int 0, .int 0, .int 0, .int 0])), (q_1, .inl (cA_2, 1024, .inl (fun _ => 0)))]) [0, 1] rfl
  have hDc := hD.sub (ws' := [(h0, .inr (5, [.ref q_1, .int 5, .ref tp, .int 0, .int 0, .int 0, .ref q_3, .int 0, .ref q_5, .int 0, .int 0, .int 0, .int 0, .int 0, .int 0])), (q_1, .inl (cA_2, 1024, .inl (fun _ => 0)))]) [0, 1] (by decide) rfl
  have hKc := hK.sub (tys' := [(cA_2, .int)]) [0] rfl
  have hFc := va_free (wc := [(h0, .inr (5, [.ref q_1, .int 5, .ref tp, .int 0, .int 0, .int 0, .ref q_3, .int 0, .ref q_5, .int 0, .int 0, .int 0, .int 0, .int 0, .int 0])), (q_1, .inl (cA_2, 1024, .inl (fun _ => 0)))]) hD hS hA [0, 1] rfl
  refine va_callv (va_runV (As := [.int 0]) (rest := []) ⟨hx, hb, hml, hown, hwd⟩ (c_tr1 l dC dI tt h0 tp q_3 q_5 q_1 cA_2 H.size ) (cwV 1 hwd (gV gd_LineReader_addModes wd_4_42 wd_4_44 ws_18 wd_1_15) rfl rfl rfl (by decide +kernel) ⟨Nat.le_of_ble_eq_true rfl, Nat.le_of_ble_eq_true rfl⟩) ⟨fun a U g mk q => by obtain ⟨q0, q1, qP, qK, qD, qF⟩ := q; exact ⟨q0, q1, qP, va_K.moved (u := U) (U := U.calling g mk a) (Vm.Alike.refl U.vm) qK, qD, SF.same (u := U) (U := U.calling g mk a) rfl qF⟩, va_recv hKc hPc (ci := 5) (q0 := 0) rfl rfl, fun U hU hW => ⟨rfl, by rw [hU], by rw [hU]; exact hPc, va_K.moved hW.alike hKc, hDc.weaken (fun _ _ _ _ => trivial), by rw [hU]; exact SF.narrow (SF.moved hW (SF.kept hF (fun a h1 h2 => hS.2.1 a h1 h2))) hFc⟩⟩ rfl rfl hl.1 rfl (lv_room (Nat.le_of_ble_eq_true rfl)) d_LineReader_init_43 ⟨Nat.le_of_ble_eq_true rfl, Nat.le_of_ble_eq_true rfl⟩) hS (fun q _ h => hFc q h) hFc ?_
  clear hPc hDc hKc hS
  intro u_8 t H1 locs ht hvm hw hB hz1 hk1 hS
  obtain ⟨hP1, hK1, hD1⟩ := hB
  rw [ht] at hP1
  have hK1 := va_K.moved hvm.symm hK1
  try dsimp only at hw
  have hJ := va_join (wr := [(q_3, .inl (cA_4, 10000, .inl (fun _ => 0))), (q_5, .inl (cA_6, 10000, .inl (fun _ => 0)))]) (w1 := [(h0, .inr (5, [.ref q_1, .int 13, .ref tp, .int 0, .int 0, .int 0, .ref q_3, .int 0, .ref q_5, .int 0, .int 0, .int 0, .int 0, .int 0, .int 0])), (q_1, .inl (cA_2, 1024, .inl (lsT (pdI tL2))))]) hP hD [0, 1] [2, 3] rfl rfl (by decide) (by decide) hk1 hFc hP1 hD1
  clear hP hD hk1 hFc hP1 hD1 hz1
  obtain ⟨hP, hD⟩ := hJ
  clear hK1 ht hvm
  generalize H1 = H at hP hS ⊢
  replace hP : va_P (dC, dI) vcl [(q_3, .inl (cA_4, 10000, .inl (fun _ => 0))), (q_5, .inl (cA_6, 10000, .inl (fun _ => 0))), (h0, .inr (5, [.ref q_1, .int 13, .ref tp, .int 0, .int 0, .int 0, .ref q_3, .int 0, .ref q_5, .int 0, .int 0, .int 0, .int 0, .int 0, .int 0])), (q_1, .inl (cA_2, 1024, .inl (lsT (pdI tL2))))] H := hP
  replace hD : va_D A [(q_3, .inl (cA_4, 10000, .inl (fun _ => 0))), (q_5, .inl (cA_6, 10000, .inl (fun _ => 0))), (h0, .inr (5, [.ref q_1, .int 13, .ref tp, .int 0, .int 0, .int 0, .ref q_3, .int 0, .ref q_5, .int 0, .int 0, .int 0, .int 0, .int 0, .int 0])), (q_1, .inl (cA_2, 1024, .inl (lsT (pdI tL2))))] := hD
  refine lv_aload_n hx hb d_LineReader_init_46 rfl (lv_at hl 0 rfl) ?_
  refine lv_iconst (v := 1) hx hb d_LineReader_init_47 (by decide) ?_
  have hPc := hP.sub (ws' := [(h0, .inr (5, [.ref q_1, .int 13, .ref tp, .int 0, .int 0, .int 0, .ref q_3, .int 0, .ref q_5, .int 0, .int 0, .int 0, .int 0, .int 0, .int 0])), (q_1, .inl (cA_2, 1024, .inl (lsT (pdI tL2))))]) [2, 3] rfl
  have hDc := hD.sub (ws' := [(h0, .inr (5, [.ref q_1, .int 13, .ref tp, .int 0, .int 0, .int 0, .ref q_3, .int 0, .ref q_5, .int 0, .int 0, .int 0, .int 0, .int 0, .int 0])), (q_1, .inl (cA_2, 1024, .inl (lsT (pdI tL2))))]) [2, 3] (by decide) rfl
  have hKc := hK.sub (tys' := [(cA_2, .int)]) [0] rfl
  have hFc := va_free (wc := [(h0, .inr (5, [.ref q_1, .int 13, .ref tp, .int 0, .int 0, .int 0, .ref q_3, .int 0, .ref q_5, .int 0, .int 0, .int 0, .int 0, .int 0, .int 0])), (q_1, .inl (cA_2, 1024, .inl (lsT (pdI tL2))))]) hD hS hA [2, 3] rfl
  refine va_callv (va_runV (As := [.int 1]) (rest := []) ⟨hx, hb, hml, hown, hwd⟩ (c_tr2 l dC dI tt h0 tp q_3 q_5 q_1 cA_2 H.size ) (cwV 1 hwd (gV gd_LineReader_addModes wd_4_42 wd_4_44 ws_18 wd_1_15) rfl rfl rfl (by decide +kernel) ⟨Nat.le_of_ble_eq_true rfl, Nat.le_of_ble_eq_true rfl⟩) ⟨fun a U g mk q => by obtain ⟨q0, q1, qP, qK, qD, qF⟩ := q; exact ⟨q0, q1, qP, va_K.moved (u := U) (U := U.calling g mk a) (Vm.Alike.refl U.vm) qK, qD, SF.same (u := U) (U := U.calling g mk a) rfl qF⟩, va_recv hKc hPc (ci := 5) (q0 := 0) rfl rfl, fun U hU hW => ⟨rfl, by rw [hU], by rw [hU]; exact hPc, va_K.moved hW.alike hKc, hDc.weaken (fun _ _ _ _ => trivial), by rw [hU]; exact SF.narrow (SF.moved hW (SF.kept hF (fun a h1 h2 => hS.2.1 a h1 h2))) hFc⟩⟩ rfl rfl hl.1 rfl (lv_room (Nat.le_of_ble_eq_true rfl)) d_LineReader_init_48 ⟨Nat.le_of_ble_eq_true rfl, Nat.le_of_ble_eq_true rfl⟩) hS (fun q _ h => hFc q h) hFc ?_
  clear hPc hDc hKc hS
  intro u_10 t H1 locs ht hvm hw hB hz1 hk1 hS
  obtain ⟨hP1, hK1, hD1⟩ := hB
  rw [ht] at hP1
  have hK1 := va_K.moved hvm.symm hK1
  try dsimp only at hw
  have hJ := va_join (wr := [(q_3, .inl (cA_4, 10000, .inl (fun _ => 0))), (q_5, .inl (cA_6, 10000, .inl (fun _ => 0)))]) (w1 := [(h0, .inr (5, [.ref q_1, .int 21, .ref tp, .int 0, .int 0, .int 0, .ref q_3, .int 0, .ref q_5, .int 0, .int 0, .int 0, .int 0, .int 0, .int 0])), (q_1, .inl (cA_2, 1024, .inl (lsT (pdI tL4))))]) hP hD [2, 3] [0, 1] rfl rfl (by decide) (by decide) hk1 hFc hP1 hD1
  clear hP hD hk1 hFc hP1 hD1 hz1
  obtain ⟨hP, hD⟩ := hJ
  clear hK1 ht hvm
  generalize H1 = H at hP hS ⊢
  replace hP : va_P (dC, dI) vcl [(q_3, .inl (cA_4, 10000, .inl (fun _ => 0))), (q_5, .inl (cA_6, 10000, .inl (fun _ => 0))), (h0, .inr (5, [.ref q_1, .int 21, .ref tp, .int 0, .int 0, .int 0, .ref q_3, .int 0, .ref q_5, .int 0, .int 0, .int 0, .int 0, .int 0, .int 0])), (q_1, .inl (cA_2, 1024, .inl (lsT (pdI tL4))))] H := hP
  replace hD : va_D A [(q_3, .inl (cA_4, 10000, .inl (fun _ => 0))), (q_5, .inl (cA_6, 10000, .inl (fun _ => 0))), (h0, .inr (5, [.ref q_1, .int 21, .ref tp, .int 0, .int 0, .int 0, .ref q_3, .int 0, .ref q_5, .int 0, .int 0, .int 0, .int 0, .int 0, .int 0])), (q_1, .inl (cA_2, 1024, .inl (lsT (pdI tL4))))] := hD
  refine lv_aload_n hx hb d_LineReader_init_51 rfl (lv_at hl 0 rfl) ?_
  refine lv_iconst (v := 0) hx hb d_LineReader_init_52 (by decide) ?_
  refine lv_sipush (v := 4097) hx hb d_LineReader_init_53 (by decide) ?_
  refine lv_bipush (v := 22) hx hb d_LineReader_init_56 (by decide) ?_
  have hPc := hP.sub (ws' := [(h0, .inr (5, [.ref q_1, .int 21, .ref tp, .int 0, .int 0, .int 0, .ref q_3, .int 0, .ref q_5, .int 0, .int 0, .int 0, .int 0, .int 0, .int 0])), (q_1, .inl (cA_2, 1024, .inl (lsT (pdI tL4))))]) [2, 3] rfl
  have hDc := hD.sub (ws' := [(h0, .inr (5, [.ref q_1, .int 21, .ref tp, .int 0, .int 0, .int 0, .ref q_3, .int 0, .ref q_5, .int 0, .int 0, .int 0, .int 0, .int 0, .int 0])), (q_1, .inl (cA_2, 1024, .inl (lsT (pdI tL4))))]) [2, 3] (by decide) rfl
  have hKc := hK.sub (tys' := [(cA_2, .int)]) [0] rfl
  have hFc := va_free (wc := [(h0, .inr (5, [.ref q_1, .int 21, .ref tp, .int 0, .int 0, .int 0, .ref q_3, .int 0, .ref q_5, .int 0, .int 0, .int 0, .int 0, .int 0, .int 0])), (q_1, .inl (cA_2, 1024, .inl (lsT (pdI tL4))))]) hD hS hA [2, 3] rfl
  refine va_callv (va_runV (As := [.int 0, .int 4097, .int 22]) (rest := []) ⟨hx, hb, hml, hown, hwd⟩ (c_tr3 l dC dI tt h0 tp q_3 q_5 q_1 cA_2 H.size ) (cwV 3 hwd (gV gd_LineReader_addWord wd_4_46 wd_4_48 ws_19 wd_1_15) rfl rfl rfl (by decide +kernel) ⟨Nat.le_of_ble_eq_true rfl, Nat.le_of_ble_eq_true rfl⟩) ⟨fun a U g mk q => by obtain ⟨q0, q1, qP, qK, qD, qF⟩ := q; exact ⟨q0, q1, qP, va_K.moved (u := U) (U := U.calling g mk a) (Vm.Alike.refl U.vm) qK, qD, SF.same (u := U) (U := U.calling g mk a) rfl qF⟩, va_recv hKc hPc (ci := 5) (q0 := 0) rfl rfl, fun U hU hW => ⟨rfl, by rw [hU], by rw [hU]; exact hPc, va_K.moved hW.alike hKc, hDc.weaken (fun _ _ _ _ => trivial), by rw [hU]; exact SF.narrow (SF.moved hW (SF.kept hF (fun a h1 h2 => hS.2.1 a h1 h2))) hFc⟩⟩ rfl rfl hl.1 rfl (lv_room (Nat.le_of_ble_eq_true rfl)) d_LineReader_init_58 ⟨Nat.le_of_ble_eq_true rfl, Nat.le_of_ble_eq_true rfl⟩) hS (fun q _ h => hFc q h) hFc ?_
  clear hPc hDc hKc hS
  intro u_12 t H1 locs ht hvm hw hB hz1 hk1 hS
  obtain ⟨hP1, hK1, hD1⟩ := hB
  rw [ht] at hP1
  have hK1 := va_K.moved hvm.symm hK1
  try dsimp only at hw
  have hJ := va_join (wr := [(q_3, .inl (cA_4, 10000, .inl (fun _ => 0))), (q_5, .inl (cA_6, 10000, .inl (fun _ => 0)))]) (w1 := [(h0, .inr (5, [.ref q_1, .int 27, .ref tp, .int 0, .int 0, .int 0, .ref q_3, .int 0, .ref q_5, .int 0, .int 0, .int 0, .int 0, .int 0, .int 0])), (q_1, .inl (cA_2, 1024, .inl (lsT (pdI tL5))))]) hP hD [2, 3] [0, 1] rfl rfl (by decide) (by decide) hk1 hFc hP1 hD1
  clear hP hD hk1 hFc hP1 hD1 hz1
  obtain ⟨hP, hD⟩ := hJ
  clear hK1 ht hvm
  generalize H1 = H at hP hS ⊢
  replace hP : va_P (dC, dI) vcl [(q_3, .inl (cA_4, 10000, .inl (fun _ => 0))), (q_5, .inl (cA_6, 10000, .inl (fun _ => 0))), (h0, .inr (5, [.ref q_1, .int 27, .ref tp, .int 0, .int 0, .int 0, .ref q_3, .int 0, .ref q_5, .int 0, .int 0, .int 0, .int 0, .int 0, .int 0])), (q_1, .inl (cA_2, 1024, .inl (lsT (pdI tL5))))] H := hP
  replace hD : va_D A [(q_3, .inl (cA_4, 10000, .inl (fun _ => 0))), (q_5, .inl (cA_6, 10000, .inl (fun _ => 0))), (h0, .inr (5, [.ref q_1, .int 27, .ref tp, .int 0, .int 0, .int 0, .ref q_3, .int 0, .ref q_5, .int 0, .int 0, .int 0, .int 0, .int 0, .int 0])), (q_1, .inl (cA_2, 1024, .inl (lsT (pdI tL5))))] := hD
  refine lv_aload_n hx hb d_LineReader_init_61 rfl (lv_at hl 0 rfl) ?_
  refine lv_iconst (v := 2) hx hb d_LineReader_init_62 (by decide) ?_
  refine lv_sipush (v := 4097) hx hb d_LineReader_init_63 (by decide) ?_
  refine lv_bipush (v := 22) hx hb d_LineReader_init_66 (by decide) ?_
  have hPc := hP.sub (ws' := [(h0, .inr (5, [.ref q_1, .int 27, .ref tp, .int 0, .int 0, .int 0, .ref q_3, .int 0, .ref q_5, .int 0, .int 0, .int 0, .int 0, .int 0, .int 0])), (q_1, .inl (cA_2, 1024, .inl (lsT (pdI tL5))))]) [2, 3] rfl
  have hDc := hD.sub (ws' := [(h0, .inr (5, [.ref q_1, .int 27, .ref tp, .int 0, .int 0, .int 0, .ref q_3, .int 0, .ref q_5, .int 0, .int 0, .int 0, .int 0, .int 0, .int 0])), (q_1, .inl (cA_2, 1024, .inl (lsT (pdI tL5))))]) [2, 3] (by decide) rfl
  have hKc := hK.sub (tys' := [(cA_2, .int)]) [0] rfl
  have hFc := va_free (wc := [(h0, .inr (5, [.ref q_1, .int 27, .ref tp, .int 0, .int 0, .int 0, .ref q_3, .int 0, .ref q_5, .int 0, .int 0, .int 0, .int 0, .int 0, .int 0])), (q_1, .inl (cA_2, 1024, .inl (lsT (pdI tL5))))]) hD hS hA [2, 3] rfl
  refine va_callv (va_runV (As := [.int 2, .int 4097, .int 22]) (rest := []) ⟨hx, hb, hml, hown, hwd⟩ (c_tr4 l dC dI tt h0 tp q_3 q_5 q_1 cA_2 H.size ) (cwV 3 hwd (gV gd_LineReader_addWord wd_4_46 wd_4_48 ws_19 wd_1_15) rfl rfl rfl (by decide +kernel) ⟨Nat.le_of_ble_eq_true rfl, Nat.le_of_ble_eq_true rfl⟩) ⟨fun a U g mk q => by obtain ⟨q0, q1, qP, qK, qD, qF⟩ := q; exact ⟨q0, q1, qP, va_K.moved (u := U) (U := U.calling g mk a) (Vm.Alike.refl U.vm) qK, qD, SF.same (u := U) (U := U.calling g mk a) rfl qF⟩, va_recv hKc hPc (ci := 5) (q0 := 0) rfl rfl, fun U hU hW => ⟨rfl, by rw [hU], by rw [hU]; exact hPc, va_K.moved hW.alike hKc, hDc.weaken (fun _ _ _ _ => trivial), by rw [hU]; exact SF.narrow (SF.moved hW (SF.kept hF (fun a h1 h2 => hS.2.1 a h1 h2))) hFc⟩⟩ rfl rfl hl.1 rfl (lv_room (Nat.le_of_ble_eq_true rfl)) d_LineReader_init_68 ⟨Nat.le_of_ble_eq_true rfl, Nat.le_of_ble_eq_true rfl⟩) hS (fun q _ h => hFc q h) hFc ?_
  clear hPc hDc hKc hS
  intro u_14 t H1 locs ht hvm hw hB hz1 hk1 hS
  obtain ⟨hP1, hK1, hD1⟩ := hB
  rw [ht] at hP1
  have hK1 := va_K.moved hvm.symm hK1
  try dsimp only at hw
  have hJ := va_join (wr := [(q_3, .inl (cA_4, 10000, .inl (fun _ => 0))), (q_5, .inl (cA_6, 10000, .inl (fun _ => 0)))]) (w1 := [(h0, .inr (5, [.ref q_1, .int 38, .ref tp, .int 0, .int 0, .int 0, .ref q_3, .int 0, .ref q_5, .int 0, .int 0, .int 0, .int 0, .int 0, .int 0])), (q_1, .inl (cA_2, 1024, .inl (lsT (pdI tL6))))]) hP hD [2, 3] [0, 1] rfl rfl (by decide) (by decide) hk1 hFc hP1 hD1
  clear hP hD hk1 hFc hP1 hD1 hz1
  obtain ⟨hP, hD⟩ := hJ
  clear hK1 ht hvm
  generalize H1 = H at hP hS ⊢
  replace hP : va_P (dC, dI) vcl [(q_3, .inl (cA_4, 10000, .inl (fun _ => 0))), (q_5, .inl (cA_6, 10000, .inl (fun _ => 0))), (h0, .inr (5, [.ref q_1, .int 38, .ref tp, .int 0, .int 0, .int 0, .ref q_3, .int 0, .ref q_5, .int 0, .int 0, .int 0, .int 0, .int 0, .int 0])), (q_1, .inl (cA_2, 1024, .inl (lsT (pdI tL6))))] H := hP
  replace hD : va_D A [(q_3, .inl (cA_4, 10000, .inl (fun _ => 0))), (q_5, .inl (cA_6, 10000, .inl (fun _ => 0))), (h0, .inr (5, [.ref q_1, .int 38, .ref tp, .int 0, .int 0, .int 0, .ref q_3, .int 0, .ref q_5, .int 0, .int 0, .int 0, .int 0, .int 0, .int 0])), (q_1, .inl (cA_2, 1024, .inl (lsT (pdI tL6))))] := hD
  refine lv_aload_n hx hb d_LineReader_init_71 rfl (lv_at hl 0 rfl) ?_
  refine lv_iconst (v := 3) hx hb d_LineReader_init_72 (by decide) ?_
  refine va_gets hx hb (SF_p8 hF).1 hS hown (hwd _ wd_4_56) (fun _ h9 => h9) d_LineReader_init_73 ?_
  refine va_gets hx hb (SF_p9 hF).1 hS hown (hwd _ wd_4_58) (fun _ h9 => h9) d_LineReader_init_76 ?_
  have hPc := hP.sub (ws' := [(h0, .inr (5, [.ref q_1, .int 38, .ref tp, .int 0, .int 0, .int 0, .ref q_3, .int 0, .ref q_5, .int 0, .int 0, .int 0, .int 0, .int 0, .int 0])), (q_1, .inl (cA_2, 1024, .inl (lsT (pdI tL6))))]) [2, 3] rfl
  have hDc := hD.sub (ws' := [(h0, .inr (5, [.ref q_1, .int 38, .ref tp, .int 0, .int 0, .int 0, .ref q_3, .int 0, .ref q_5, .int 0, .int 0, .int 0, .int 0, .int 0, .int 0])), (q_1, .inl (cA_2, 1024, .inl (lsT (pdI tL6))))]) [2, 3] (by decide) rfl
  have hKc := hK.sub (tys' := [(cA_2, .int)]) [0] rfl
  have hFc := va_free (wc := [(h0, .inr (5, [.ref q_1, .int 38, .ref tp, .int 0, .int 0, .int 0, .ref q_3, .int 0, .ref q_5, .int 0, .int 0, .int 0, .int 0, .int 0, .int 0])), (q_1, .inl (cA_2, 1024, .inl (lsT (pdI tL6))))]) hD hS hA [2, 3] rfl
  refine va_callv (va_runV (As := [.int 3, .ref (tt 8), .ref (tt 9)]) (rest := []) ⟨hx, hb, hml, hown, hwd⟩ (c_tr5 l dC dI tt h0 tp q_3 q_5 q_1 cA_2 H.size ) (cwV 3 hwd (gV gd_LineReader_addRuns wd_4_60 wd_4_62 ws_20 wd_1_15) rfl rfl rfl (by decide +kernel) ⟨Nat.le_of_ble_eq_true rfl, Nat.le_of_ble_eq_true rfl⟩) ⟨fun a U g mk q => by obtain ⟨q0, q1, qP, qK, qD, qF⟩ := q; exact ⟨q0, q1, qP, va_K.moved (u := U) (U := U.calling g mk a) (Vm.Alike.refl U.vm) qK, qD, SF.same (u := U) (U := U.calling g mk a) rfl qF⟩, va_recv hKc hPc (ci := 5) (q0 := 0) rfl rfl, fun U hU hW => ⟨rfl, by rw [hU], by rw [hU]; exact hPc, va_K.moved hW.alike hKc, hDc.weaken (fun _ _ _ _ => trivial), by rw [hU]; exact SF.narrow (SF.moved hW (SF.kept hF (fun a h1 h2 => hS.2.1 a h1 h2))) hFc⟩⟩ rfl rfl hl.1 rfl (lv_room (Nat.le_of_ble_eq_true rfl)) d_LineReader_init_79 ⟨Nat.le_of_ble_eq_true rfl, Nat.le_of_ble_eq_true rfl⟩) hS (fun q _ h => hFc q h) hFc ?_
  clear hPc hDc hKc hS
  intro u_16 t H1 locs ht hvm hw hB hz1 hk1 hS
  obtain ⟨hP1, hK1, hD1⟩ := hB
  rw [ht] at hP1
  have hK1 := va_K.moved hvm.symm hK1
  try dsimp only at hw
  have hJ := va_join (wr := [(q_3, .inl (cA_4, 10000, .inl (fun _ => 0))), (q_5, .inl (cA_6, 10000, .inl (fun _ => 0)))]) (w1 := [(h0, .inr (5, [.ref q_1, .int 141, .ref tp, .int 0, .int 0, .int 0, .ref q_3, .int 0, .ref q_5, .int 0, .int 0, .int 0, .int 0, .int 0, .int 0])), (q_1, .inl (cA_2, 1024, .inl (lsT (pdI tL20))))]) hP hD [2, 3] [0, 1] rfl rfl (by decide) (by decide) hk1 hFc hP1 hD1
  clear hP hD hk1 hFc hP1 hD1 hz1
  obtain ⟨hP, hD⟩ := hJ
  clear hK1 ht hvm
  generalize H1 = H at hP hS ⊢
  replace hP : va_P (dC, dI) vcl [(q_3, .inl (cA_4, 10000, .inl (fun _ => 0))), (q_5, .inl (cA_6, 10000, .inl (fun _ => 0))), (h0, .inr (5, [.ref q_1, .int 141, .ref tp, .int 0, .int 0, .int 0, .ref q_3, .int 0, .ref q_5, .int 0, .int 0, .int 0, .int 0, .int 0, .int 0])), (q_1, .inl (cA_2, 1024, .inl (lsT (pdI tL20))))] H := hP
  replace hD : va_D A [(q_3, .inl (cA_4, 10000, .inl (fun _ => 0))), (q_5, .inl (cA_6, 10000, .inl (fun _ => 0))), (h0, .inr (5, [.ref q_1, .int 141, .ref tp, .int 0, .int 0, .int 0, .ref q_3, .int 0, .ref q_5, .int 0, .int 0, .int 0, .int 0, .int 0, .int 0])), (q_1, .inl (cA_2, 1024, .inl (lsT (pdI tL20))))] := hD
  refine lv_aload_n hx hb d_LineReader_init_82 rfl (lv_at hl 0 rfl) ?_
  refine lv_iconst (v := 4) hx hb d_LineReader_init_83 (by decide) ?_
  refine va_gets hx hb (SF_p11 hF).1 hS hown (hwd _ wd_4_66) (fun _ h9 => h9) d_LineReader_init_84 ?_
  refine va_gets hx hb (SF_p12 hF).1 hS hown (hwd _ wd_4_68) (fun _ h9 => h9) d_LineReader_init_87 ?_
  have hPc := hP.sub (ws' := [(h0, .inr (5, [.ref q_1, .int 141, .ref tp, .int 0, .int 0, .int 0, .ref q_3, .int 0, .ref q_5, .int 0, .int 0, .int 0, .int 0, .int 0, .int 0])), (q_1, .inl (cA_2, 1024, .inl (lsT (pdI tL20))))]) [2, 3] rfl
  have hDc := hD.sub (ws' := [(h0, .inr (5, [.ref q_1, .int 141, .ref tp, .int 0, .int 0, .int 0, .ref q_3, .int 0, .ref q_5, .int 0, .int 0, .int 0, .int 0, .int 0, .int 0])), (q_1, .inl (cA_2, 1024, .inl (lsT (pdI tL20))))]) [2, 3] (by decide) rfl
  have hKc := hK.sub (tys' := [(cA_2, .int)]) [0] rfl
  have hFc := va_free (wc := [(h0, .inr (5, [.ref q_1, .int 141, .ref tp, .int 0, .int 0, .int 0, .ref q_3, .int 0, .ref q_5, .int 0, .int 0, .int 0, .int 0, .int 0, .int 0])), (q_1, .inl (cA_2, 1024, .inl (lsT (pdI tL20))))]) hD hS hA [2, 3] rfl
  refine va_callv (va_runV (As := [.int 4, .ref (tt 11), .ref (tt 12)]) (rest := []) ⟨hx, hb, hml, hown, hwd⟩ (c_tr6 l dC dI tt h0 tp q_3 q_5 q_1 cA_2 H.size ) (cwV 3 hwd (gV gd_LineReader_addRuns wd_4_60 wd_4_62 ws_20 wd_1_15) rfl rfl rfl (by decide +kernel) ⟨Nat.le_of_ble_eq_true rfl, Nat.le_of_ble_eq_true rfl⟩) ⟨fun a U g mk q => by obtain ⟨q0, q1, qP, qK, qD, qF⟩ := q; exact ⟨q0, q1, qP, va_K.moved (u := U) (U := U.calling g mk a) (Vm.Alike.refl U.vm) qK, qD, SF.same (u := U) (U := U.calling g mk a) rfl qF⟩, va_recv hKc hPc (ci := 5) (q0 := 0) rfl rfl, fun U hU hW => ⟨rfl, by rw [hU], by rw [hU]; exact hPc, va_K.moved hW.alike hKc, hDc.weaken (fun _ _ _ _ => trivial), by rw [hU]; exact SF.narrow (SF.moved hW (SF.kept hF (fun a h1 h2 => hS.2.1 a h1 h2))) hFc⟩⟩ rfl rfl hl.1 rfl (lv_room (Nat.le_of_ble_eq_true rfl)) d_LineReader_init_90 ⟨Nat.le_of_ble_eq_true rfl, Nat.le_of_ble_eq_true rfl⟩) hS (fun q _ h => hFc q h) hFc ?_
  clear hPc hDc hKc hS
  intro u_18 t H1 locs ht hvm hw hB hz1 hk1 hS
  obtain ⟨hP1, hK1, hD1⟩ := hB
  rw [ht] at hP1
  have hK1 := va_K.moved hvm.symm hK1
  try dsimp only at hw
  have hJ := va_join (wr := [(q_3, .inl (cA_4, 10000, .inl (fun _ => 0))), (q_5, .inl (cA_6, 10000, .inl (fun _ => 0)))]) (w1 := [(h0, .inr (5, [.ref q_1, .int 244, .ref tp, .int 0, .int 0, .int 0, .ref q_3, .int 0, .ref q_5, .int 0, .int 0, .int 0, .int 0, .int 0, .int 0])), (q_1, .inl (cA_2, 1024, .inl (lsT (pdI tL34))))]) hP hD [2, 3] [0, 1] rfl rfl (by decide) (by decide) hk1 hFc hP1 hD1
  clear hP hD hk1 hFc hP1 hD1 hz1
  obtain ⟨hP, hD⟩ := hJ
  clear hK1 ht hvm
  generalize H1 = H at hP hS ⊢
  replace hP : va_P (dC, dI) vcl [(q_3, .inl (cA_4, 10000, .inl (fun _ => 0))), (q_5, .inl (cA_6, 10000, .inl (fun _ => 0))), (h0, .inr (5, [.ref q_1, .int 244, .ref tp, .int 0, .int 0, .int 0, .ref q_3, .int 0, .ref q_5, .int 0, .int 0, .int 0, .int 0, .int 0, .int 0])), (q_1, .inl (cA_2, 1024, .inl (lsT (pdI tL34))))] H := hP
  replace hD : va_D A [(q_3, .inl (cA_4, 10000, .inl (fun _ => 0))), (q_5, .inl (cA_6, 10000, .inl (fun _ => 0))), (h0, .inr (5, [.ref q_1, .int 244, .ref tp, .int 0, .int 0, .int 0, .ref q_3, .int 0, .ref q_5, .int 0, .int 0, .int 0, .int 0, .int 0, .int 0])), (q_1, .inl (cA_2, 1024, .inl (lsT (pdI tL34))))] := hD
  have hP9 := hP.sub (ws' := [(h0, .inr (5, [.ref q_1, .int 244, .ref tp, .int 0, .int 0, .int 0, .ref q_3, .int 0, .ref q_5, .int 0, .int 0, .int 0, .int 0, .int 0, .int 0])), (q_3, .inl (cA_4, 10000, .inl (fun _ => 0))), (q_5, .inl (cA_6, 10000, .inl (fun _ => 0))), (q_1, .inl (cA_2, 1024, .inl (lsT (pdI tL34))))]) [2, 0, 1, 3] rfl
  have hD9 := hD.sub (ws' := [(h0, .inr (5, [.ref q_1, .int 244, .ref tp, .int 0, .int 0, .int 0, .ref q_3, .int 0, .ref q_5, .int 0, .int 0, .int 0, .int 0, .int 0, .int 0])), (q_3, .inl (cA_4, 10000, .inl (fun _ => 0))), (q_5, .inl (cA_6, 10000, .inl (fun _ => 0))), (q_1, .inl (cA_2, 1024, .inl (lsT (pdI tL34))))]) [2, 0, 1, 3] (by decide) rfl
  have hK9 := hK.sub (tys' := [(cA_4, .int), (cA_6, .int), (cA_2, .int)]) [1, 2, 0] rfl
  exact W.vret hx hb hr (fun t ht hW => ⟨⟨(), rfl, (trivial), q_3, q_5, q_1, cA_4, cA_6, cA_2, by rw [ht]; exact hP9, va_K.moved hW.alike hK9, hD9⟩, hS.F ht⟩) hS.2.2 d_LineReader_init_93
