


abbrev at_e_Ref_tape (dC : Nat → ClassId) (dI : Nat → Nat → Nat) (a_this : Nat) (x_desk : Value) (x_shelf : Value) (x_macros : Value) (x_sheet : Value) (x_lines : Value) (x_view : Value) (x_job : Value) (x_shown : Value) (x_part : Value) (x_pages : Value) (x_shownPages : Value) (x_seed : Value) (x_fresh : Value) (x_xWhat : Value) (x_xId : Value) (x_toDo : Value) (x_toDoId : Value) (x_bytes1 : Value) (x_bytes2 : Value) (o_this : ob_Ref) (a_tape : Nat) (k_tape : ClassId) (g_tape : Nat → Int32) (N : Nat) (v0 : Int32) (v1 : Int32) (v2 : Int32) (v3 : Int32) (v4 : Int32) (res : rs_Ref_tape) (A : Nat → Prop) (u : Unit) (t : State) : Prop := match u with
  | _ => va_P (dC, dI) vcl [cl_Ref a_this x_desk x_shelf x_macros x_sheet x_lines x_view x_job x_shown x_part (.ref a_tape) x_pages x_shownPages x_seed x_fresh x_xWhat x_xId x_toDo x_toDoId x_bytes1 x_bytes2 res.1, (a_tape, .inl (k_tape, 65536, .inl res.2.1))] t.heap ∧ va_K (dC, dI) vcl [(k_tape, .byte)] t ∧ va_D A [cl_Ref a_this x_desk x_shelf x_macros x_sheet x_lines x_view x_job x_shown x_part (.ref a_tape) x_pages x_shownPages x_seed x_fresh x_xWhat x_xId x_toDo x_toDoId x_bytes1 x_bytes2 res.1, (a_tape, .inl (k_tape, 65536, .inl res.2.1))]
abbrev po_e_Ref_tape (a_this : Nat) (x_desk : Value) (x_shelf : Value) (x_macros : Value) (x_sheet : Value) (x_lines : Value) (x_view : Value) (x_job : Value) (x_shown : Value) (x_part : Value) (x_pages : Value) (x_shownPages : Value) (x_seed : Value) (x_fresh : Value) (x_xWhat : Value) (x_xId : Value) (x_toDo : Value) (x_toDoId : Value) (x_bytes1 : Value) (x_bytes2 : Value) (o_this : ob_Ref) (a_tape : Nat) (k_tape : ClassId) (g_tape : Nat → Int32) (N : Nat) (v0 : Int32) (v1 : Int32) (v2 : Int32) (v3 : Int32) (v4 : Int32) (res : rs_Ref_tape) (r : Int32) (u : Unit) : Prop := match u with
  | _ => r = res.2.2
abbrev q_e_Ref_tape (dC : Nat → ClassId) (dI : Nat → Nat → Nat) (a_this : Nat) (x_desk : Value) (x_shelf : Value) (x_macros : Value) (x_sheet : Value) (x_lines : Value) (x_view : Value) (x_job : Value) (x_shown : Value) (x_part : Value) (x_pages : Value) (x_shownPages : Value) (x_seed : Value) (x_fresh : Value) (x_xWhat : Value) (x_xId : Value) (x_toDo : Value) (x_toDoId : Value) (x_bytes1 : Value) (x_bytes2 : Value) (o_this : ob_Ref) (a_tape : Nat) (k_tape : ClassId) (g_tape : Nat → Int32) (N : Nat) (v0 : Int32) (v1 : Int32) (v2 : Int32) (v3 : Int32) (v4 : Int32) (res : rs_Ref_tape) (A : Nat → Prop) : Array Value → State → Outcome → State → Prop := va_Qi (po_e_Ref_tape a_this x_desk x_shelf x_macros x_sheet x_lines x_view x_job x_shown x_part x_pages x_shownPages x_seed x_fresh x_xWhat x_xId x_toDo x_toDoId x_bytes1 x_bytes2 o_this a_tape k_tape g_tape N v0 v1 v2 v3 v4 res) (at_e_Ref_tape dC dI a_this x_desk x_shelf x_macros x_sheet x_lines x_view x_job x_shown x_part x_pages x_shownPages x_seed x_fresh x_xWhat x_xId x_toDo x_toDoId x_bytes1 x_bytes2 o_this a_tape k_tape g_tape N v0 v1 v2 v3 v4 res A) A
abbrev rm_e_Ref_tape : Room := { frames := 1, cells := 0, slots := 0, locals := 22 }
set_option maxHeartbeats 4000000 in
set_option maxRecDepth 100000 in
theorem e_Ref_tape (l : Launch) (dC : Nat → ClassId) (dI : Nat → Nat → Nat) (tt : Nat → Nat) (a_this : Nat) (x_desk : Value) (x_shelf : Value) (x_macros : Value) (x_sheet : Value) (x_lines : Value) (x_view : Value) (x_job : Value) (x_shown : Value) (x_part : Value) (x_pages : Value) (x_shownPages : Value) (x_seed : Value) (x_fresh : Value) (x_xWhat : Value) (x_xId : Value) (x_toDo : Value) (x_toDoId : Value) (x_bytes1 : Value) (x_bytes2 : Value) (o_this : ob_Ref) (a_tape : Nat) (k_tape : ClassId) (g_tape : Nat → Int32) (N : Nat) (v0 : Int32) (v1 : Int32) (v2 : Int32) (v3 : Int32) (v4 : Int32) (res : rs_Ref_tape) (sz : Nat) (hf : ex_Ref_tape N o_this g_tape v0 v1 v2 v3 v4 = some res) : Met l y_Ref_tape w_Ref_tape rm_e_Ref_tape (va_Pc [.ref a_this, .int v0, .int v1, .int v2, .int v3, .int v4] (fun U => U.heap.size = sz ∧ va_P (dC, dI) vcl [cl_Ref a_this x_desk x_shelf x_macros x_sheet x_lines x_view x_job x_shown x_part (.ref a_tape) x_pages x_shownPages x_seed x_fresh x_xWhat x_xId x_toDo x_toDoId x_bytes1 x_bytes2 o_this, (a_tape, .inl (k_tape, 65536, .inl g_tape))] U.heap ∧ va_K (dC, dI) vcl [(k_tape, .byte)] U ∧ va_D (fun _ => True) [cl_Ref a_this x_desk x_shelf x_macros x_sheet x_lines x_view x_job x_shown x_part (.ref a_tape) x_pages x_shownPages x_seed x_fresh x_xWhat x_xId x_toDo x_toDoId x_bytes1 x_bytes2 o_this, (a_tape, .inl (k_tape, 65536, .inl g_tape))] ∧ SF tt (va_A [cl_Ref a_this x_desk x_shelf x_macros x_sheet x_lines x_view x_job x_shown x_part (.ref a_tape) x_pages x_shownPages x_seed x_fresh x_xWhat x_xId x_toDo x_toDoId x_bytes1 x_bytes2 o_this, (a_tape, .inl (k_tape, 65536, .inl g_tape))] sz) U U.heap)) (q_e_Ref_tape dC dI a_this x_desk x_shelf x_macros x_sheet x_lines x_view x_job x_shown x_part x_pages x_shownPages x_seed x_fresh x_xWhat x_xId x_toDo x_toDoId x_bytes1 x_bytes2 o_this a_tape k_tape g_tape N v0 v1 v2 v3 v4 res (va_A [cl_Ref a_this x_desk x_shelf x_macros x_sheet x_lines x_view x_job x_shown x_part (.ref a_tape) x_pages x_shownPages x_seed x_fresh x_xWhat x_xId x_toDo x_toDoId x_bytes1 x_bytes2 o_this, (a_tape, .inl (k_tape, 65536, .inl g_tape))] sz)) 0 0 (va_A [cl_Ref a_this x_desk x_shelf x_macros x_sheet x_lines x_view x_job x_shown x_part (.ref a_tape) x_pages x_shownPages x_seed x_fresh x_xWhat x_xId x_toDo x_toDoId x_bytes1 x_bytes2 o_this, (a_tape, .inl (k_tape, 65536, .inl g_tape))] sz) := by
  refine Met.ofW (cc := b_Ref_tape) (maxL := 6) (ret := (some .boolean)) (by decide) rfl ?_
  intro p e s m args below meth c s₁ B hml hv
  obtain ⟨rfl, hsz, hP, hK, hD0, hF⟩ := hv
  have hx := B.exec
  have hb := B.bytes
  have hr := B.returns
  have hwd : ∀ w ∈ gT, w.before _ s = true := fun w h => atoms_spec (ws := w_Ref_tape) B.pre w (List.mem_cons_of_mem _ h)
  have hown : s.vm.findClass R_Ref = some m.cls := findClass_of_methodNamed B.named
  have hlocks := B.notSynchronized
  subst hsz
  have hD := hD0.self (sz := s.heap.size)
  generalize hAe : va_A [cl_Ref a_this x_desk x_shelf x_macros x_sheet x_lines x_view x_job x_shown x_part (.ref a_tape) x_pages x_shownPages x_seed x_fresh x_xWhat x_xId x_toDo x_toDoId x_bytes1 x_bytes2 o_this, (a_tape, .inl (k_tape, 65536, .inl g_tape))] s.heap.size = A at hD hF ⊢
  have hA : ∀ q : Nat, s.heap.size ≤ q → A q := fun q h => by rw [← hAe]; exact Or.inr h
  have hS : va_S A s.heap s.heap [] := va_S.rf
  have hP : va_P (dC, dI) vcl [cl_Ref a_this x_desk x_shelf x_macros x_sheet x_lines x_view x_job x_shown x_part (.ref a_tape) x_pages x_shownPages x_seed x_fresh x_xWhat x_xId x_toDo x_toDoId x_bytes1 x_bytes2 o_this, (a_tape, .inl (k_tape, 65536, .inl g_tape))] s.heap := hP
  have hl := lv_entry ([.ref a_this, .int v0, .int v1, .int v2, .int v3, .int v4]) (n := 6) (Nat.le_of_ble_eq_true rfl)
  rw [lg_entry_eq]
  generalize (lg_sl ([.ref a_this, .int v0, .int v1, .int v2, .int v3, .int v4]) ++ List.replicate (6 - (lg_sl ([.ref a_this, .int v0, .int v1, .int v2, .int v3, .int v4])).length) Slot.unset).toArray = ls at hl ⊢
  have hl : lv_has ls 6 [(0, .ref a_this), (1, .int v0), (2, .int v1), (3, .int v2), (4, .int v3), (5, .int v4)] := hl
  unfold ex_Ref_tape at hf
  refine lv_aload_n hx hb d_Ref_tape_0 rfl (lv_at hl 0 rfl) ?_
  refine lv_iconst (v := 0) hx hb d_Ref_tape_1 (by decide) ?_
  refine va_put (D := (dC, dI)) (ci := 1) (v := .int 0) (ty := .int) (C := R_Ref) (T := F_Ref) (N := 47) hx hb hwd i_Ref t_Ref to_Ref no_Ref hown hK hP hD hS 0 rfl rfl 0 (by decide) (hwd _ wd_11_138) (fun _ h9 => h9) rfl (by decide +kernel) rfl rfl (Nat.le_of_ble_eq_true rfl) d_Ref_tape_2 ?_
  clear hP hD hS
  intro H locs hP hD hS
  replace hP : va_P (dC, dI) vcl [cl_Ref a_this x_desk x_shelf x_macros x_sheet x_lines x_view x_job x_shown x_part (.ref a_tape) x_pages x_shownPages x_seed x_fresh x_xWhat x_xId x_toDo x_toDoId x_bytes1 x_bytes2 (fs_Ref_thrown o_this 0), (a_tape, .inl (k_tape, 65536, .inl g_tape))] H := hP
  replace hD : va_D A [cl_Ref a_this x_desk x_shelf x_macros x_sheet x_lines x_view x_job x_shown x_part (.ref a_tape) x_pages x_shownPages x_seed x_fresh x_xWhat x_xId x_toDo x_toDoId x_bytes1 x_bytes2 (fs_Ref_thrown o_this 0), (a_tape, .inl (k_tape, 65536, .inl g_tape))] := hD
  refine lv_aload_n hx hb d_Ref_tape_5 rfl (lv_at hl 0 rfl) ?_
  refine va_get (D := (dC, dI)) (ci := 1) (v := .int (fd_Ref_onTape o_this)) (C := R_Ref) (T := F_Ref) (N := 47) hx hb hwd i_Ref hown hK hP 0 rfl rfl 12 (by decide) (hwd _ wd_11_150) (fun _ h9 => h9) rfl d_Ref_tape_6 ?_
  refine lv_bipush (v := 20) hx hb d_Ref_tape_9 (by decide) ?_
  refine lv_iadd hx hb d_Ref_tape_11 ?_
  refine lv_ldc hx hb hown (hwd _ wd_11_13) d_Ref_tape_12 ?_
  refine lv_icmp_le (tgt := 19) hx hb d_Ref_tape_14 (by decide) (fun c14 => ?_) (fun c14 => ?_)
  · replace hf := dk_pos c14 hf
    refine lv_aload_n hx hb d_Ref_tape_19 rfl (lv_at hl 0 rfl) ?_
    refine lv_iload_n hx hb d_Ref_tape_20 rfl (lv_at hl 1 rfl) ?_
    obtain ⟨u_1, hu_1, hf⟩ := dk_bind hf
    have hPc : va_P (dC, dI) vcl [cl_Ref a_this x_desk x_shelf x_macros x_sheet x_lines x_view x_job x_shown x_part (.ref a_tape) x_pages x_shownPages x_seed x_fresh x_xWhat x_xId x_toDo x_toDoId x_bytes1 x_bytes2 (fs_Ref_thrown o_this 0), (a_tape, .inl (k_tape, 65536, .inl g_tape))] _ := hP.sub [0, 1] rfl
    have hDc : va_D A [cl_Ref a_this x_desk x_shelf x_macros x_sheet x_lines x_view x_job x_shown x_part (.ref a_tape) x_pages x_shownPages x_seed x_fresh x_xWhat x_xId x_toDo x_toDoId x_bytes1 x_bytes2 (fs_Ref_thrown o_this 0), (a_tape, .inl (k_tape, 65536, .inl g_tape))] := hD.sub [0, 1] (by decide) rfl
    have hKc : va_K (dC, dI) vcl [(k_tape, .byte)] s := hK.sub [0] rfl
    have hFc := va_free (wc := [cl_Ref a_this x_desk x_shelf x_macros x_sheet x_lines x_view x_job x_shown x_part (.ref a_tape) x_pages x_shownPages x_seed x_fresh x_xWhat x_xId x_toDo x_toDoId x_bytes1 x_bytes2 (fs_Ref_thrown o_this 0), (a_tape, .inl (k_tape, 65536, .inl g_tape))]) hD hS hA [0, 1] rfl
    refine va_callv (va_runV (As := [.int v0]) (rest := []) ⟨hx, hb, hml, hown, hwd⟩ (e_Ref_four l dC dI tt a_this x_desk x_shelf x_macros x_sheet x_lines x_view x_job x_shown x_part x_pages x_shownPages x_seed x_fresh x_xWhat x_xId x_toDo x_toDoId x_bytes1 x_bytes2 (fs_Ref_thrown o_this 0) a_tape k_tape g_tape N v0 u_1 H.size (hu_1)) (cwV 1 hwd (gV gd_Ref_four wd_12_48 wd_12_50 ws_127 wd_1_16) rfl rfl rfl (by decide +kernel) ⟨Nat.le_of_ble_eq_true rfl, Nat.le_of_ble_eq_true rfl⟩) ⟨fun a U g mk q => by obtain ⟨q0, q1, qP, qK, qD, qF⟩ := q; exact ⟨q0, q1, qP, va_K.moved (u := U) (U := U.calling g mk a) (Vm.Alike.refl U.vm) qK, qD, SF.same (u := U) (U := U.calling g mk a) rfl qF⟩, va_recv hKc hPc (ci := 1) (q0 := 0) rfl rfl, fun U hU hW => ⟨rfl, by rw [hU], by rw [hU]; exact hPc, va_K.moved hW.alike hKc, hDc.weaken (fun _ _ _ _ => trivial), by rw [hU]; exact SF.narrow (SF.moved hW (SF.kept hF (fun a h1 h2 => hS.2.1 a h1 h2))) hFc⟩⟩ rfl rfl hl.1 rfl (lv_room (Nat.le_of_ble_eq_true rfl)) d_Ref_tape_21 ⟨Nat.le_of_ble_eq_true rfl, Nat.le_of_ble_eq_true rfl⟩) hS (fun q _ h => hFc q h) hFc ?_
    clear hPc hDc hKc hS
    intro u_3 t H1 locs ht hvm hw hB hz1 hk1 hS
    obtain ⟨hP1, hK1, hD1⟩ := hB
    rw [ht] at hP1
    have hK1 := va_K.moved hvm.symm hK1
    try dsimp only at hw
    have hJ := va_join (wr := []) (w1 := [cl_Ref a_this x_desk x_shelf x_macros x_sheet x_lines x_view x_job x_shown x_part (.ref a_tape) x_pages x_shownPages x_seed x_fresh x_xWhat x_xId x_toDo x_toDoId x_bytes1 x_bytes2 u_1.1, (a_tape, .inl (k_tape, 65536, .inl u_1.2))]) hP hD [0, 1] [] rfl rfl (by decide) (by decide) hk1 hFc hP1 hD1
    clear hP hD hk1 hFc hP1 hD1 hz1
    obtain ⟨hP, hD⟩ := hJ
    clear hK1 ht hvm
    generalize H1 = H at hP hS ⊢
    replace hP : va_P (dC, dI) vcl [cl_Ref a_this x_desk x_shelf x_macros x_sheet x_lines x_view x_job x_shown x_part (.ref a_tape) x_pages x_shownPages x_seed x_fresh x_xWhat x_xId x_toDo x_toDoId x_bytes1 x_bytes2 u_1.1, (a_tape, .inl (k_tape, 65536, .inl u_1.2))] H := hP
    replace hD : va_D A [cl_Ref a_this x_desk x_shelf x_macros x_sheet x_lines x_view x_job x_shown x_part (.ref a_tape) x_pages x_shownPages x_seed x_fresh x_xWhat x_xId x_toDo x_toDoId x_bytes1 x_bytes2 u_1.1, (a_tape, .inl (k_tape, 65536, .inl u_1.2))] := hD
    refine lv_aload_n hx hb d_Ref_tape_24 rfl (lv_at hl 0 rfl) ?_
    refine lv_iload_n hx hb d_Ref_tape_25 rfl (lv_at hl 2 rfl) ?_
    obtain ⟨u_4, hu_4, hf⟩ := dk_bind hf
    have hPc : va_P (dC, dI) vcl [cl_Ref a_this x_desk x_shelf x_macros x_sheet x_lines x_view x_job x_shown x_part (.ref a_tape) x_pages x_shownPages x_seed x_fresh x_xWhat x_xId x_toDo x_toDoId x_bytes1 x_bytes2 u_1.1, (a_tape, .inl (k_tape, 65536, .inl u_1.2))] _ := hP.sub [0, 1] rfl
    have hDc : va_D A [cl_Ref a_this x_desk x_shelf x_macros x_sheet x_lines x_view x_job x_shown x_part (.ref a_tape) x_pages x_shownPages x_seed x_fresh x_xWhat x_xId x_toDo x_toDoId x_bytes1 x_bytes2 u_1.1, (a_tape, .inl (k_tape, 65536, .inl u_1.2))] := hD.sub [0, 1] (by decide) rfl
    have hKc : va_K (dC, dI) vcl [(k_tape, .byte)] s := hK.sub [0] rfl
    have hFc := va_free (wc := [cl_Ref a_this x_desk x_shelf x_macros x_sheet x_lines x_view x_job x_shown x_part (.ref a_tape) x_pages x_shownPages x_seed x_fresh x_xWhat x_xId x_toDo x_toDoId x_bytes1 x_bytes2 u_1.1, (a_tape, .inl (k_tape, 65536, .inl u_1.2))]) hD hS hA [0, 1] rfl
    refine va_callv (va_runV (As := [.int v1]) (rest := []) ⟨hx, hb, hml, hown, hwd⟩ (e_Ref_four l dC dI tt a_this x_desk x_shelf x_macros x_sheet x_lines x_view x_job x_shown x_part x_pages x_shownPages x_seed x_fresh x_xWhat x_xId x_toDo x_toDoId x_bytes1 x_bytes2 u_1.1 a_tape k_tape u_1.2 N v1 u_4 H.size (hu_4)) (cwV 1 hwd (gV gd_Ref_four wd_12_48 wd_12_50 ws_127 wd_1_16) rfl rfl rfl (by decide +kernel) ⟨Nat.le_of_ble_eq_true rfl, Nat.le_of_ble_eq_true rfl⟩) ⟨fun a U g mk q => by obtain ⟨q0, q1, qP, qK, qD, qF⟩ := q; exact ⟨q0, q1, qP, va_K.moved (u := U) (U := U.calling g mk a) (Vm.Alike.refl U.vm) qK, qD, SF.same (u := U) (U := U.calling g mk a) rfl qF⟩, va_recv hKc hPc (ci := 1) (q0 := 0) rfl rfl, fun U hU hW => ⟨rfl, by rw [hU], by rw [hU]; exact hPc, va_K.moved hW.alike hKc, hDc.weaken (fun _ _ _ _ => trivial), by rw [hU]; exact SF.narrow (SF.moved hW (SF.kept hF (fun a h1 h2 => hS.2.1 a h1 h2))) hFc⟩⟩ rfl rfl hl.1 rfl (lv_room (Nat.le_of_ble_eq_true rfl)) d_Ref_tape_26 ⟨Nat.le_of_ble_eq_true rfl, Nat.le_of_ble_eq_true rfl⟩) hS (fun q _ h => hFc q h) hFc ?_
    clear hPc hDc hKc hS
    intro u_6 t H1 locs ht hvm hw hB hz1 hk1 hS
    obtain ⟨hP1, hK1, hD1⟩ := hB
    rw [ht] at hP1
    have hK1 := va_K.moved hvm.symm hK1
    try dsimp only at hw
    have hJ := va_join (wr := []) (w1 := [cl_Ref a_this x_desk x_shelf x_macros x_sheet x_lines x_view x_job x_shown x_part (.ref a_tape) x_pages x_shownPages x_seed x_fresh x_xWhat x_xId x_toDo x_toDoId x_bytes1 x_bytes2 u_4.1, (a_tape, .inl (k_tape, 65536, .inl u_4.2))]) hP hD [0, 1] [] rfl rfl (by decide) (by decide) hk1 hFc hP1 hD1
    clear hP hD hk1 hFc hP1 hD1 hz1
    obtain ⟨hP, hD⟩ := hJ
    clear hK1 ht hvm
    generalize H1 = H at hP hS ⊢
    replace hP : va_P (dC, dI) vcl [cl_Ref a_this x_desk x_shelf x_macros x_sheet x_lines x_view x_job x_shown x_part (.ref a_tape) x_pages x_shownPages x_seed x_fresh x_xWhat x_xId x_toDo x_toDoId x_bytes1 x_bytes2 u_4.1, (a_tape, .inl (k_tape, 65536, .inl u_4.2))] H := hP
    replace hD : va_D A [cl_Ref a_this x_desk x_shelf x_macros x_sheet x_lines x_view x_job x_shown x_part (.ref a_tape) x_pages x_shownPages x_seed x_fresh x_xWhat x_xId x_toDo x_toDoId x_bytes1 x_bytes2 u_4.1, (a_tape, .inl (k_tape, 65536, .inl u_4.2))] := hD
    refine lv_aload_n hx hb d_Ref_tape_29 rfl (lv_at hl 0 rfl) ?_
    refine lv_iload_n hx hb d_Ref_tape_30 rfl (lv_at hl 3 rfl) ?_
    obtain ⟨u_7, hu_7, hf⟩ := dk_bind hf
    have hPc : va_P (dC, dI) vcl [cl_Ref a_this x_desk x_shelf x_macros x_sheet x_lines x_view x_job x_shown x_part (.ref a_tape) x_pages x_shownPages x_seed x_fresh x_xWhat x_xId x_toDo x_toDoId x_bytes1 x_bytes2 u_4.1, (a_tape, .inl (k_tape, 65536, .inl u_4.2))] _ := hP.sub [0, 1] rfl
    have hDc : va_D A [cl_Ref a_this x_desk x_shelf x_macros x_sheet x_lines x_view x_job x_shown x_part (.ref a_tape) x_pages x_shownPages x_seed x_fresh x_xWhat x_xId x_toDo x_toDoId x_bytes1 x_bytes2 u_4.1, (a_tape, .inl (k_tape, 65536, .inl u_4.2))] := hD.sub [0, 1] (by decide) rfl
    have hKc : va_K (dC, dI) vcl [(k_tape, .byte)] s := hK.sub [0] rfl
    have hFc := va_free (wc := [cl_Ref a_this x_desk x_shelf x_macros x_sheet x_lines x_view x_job x_shown x_part (.ref a_tape) x_pages x_shownPages x_seed x_fresh x_xWhat x_xId x_toDo x_toDoId x_bytes1 x_bytes2 u_4.1, (a_tape, .inl (k_tape, 65536, .inl u_4.2))]) hD hS hA [0, 1] rfl
    refine va_callv (va_runV (As := [.int v2]) (rest := []) ⟨hx, hb, hml, hown, hwd⟩ (e_Ref_four l dC dI tt a_this x_desk x_shelf x_macros x_sheet x_lines x_view x_job x_shown x_part x_pages x_shownPages x_seed x_fresh x_xWhat x_xId x_toDo x_toDoId x_bytes1 x_bytes2 u_4.1 a_tape k_tape u_4.2 N v2 u_7 H.size (hu_7)) (cwV 1 hwd (gV gd_Ref_four wd_12_48 wd_12_50 ws_127 wd_1_16) rfl rfl rfl (by decide +kernel) ⟨Nat.le_of_ble_eq_true rfl, Nat.le_of_ble_eq_true rfl⟩) ⟨fun a U g mk q => by obtain ⟨q0, q1, qP, qK, qD, qF⟩ := q; exact ⟨q0, q1, qP, va_K.moved (u := U) (U := U.calling g mk a) (Vm.Alike.refl U.vm) qK, qD, SF.same (u := U) (U := U.calling g mk a) rfl qF⟩, va_recv hKc hPc (ci := 1) (q0 := 0) rfl rfl, fun U hU hW => ⟨rfl, by rw [hU], by rw [hU]; exact hPc, va_K.moved hW.alike hKc, hDc.weaken (fun _ _ _ _ => trivial), by rw [hU]; exact SF.narrow (SF.moved hW (SF.kept hF (fun a h1 h2 => hS.2.1 a h1 h2))) hFc⟩⟩ rfl rfl hl.1 rfl (lv_room (Nat.le_of_ble_eq_true rfl)) d_Ref_tape_31 ⟨Nat.le_of_ble_eq_true rfl, Nat.le_of_ble_eq_true rfl⟩) hS (fun q _ h => hFc q h) hFc ?_
    clear hPc hDc hKc hS
    intro u_9 t H1 locs ht hvm hw hB hz1 hk1 hS
    obtain ⟨hP1, hK1, hD1⟩ := hB
    rw [ht] at hP1
    have hK1 := va_K.moved hvm.symm hK1
    try dsimp only at hw
    have hJ := va_join (wr := []) (w1 := [cl_Ref a_this x_desk x_shelf x_macros x_sheet x_lines x_view x_job x_shown x_part (.ref a_tape) x_pages x_shownPages x_seed x_fresh x_xWhat x_xId x_toDo x_toDoId x_bytes1 x_bytes2 u_7.1, (a_tape, .inl (k_tape, 65536, .inl u_7.2))]) hP hD [0, 1] [] rfl rfl (by decide) (by decide) hk1 hFc hP1 hD1
    clear hP hD hk1 hFc hP1 hD1 hz1
    obtain ⟨hP, hD⟩ := hJ
    clear hK1 ht hvm
    generalize H1 = H at hP hS ⊢
    replace hP : va_P (dC, dI) vcl [cl_Ref a_this x_desk x_shelf x_macros x_sheet x_lines x_view x_job x_shown x_part (.ref a_tape) x_pages x_shownPages x_seed x_fresh x_xWhat x_xId x_toDo x_toDoId x_bytes1 x_bytes2 u_7.1, (a_tape, .inl (k_tape, 65536, .inl u_7.2))] H := hP
    replace hD : va_D A [cl_Ref a_this x_desk x_shelf x_macros x_sheet x_lines x_view x_job x_shown x_part (.ref a_tape) x_pages x_shownPages x_seed x_fresh x_xWhat x_xId x_toDo x_toDoId x_bytes1 x_bytes2 u_7.1, (a_tape, .inl (k_tape, 65536, .inl u_7.2))] := hD
    refine lv_aload_n hx hb d_Ref_tape_34 rfl (lv_at hl 0 rfl) ?_
    refine lv_iload hx hb d_Ref_tape_35 (lv_at hl 4 rfl) ?_
    obtain ⟨u_10, hu_10, hf⟩ := dk_bind hf
    have hPc : va_P (dC, dI) vcl [cl_Ref a_this x_desk x_shelf x_macros x_sheet x_lines x_view x_job x_shown x_part (.ref a_tape) x_pages x_shownPages x_seed x_fresh x_xWhat x_xId x_toDo x_toDoId x_bytes1 x_bytes2 u_7.1, (a_tape, .inl (k_tape, 65536, .inl u_7.2))] _ := hP.sub [0, 1] rfl
    have hDc : va_D A [cl_Ref a_this x_desk x_shelf x_macros x_sheet x_lines x_view x_job x_shown x_part (.ref a_tape) x_pages x_shownPages x_seed x_fresh x_xWhat x_xId x_toDo x_toDoId x_bytes1 x_bytes2 u_7.1, (a_tape, .inl (k_tape, 65536, .inl u_7.2))] := hD.sub [0, 1] (by decide) rfl
    have hKc : va_K (dC, dI) vcl [(k_tape, .byte)] s := hK.sub [0] rfl
    have hFc := va_free (wc := [cl_Ref a_this x_desk x_shelf x_macros x_sheet x_lines x_view x_job x_shown x_part (.ref a_tape) x_pages x_shownPages x_seed x_fresh x_xWhat x_xId x_toDo x_toDoId x_bytes1 x_bytes2 u_7.1, (a_tape, .inl (k_tape, 65536, .inl u_7.2))]) hD hS hA [0, 1] rfl
    refine va_callv (va_runV (As := [.int v3]) (rest := []) ⟨hx, hb, hml, hown, hwd⟩ (e_Ref_four l dC dI tt a_this x_desk x_shelf x_macros x_sheet x_lines x_view x_job x_shown x_part x_pages x_shownPages x_seed x_fresh x_xWhat x_xId x_toDo x_toDoId x_bytes1 x_bytes2 u_7.1 a_tape k_tape u_7.2 N v3 u_10 H.size (hu_10)) (cwV 1 hwd (gV gd_Ref_four wd_12_48 wd_12_50 ws_127 wd_1_16) rfl rfl rfl (by decide +kernel) ⟨Nat.le_of_ble_eq_true rfl, Nat.le_of_ble_eq_true rfl⟩) ⟨fun a U g mk q => by obtain ⟨q0, q1, qP, qK, qD, qF⟩ := q; exact ⟨q0, q1, qP, va_K.moved (u := U) (U := U.calling g mk a) (Vm.Alike.refl U.vm) qK, qD, SF.same (u := U) (U := U.calling g mk a) rfl qF⟩, va_recv hKc hPc (ci := 1) (q0 := 0) rfl rfl, fun U hU hW => ⟨rfl, by rw [hU], by rw [hU]; exact hPc, va_K.moved hW.alike hKc, hDc.weaken (fun _ _ _ _ => trivial), by rw [hU]; exact SF.narrow (SF.moved hW (SF.kept hF (fun a h1 h2 => hS.2.1 a h1 h2))) hFc⟩⟩ rfl rfl hl.1 rfl (lv_room (Nat.le_of_ble_eq_true rfl)) d_Ref_tape_37 ⟨Nat.le_of_ble_eq_true rfl, Nat.le_of_ble_eq_true rfl⟩) hS (fun q _ h => hFc q h) hFc ?_
    clear hPc hDc hKc hS
    intro u_12 t H1 locs ht hvm hw hB hz1 hk1 hS
    obtain ⟨hP1, hK1, hD1⟩ := hB
    rw [ht] at hP1
    have hK1 := va_K.moved hvm.symm hK1
    try dsimp only at hw
    have hJ := va_join (wr := []) (w1 := [cl_Ref a_this x_desk x_shelf x_macros x_sheet x_lines x_view x_job x_shown x_part (.ref a_tape) x_pages x_shownPages x_seed x_fresh x_xWhat x_xId x_toDo x_toDoId x_bytes1 x_bytes2 u_10.1, (a_tape, .inl (k_tape, 65536, .inl u_10.2))]) hP hD [0, 1] [] rfl rfl (by decide) (by decide) hk1 hFc hP1 hD1
    clear hP hD hk1 hFc hP1 hD1 hz1
    obtain ⟨hP, hD⟩ := hJ
    clear hK1 ht hvm
    generalize H1 = H at hP hS ⊢
    replace hP : va_P (dC, dI) vcl [cl_Ref a_this x_desk x_shelf x_macros x_sheet x_lines x_view x_job x_shown x_part (.ref a_tape) x_pages x_shownPages x_seed x_fresh x_xWhat x_xId x_toDo x_toDoId x_bytes1 x_bytes2 u_10.1, (a_tape, .inl (k_tape, 65536, .inl u_10.2))] H := hP
    replace hD : va_D A [cl_Ref a_this x_desk x_shelf x_macros x_sheet x_lines x_view x_job x_shown x_part (.ref a_tape) x_pages x_shownPages x_seed x_fresh x_xWhat x_xId x_toDo x_toDoId x_bytes1 x_bytes2 u_10.1, (a_tape, .inl (k_tape, 65536, .inl u_10.2))] := hD
    refine lv_aload_n hx hb d_Ref_tape_40 rfl (lv_at hl 0 rfl) ?_
    refine lv_iload hx hb d_Ref_tape_41 (lv_at hl 5 rfl) ?_
    obtain ⟨u_13, hu_13, hf⟩ := dk_bind hf
    have hPc : va_P (dC, dI) vcl [cl_Ref a_this x_desk x_shelf x_macros x_sheet x_lines x_view x_job x_shown x_part (.ref a_tape) x_pages x_shownPages x_seed x_fresh x_xWhat x_xId x_toDo x_toDoId x_bytes1 x_bytes2 u_10.1, (a_tape, .inl (k_tape, 65536, .inl u_10.2))] _ := hP.sub [0, 1] rfl
    have hDc : va_D A [cl_Ref a_this x_desk x_shelf x_macros x_sheet x_lines x_view x_job x_shown x_part (.ref a_tape) x_pages x_shownPages x_seed x_fresh x_xWhat x_xId x_toDo x_toDoId x_bytes1 x_bytes2 u_10.1, (a_tape, .inl (k_tape, 65536, .inl u_10.2))] := hD.sub [0, 1] (by decide) rfl
    have hKc : va_K (dC, dI) vcl [(k_tape, .byte)] s := hK.sub [0] rfl
    have hFc := va_free (wc := [cl_Ref a_this x_desk x_shelf x_macros x_sheet x_lines x_view x_job x_shown x_part (.ref a_tape) x_pages x_shownPages x_seed x_fresh x_xWhat x_xId x_toDo x_toDoId x_bytes1 x_bytes2 u_10.1, (a_tape, .inl (k_tape, 65536, .inl u_10.2))]) hD hS hA [0, 1] rfl
    refine va_callv (va_runV (As := [.int v4]) (rest := []) ⟨hx, hb, hml, hown, hwd⟩ (e_Ref_four l dC dI tt a_this x_desk x_shelf x_macros x_sheet x_lines x_view x_job x_shown x_part x_pages x_shownPages x_seed x_fresh x_xWhat x_xId x_toDo x_toDoId x_bytes1 x_bytes2 u_10.1 a_tape k_tape u_10.2 N v4 u_13 H.size (hu_13)) (cwV 1 hwd (gV gd_Ref_four wd_12_48 wd_12_50 ws_127 wd_1_16) rfl rfl rfl (by decide +kernel) ⟨Nat.le_of_ble_eq_true rfl, Nat.le_of_ble_eq_true rfl⟩) ⟨fun a U g mk q => by obtain ⟨q0, q1, qP, qK, qD, qF⟩ := q; exact ⟨q0, q1, qP, va_K.moved (u := U) (U := U.calling g mk a) (Vm.Alike.refl U.vm) qK, qD, SF.same (u := U) (U := U.calling g mk a) rfl qF⟩, va_recv hKc hPc (ci := 1) (q0 := 0) rfl rfl, fun U hU hW => ⟨rfl, by rw [hU], by rw [hU]; exact hPc, va_K.moved hW.alike hKc, hDc.weaken (fun _ _ _ _ => trivial), by rw [hU]; exact SF.narrow (SF.moved hW (SF.kept hF (fun a h1 h2 => hS.2.1 a h1 h2))) hFc⟩⟩ rfl rfl hl.1 rfl (lv_room (Nat.le_of_ble_eq_true rfl)) d_Ref_tape_43 ⟨Nat.le_of_ble_eq_true rfl, Nat.le_of_ble_eq_true rfl⟩) hS (fun q _ h => hFc q h) hFc ?_
    clear hPc hDc hKc hS
    intro u_15 t H1 locs ht hvm hw hB hz1 hk1 hS
    obtain ⟨hP1, hK1, hD1⟩ := hB
    rw [ht] at hP1
    have hK1 := va_K.moved hvm.symm hK1
    try dsimp only at hw
    have hJ := va_join (wr := []) (w1 := [cl_Ref a_this x_desk x_shelf x_macros x_sheet x_lines x_view x_job x_shown x_part (.ref a_tape) x_pages x_shownPages x_seed x_fresh x_xWhat x_xId x_toDo x_toDoId x_bytes1 x_bytes2 u_13.1, (a_tape, .inl (k_tape, 65536, .inl u_13.2))]) hP hD [0, 1] [] rfl rfl (by decide) (by decide) hk1 hFc hP1 hD1
    clear hP hD hk1 hFc hP1 hD1 hz1
    obtain ⟨hP, hD⟩ := hJ
    clear hK1 ht hvm
    generalize H1 = H at hP hS ⊢
    replace hP : va_P (dC, dI) vcl [cl_Ref a_this x_desk x_shelf x_macros x_sheet x_lines x_view x_job x_shown x_part (.ref a_tape) x_pages x_shownPages x_seed x_fresh x_xWhat x_xId x_toDo x_toDoId x_bytes1 x_bytes2 u_13.1, (a_tape, .inl (k_tape, 65536, .inl u_13.2))] H := hP
    replace hD : va_D A [cl_Ref a_this x_desk x_shelf x_macros x_sheet x_lines x_view x_job x_shown x_part (.ref a_tape) x_pages x_shownPages x_seed x_fresh x_xWhat x_xId x_toDo x_toDoId x_bytes1 x_bytes2 u_13.1, (a_tape, .inl (k_tape, 65536, .inl u_13.2))] := hD
    refine lv_iconst (v := 1) hx hb d_Ref_tape_46 (by decide) ?_
    obtain rfl := Option.some.inj hf
    have hP9 : va_P (dC, dI) vcl [cl_Ref a_this x_desk x_shelf x_macros x_sheet x_lines x_view x_job x_shown x_part (.ref a_tape) x_pages x_shownPages x_seed x_fresh x_xWhat x_xId x_toDo x_toDoId x_bytes1 x_bytes2 u_13.1, (a_tape, .inl (k_tape, 65536, .inl u_13.2))] _ := hP.sub [0, 1] rfl
    have hD9 : va_D A [cl_Ref a_this x_desk x_shelf x_macros x_sheet x_lines x_view x_job x_shown x_part (.ref a_tape) x_pages x_shownPages x_seed x_fresh x_xWhat x_xId x_toDo x_toDoId x_bytes1 x_bytes2 u_13.1, (a_tape, .inl (k_tape, 65536, .inl u_13.2))] := hD.sub [0, 1] (by decide) rfl
    have hK9 : va_K (dC, dI) vcl [(k_tape, .byte)] s := hK.sub [0] rfl
    exact W.zret (v := 1) hx hb hr (by decide) (fun t ht hW => ⟨⟨1, (), rfl, rfl, by rw [ht]; exact hP9, va_K.moved hW.alike hK9, hD9⟩, hS.F ht⟩) hS.2.2 d_Ref_tape_47
  · replace hf := dk_neg c14 hf
    refine lv_iconst (v := 0) hx hb d_Ref_tape_17 (by decide) ?_
    obtain rfl := Option.some.inj hf
    have hP9 : va_P (dC, dI) vcl [cl_Ref a_this x_desk x_shelf x_macros x_sheet x_lines x_view x_job x_shown x_part (.ref a_tape) x_pages x_shownPages x_seed x_fresh x_xWhat x_xId x_toDo x_toDoId x_bytes1 x_bytes2 (fs_Ref_thrown o_this 0), (a_tape, .inl (k_tape, 65536, .inl g_tape))] _ := hP.sub [0, 1] rfl
    have hD9 : va_D A [cl_Ref a_this x_desk x_shelf x_macros x_sheet x_lines x_view x_job x_shown x_part (.ref a_tape) x_pages x_shownPages x_seed x_fresh x_xWhat x_xId x_toDo x_toDoId x_bytes1 x_bytes2 (fs_Ref_thrown o_this 0), (a_tape, .inl (k_tape, 65536, .inl g_tape))] := hD.sub [0, 1] (by decide) rfl
    have hK9 : va_K (dC, dI) vcl [(k_tape, .byte)] s := hK.sub [0] rfl
    exact W.zret (v := 0) hx hb hr (by decide) (fun t ht hW => ⟨⟨0, (), rfl, rfl, by rw [ht]; exact hP9, va_K.moved hW.alike hK9, hD9⟩, hS.F ht⟩) hS.2.2 d_Ref_tape_18

abbrev at_e_Ref_thrown (dC : Nat → ClassId) (dI : Nat → Nat → Nat) (a_this : Nat) (x_desk : Value) (x_shelf : Value) (x_macros : Value) (x_sheet : Value) (x_lines : Value) (x_view : Value) (x_job : Value) (x_shown : Value) (x_part : Value) (x_tape : Value) (x_pages : Value) (x_shownPages : Value) (x_seed : Value) (x_fresh : Value) (x_xWhat : Value) (x_xId : Value) (x_toDo : Value) (x_toDoId : Value) (x_bytes1 : Value) (x_bytes2 : Value) (o_this : ob_Ref) (N : Nat) (res : rs_Ref_thrown) (A : Nat → Prop) (u : Unit) (t : State) : Prop := match u with
  | _ => va_P (dC, dI) vcl [cl_Ref a_this x_desk x_shelf x_macros x_sheet x_lines x_view x_job x_shown x_part x_tape x_pages x_shownPages x_seed x_fresh x_xWhat x_xId x_toDo x_toDoId x_bytes1 x_bytes2 o_this] t.heap ∧ va_K (dC, dI) vcl [] t ∧ va_D A [cl_Ref a_this x_desk x_shelf x_macros x_sheet x_lines x_view x_job x_shown x_part x_tape x_pages x_shownPages x_seed x_fresh x_xWhat x_xId x_toDo x_toDoId x_bytes1 x_bytes2 o_this]
abbrev po_e_Ref_thrown (a_this : Nat) (x_desk : Value) (x_shelf : Value) (x_macros : Value) (x_sheet : Value) (x_lines : Value) (x_view : Value) (x_job : Value) (x_shown : Value) (x_part : Value) (x_tape : Value) (x_pages : Value) (x_shownPages : Value) (x_seed : Value) (x_fresh : Value) (x_xWhat : Value) (x_xId : Value) (x_toDo : Value) (x_toDoId : Value) (x_bytes1 : Value) (x_bytes2 : Value) (o_this : ob_Ref) (N : Nat) (res : rs_Ref_thrown) (r : Int32) (u : Unit) : Prop := match u with
  | _ => r = res
abbrev q_e_Ref_thrown (dC : Nat → ClassId) (dI : Nat → Nat → Nat) (a_this : Nat) (x_desk : Value) (x_shelf : Value) (x_macros : Value) (x_sheet : Value) (x_lines : Value) (x_view : Value) (x_job : Value) (x_shown : Value) (x_part : Value) (x_tape : Value) (x_pages : Value) (x_shownPages : Value) (x_seed : Value) (x_fresh : Value) (x_xWhat : Value) (x_xId : Value) (x_toDo : Value) (x_toDoId : Value) (x_bytes1 : Value) (x_bytes2 : Value) (o_this : ob_Ref) (N : Nat) (res : rs_Ref_thrown) (A : Nat → Prop) : Array Value → State → Outcome → State → Prop := va_Qi (po_e_Ref_thrown a_this x_desk x_shelf x_macros x_sheet x_lines x_view x_job x_shown x_part x_tape x_pages x_shownPages x_seed x_fresh x_xWhat x_xId x_toDo x_toDoId x_bytes1 x_bytes2 o_this N res) (at_e_Ref_thrown dC dI a_this x_desk x_shelf x_macros x_sheet x_lines x_view x_job x_shown x_part x_tape x_pages x_shownPages x_seed x_fresh x_xWhat x_xId x_toDo x_toDoId x_bytes1 x_bytes2 o_this N res A) A
abbrev rm_e_Ref_thrown : Room := { frames := 0, cells := 0, slots := 0, locals := 0 }
set_option maxHeartbeats 4000000 in
set_option maxRecDepth 100000 in
theorem e_Ref_thrown (l : Launch) (dC : Nat → ClassId) (dI : Nat → Nat → Nat) (tt : Nat → Nat) (a_this : Nat) (x_desk : Value) (x_shelf : Value) (x_macros : Value) (x_sheet : Value) (x_lines : Value) (x_view : Value) (x_job : Value) (x_shown : Value) (x_part : Value) (x_tape : Value) (x_pages : Value) (x_shownPages : Value) (x_seed : Value) (x_fresh : Value) (x_xWhat : Value) (x_xId : Value) (x_toDo : Value) (x_toDoId : Value) (x_bytes1 : Value) (x_bytes2 : Value) (o_this : ob_Ref) (N : Nat) (res : rs_Ref_thrown) (sz : Nat) (hf : ex_Ref_thrown N o_this = some res) : Met l y_Ref_thrown w_Ref_thrown rm_e_Ref_thrown (va_Pc [.ref a_this] (fun U => U.heap.size = sz ∧ va_P (dC, dI) vcl [cl_Ref a_this x_desk x_shelf x_macros x_sheet x_lines x_view x_job x_shown x_part x_tape x_pages x_shownPages x_seed x_fresh x_xWhat x_xId x_toDo x_toDoId x_bytes1 x_bytes2 o_this] U.heap ∧ va_K (dC, dI) vcl [] U ∧ va_D (fun _ => True) [cl_Ref a_this x_desk x_shelf x_macros x_sheet x_lines x_view x_job x_shown x_part x_tape x_pages x_shownPages x_seed x_fresh x_xWhat x_xId x_toDo x_toDoId x_bytes1 x_bytes2 o_this] ∧ SF tt (va_A [cl_Ref a_this x_desk x_shelf x_macros x_sheet x_lines x_view x_job x_shown x_part x_tape x_pages x_shownPages x_seed x_fresh x_xWhat x_xId x_toDo x_toDoId x_bytes1 x_bytes2 o_this] sz) U U.heap)) (q_e_Ref_thrown dC dI a_this x_desk x_shelf x_macros x_sheet x_lines x_view x_job x_shown x_part x_tape x_pages x_shownPages x_seed x_fresh x_xWhat x_xId x_toDo x_toDoId x_bytes1 x_bytes2 o_this N res (va_A [cl_Ref a_this x_desk x_shelf x_macros x_sheet x_lines x_view x_job x_shown x_part x_tape x_pages x_shownPages x_seed x_fresh x_xWhat x_xId x_toDo x_toDoId x_bytes1 x_bytes2 o_this] sz)) 0 0 (va_A [cl_Ref a_this x_desk x_shelf x_macros x_sheet x_lines x_view x_job x_shown x_part x_tape x_pages x_shownPages x_seed x_fresh x_xWhat x_xId x_toDo x_toDoId x_bytes1 x_bytes2 o_this] sz) := by
  refine Met.ofW (cc := b_Ref_thrown) (maxL := 1) (ret := (some .int)) (by decide) rfl ?_
  intro p e s m args below meth c s₁ B hml hv
  obtain ⟨rfl, hsz, hP, hK, hD0, hF⟩ := hv
  have hx := B.exec
  have hb := B.bytes
  have hr := B.returns
  have hwd : ∀ w ∈ gT, w.before _ s = true := fun w h => atoms_spec (ws := w_Ref_thrown) B.pre w (List.mem_cons_of_mem _ h)
  have hown : s.vm.findClass R_Ref = some m.cls := findClass_of_methodNamed B.named
  have hlocks := B.notSynchronized
  subst hsz
  have hD := hD0.self (sz := s.heap.size)
  generalize hAe : va_A [cl_Ref a_this x_desk x_shelf x_macros x_sheet x_lines x_view x_job x_shown x_part x_tape x_pages x_shownPages x_seed x_fresh x_xWhat x_xId x_toDo x_toDoId x_bytes1 x_bytes2 o_this] s.heap.size = A at hD hF ⊢
  have hA : ∀ q : Nat, s.heap.size ≤ q → A q := fun q h => by rw [← hAe]; exact Or.inr h
  have hS : va_S A s.heap s.heap [] := va_S.rf
  have hP : va_P (dC, dI) vcl [cl_Ref a_this x_desk x_shelf x_macros x_sheet x_lines x_view x_job x_shown x_part x_tape x_pages x_shownPages x_seed x_fresh x_xWhat x_xId x_toDo x_toDoId x_bytes1 x_bytes2 o_this] s.heap := hP
  have hl := lv_entry ([.ref a_this]) (n := 1) (Nat.le_of_ble_eq_true rfl)
  rw [lg_entry_eq]
  generalize (lg_sl ([.ref a_this]) ++ List.replicate (1 - (lg_sl ([.ref a_this])).length) Slot.unset).toArray = ls at hl ⊢
  have hl : lv_has ls 1 [(0, .ref a_this)] := hl
  unfold ex_Ref_thrown at hf
  refine lv_aload_n hx hb d_Ref_thrown_0 rfl (lv_at hl 0 rfl) ?_
  refine va_get (D := (dC, dI)) (ci := 1) (v := .int (fd_Ref_thrown o_this)) (C := R_Ref) (T := F_Ref) (N := 47) hx hb hwd i_Ref hown hK hP 0 rfl rfl 0 (by decide) (hwd _ wd_11_138) (fun _ h9 => h9) rfl d_Ref_thrown_1 ?_
  obtain rfl := Option.some.inj hf
  have hP9 : va_P (dC, dI) vcl [cl_Ref a_this x_desk x_shelf x_macros x_sheet x_lines x_view x_job x_shown x_part x_tape x_pages x_shownPages x_seed x_fresh x_xWhat x_xId x_toDo x_toDoId x_bytes1 x_bytes2 o_this] _ := hP.sub [0] rfl
  have hD9 : va_D A [cl_Ref a_this x_desk x_shelf x_macros x_sheet x_lines x_view x_job x_shown x_part x_tape x_pages x_shownPages x_seed x_fresh x_xWhat x_xId x_toDo x_toDoId x_bytes1 x_bytes2 o_this] := hD.sub [0] (by decide) rfl
  have hK9 : va_K (dC, dI) vcl [] s := hK.sub [] rfl
  exact W.iret (v := fd_Ref_thrown o_this) hx hb hr (fun t ht hW => ⟨⟨(fd_Ref_thrown o_this), (), rfl, rfl, by rw [ht]; exact hP9, va_K.moved hW.alike hK9, hD9⟩, hS.F ht⟩) hS.2.2 d_Ref_thrown_4
