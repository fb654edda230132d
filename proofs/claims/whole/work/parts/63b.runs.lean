


abbrev at_e_LineReader_addRuns_WHITE_RESTS_WHITE_BLOCKS (dC : Nat → ClassId) (dI : Nat → Nat → Nat) (a_this : Nat) (x_bytes : Value) (x_above : Value) (x_line : Value) (o_this : ob_LineReader) (a_tree : Nat) (k_tree : ClassId) (g_tree : Nat → Int32) (N : Nat) (v0 : Int32) (res : rs_LineReader_addRuns_WHITE_RESTS_WHITE_BLOCKS) (A : Nat → Prop) (u : Unit) (t : State) : Prop := match u with
  | _ => va_P (dC, dI) vcl [cl_LineReader a_this (.ref a_tree) x_bytes x_above x_line res.1, (a_tree, .inl (k_tree, 1024, .inl res.2))] t.heap ∧ va_K (dC, dI) vcl [(k_tree, .int)] t ∧ va_D A [cl_LineReader a_this (.ref a_tree) x_bytes x_above x_line res.1, (a_tree, .inl (k_tree, 1024, .inl res.2))]
abbrev po_e_LineReader_addRuns_WHITE_RESTS_WHITE_BLOCKS (a_this : Nat) (x_bytes : Value) (x_above : Value) (x_line : Value) (o_this : ob_LineReader) (a_tree : Nat) (k_tree : ClassId) (g_tree : Nat → Int32) (N : Nat) (v0 : Int32) (res : rs_LineReader_addRuns_WHITE_RESTS_WHITE_BLOCKS) (u : Unit) : Prop := match u with
  | _ => True
abbrev q_e_LineReader_addRuns_WHITE_RESTS_WHITE_BLOCKS (dC : Nat → ClassId) (dI : Nat → Nat → Nat) (a_this : Nat) (x_bytes : Value) (x_above : Value) (x_line : Value) (o_this : ob_LineReader) (a_tree : Nat) (k_tree : ClassId) (g_tree : Nat → Int32) (N : Nat) (v0 : Int32) (res : rs_LineReader_addRuns_WHITE_RESTS_WHITE_BLOCKS) (A : Nat → Prop) : Array Value → State → Outcome → State → Prop := va_Qv (po_e_LineReader_addRuns_WHITE_RESTS_WHITE_BLOCKS a_this x_bytes x_above x_line o_this a_tree k_tree g_tree N v0 res) (at_e_LineReader_addRuns_WHITE_RESTS_WHITE_BLOCKS dC dI a_this x_bytes x_above x_line o_this a_tree k_tree g_tree N v0 res A) A
abbrev rm_e_LineReader_addRuns_WHITE_RESTS_WHITE_BLOCKS : Room := { frames := 2, cells := 0, slots := 0, locals := 48 }
set_option maxHeartbeats 4000000 in
set_option maxRecDepth 100000 in
theorem e_LineReader_addRuns_WHITE_RESTS_WHITE_BLOCKS (l : Launch) (dC : Nat → ClassId) (dI : Nat → Nat → Nat) (tt : Nat → Nat) (a_this : Nat) (x_bytes : Value) (x_above : Value) (x_line : Value) (o_this : ob_LineReader) (a_tree : Nat) (k_tree : ClassId) (g_tree : Nat → Int32) (N : Nat) (v0 : Int32) (res : rs_LineReader_addRuns_WHITE_RESTS_WHITE_BLOCKS) (sz : Nat) (hf : ex_LineReader_addRuns_WHITE_RESTS_WHITE_BLOCKS N o_this g_tree v0 = some res) : Met l y_LineReader_addRuns w_LineReader_addRuns rm_e_LineReader_addRuns_WHITE_RESTS_WHITE_BLOCKS (va_Pc [.ref a_this, .int v0, .ref (tt 8), .ref (tt 9)] (fun U => U.heap.size = sz ∧ va_P (dC, dI) vcl [cl_LineReader a_this (.ref a_tree) x_bytes x_above x_line o_this, (a_tree, .inl (k_tree, 1024, .inl g_tree))] U.heap ∧ va_K (dC, dI) vcl [(k_tree, .int)] U ∧ va_D (fun _ => True) [cl_LineReader a_this (.ref a_tree) x_bytes x_above x_line o_this, (a_tree, .inl (k_tree, 1024, .inl g_tree))] ∧ SF tt (va_A [cl_LineReader a_this (.ref a_tree) x_bytes x_above x_line o_this, (a_tree, .inl (k_tree, 1024, .inl g_tree))] sz) U U.heap)) (q_e_LineReader_addRuns_WHITE_RESTS_WHITE_BLOCKS dC dI a_this x_bytes x_above x_line o_this a_tree k_tree g_tree N v0 res (va_A [cl_LineReader a_this (.ref a_tree) x_bytes x_above x_line o_this, (a_tree, .inl (k_tree, 1024, .inl g_tree))] sz)) 0 0 (va_A [cl_LineReader a_this (.ref a_tree) x_bytes x_above x_line o_this, (a_tree, .inl (k_tree, 1024, .inl g_tree))] sz) := by
  refine Met.ofW (cc := b_LineReader_addRuns) (maxL := 5) (ret := none) (by decide) rfl ?_
  intro p e s m args below meth c s₁ B hml hv
  obtain ⟨rfl, hsz, hP, hK, hD0, hF⟩ := hv
  have hx := B.exec
  have hb := B.bytes
  have hr := B.returns
  have hwd : ∀ w ∈ gT, w.before _ s = true := fun w h => atoms_spec (ws := w_LineReader_addRuns) B.pre w (List.mem_cons_of_mem _ h)
  have hown : s.vm.findClass R_LineReader = some m.cls := findClass_of_methodNamed B.named
  have hlocks := B.notSynchronized
  subst hsz
  have hD := hD0.self (sz := s.heap.size)
  generalize hAe : va_A [cl_LineReader a_this (.ref a_tree) x_bytes x_above x_line o_this, (a_tree, .inl (k_tree, 1024, .inl g_tree))] s.heap.size = A at hD hF ⊢
  have hA : ∀ q : Nat, s.heap.size ≤ q → A q := fun q h => by rw [← hAe]; exact Or.inr h
  have hS : va_S A s.heap s.heap [] := va_S.rf
  have hP : va_P (dC, dI) vcl [cl_LineReader a_this (.ref a_tree) x_bytes x_above x_line o_this, (a_tree, .inl (k_tree, 1024, .inl g_tree))] s.heap := hP
  have hl := lv_entry ([.ref a_this, .int v0, .ref (tt 8), .ref (tt 9)]) (n := 5) (Nat.le_of_ble_eq_true rfl)
  rw [lg_entry_eq]
  generalize (lg_sl ([.ref a_this, .int v0, .ref (tt 8), .ref (tt 9)]) ++ List.replicate (5 - (lg_sl ([.ref a_this, .int v0, .ref (tt 8), .ref (tt 9)])).length) Slot.unset).toArray = ls at hl ⊢
  have hl : lv_has ls 5 [(0, .ref a_this), (1, .int v0), (2, .ref (tt 8)), (3, .ref (tt 9))] := hl
  unfold ex_LineReader_addRuns_WHITE_RESTS_WHITE_BLOCKS at hf
  refine lv_iconst (v := 0) hx hb d_LineReader_addRuns_0 (by decide) ?_
  refine lv_istore hx hb d_LineReader_addRuns_1 hl (by decide) rfl ?_
  clear hl
  intro ls hl
  replace hl : lv_has ls 5 [(4, .int 0), (0, .ref a_this), (1, .int v0), (2, .ref (tt 8)), (3, .ref (tt 9))] := hl
  have cut3 : ∀ (n : Nat) (w4_4 : Int32) (o_5 : ob_LineReader) (g_6 : Nat → Int32) (out_13 : ob_LineReader × (Nat → Int32)), lp_LineReader_addRuns_WHITE_RESTS_WHITE_BLOCKS_3 N v0 n w4_4 o_5 g_6 = some out_13 → (∀ (H : Heap) (locs : List Loc) (ls : Array Slot), va_K (dC, dI) vcl [(k_tree, .int)] s → va_P (dC, dI) vcl [cl_LineReader a_this (.ref a_tree) x_bytes x_above x_line out_13.1, (a_tree, .inl (k_tree, 1024, .inl out_13.2))] H → va_D A [cl_LineReader a_this (.ref a_tree) x_bytes x_above x_line out_13.1, (a_tree, .inl (k_tree, 1024, .inl out_13.2))] → va_S A s.heap H locs → lv_has ls 5 [(0, .ref a_this), (1, .int v0), (3, .ref (tt 9))] → W p l e (headSpec w_LineReader_addRuns rm_e_LineReader_addRuns_WHITE_RESTS_WHITE_BLOCKS).room s m (List.toArray [.ref a_this, .int v0, .ref (tt 8), .ref (tt 9)]) below meth c H locs 0 0 (MQ below (q_e_LineReader_addRuns_WHITE_RESTS_WHITE_BLOCKS dC dI a_this x_bytes x_above x_line o_this a_tree k_tree g_tree N v0 res A) (List.toArray [.ref a_this, .int v0, .ref (tt 8), .ref (tt 9)]) s 0 0 A) (F0 m 27 ls [])) → ∀ (H : Heap) (locs : List Loc) (ls : Array Slot), va_K (dC, dI) vcl [(k_tree, .int)] s → va_P (dC, dI) vcl [cl_LineReader a_this (.ref a_tree) x_bytes x_above x_line o_5, (a_tree, .inl (k_tree, 1024, .inl g_6))] H → va_D A [cl_LineReader a_this (.ref a_tree) x_bytes x_above x_line o_5, (a_tree, .inl (k_tree, 1024, .inl g_6))] → va_S A s.heap H locs → lv_has ls 5 [(4, .int w4_4), (0, .ref a_this), (1, .int v0), (2, .ref (tt 8)), (3, .ref (tt 9))] → W p l e (headSpec w_LineReader_addRuns rm_e_LineReader_addRuns_WHITE_RESTS_WHITE_BLOCKS).room s m (List.toArray [.ref a_this, .int v0, .ref (tt 8), .ref (tt 9)]) below meth c H locs 0 0 (MQ below (q_e_LineReader_addRuns_WHITE_RESTS_WHITE_BLOCKS dC dI a_this x_bytes x_above x_line o_this a_tree k_tree g_tree N v0 res A) (List.toArray [.ref a_this, .int v0, .ref (tt 8), .ref (tt 9)]) s 0 0 A) (F0 m 3 ls []) := by
    intro n
    induction n with
    | zero =>
      intro w4_4 o_5 g_6 out_13 hf
      exact nomatch (show (none : Option (ob_LineReader × (Nat → Int32))) = some out_13 from hf)
    | succ n ih =>
      intro w4_4 o_5 g_6 out_13 hf hk H locs ls hK hP hD hS hl
      rw [lp_LineReader_addRuns_WHITE_RESTS_WHITE_BLOCKS_3] at hf
      refine lv_iload hx hb d_LineReader_addRuns_3 (lv_at hl 0 rfl) ?_
      refine lv_aload_n hx hb d_LineReader_addRuns_5 rfl (lv_at hl 3 rfl) ?_
      refine va_tlen (v := 64) hx hb (SF_p8 hF).2 hS rfl d_LineReader_addRuns_6 ?_
      refine lv_icmp_ge (tgt := 27) hx hb d_LineReader_addRuns_7 (by decide) (fun c7 => ?_) (fun c7 => ?_)
      · replace hf := dk_pos c7 hf
        obtain rfl := Option.some.inj hf
        exact hk  _ _ _ hK hP hD hS (lv_sub hl [1, 2, 4] rfl)
      · replace hf := dk_neg c7 hf
        refine lv_aload_n hx hb d_LineReader_addRuns_10 rfl (lv_at hl 1 rfl) ?_
        refine lv_iload_n hx hb d_LineReader_addRuns_11 rfl (lv_at hl 2 rfl) ?_
        refine lv_aload_n hx hb d_LineReader_addRuns_12 rfl (lv_at hl 3 rfl) ?_
        refine lv_iload hx hb d_LineReader_addRuns_13 (lv_at hl 0 rfl) ?_
        obtain ⟨hg_14, hf⟩ := dk_grd hf
        refine va_ti (v := .int (tb_Coder_WHITE_RESTS w4_4.toNatClampNeg)) hx hb (SF_p8 hF).2 hS hg_14 rfl d_LineReader_addRuns_15 ?_
        refine lv_iload hx hb d_LineReader_addRuns_16 (lv_at hl 0 rfl) ?_
        obtain ⟨u_15, hu_15, hf⟩ := dk_bind hf
        have hPc : va_P (dC, dI) vcl [cl_LineReader a_this (.ref a_tree) x_bytes x_above x_line o_5, (a_tree, .inl (k_tree, 1024, .inl g_6))] _ := hP.sub [0, 1] rfl
        have hDc : va_D A [cl_LineReader a_this (.ref a_tree) x_bytes x_above x_line o_5, (a_tree, .inl (k_tree, 1024, .inl g_6))] := hD.sub [0, 1] (by decide) rfl
        have hKc : va_K (dC, dI) vcl [(k_tree, .int)] s := hK.sub [0] rfl
        have hFc := va_free (wc := [cl_LineReader a_this (.ref a_tree) x_bytes x_above x_line o_5, (a_tree, .inl (k_tree, 1024, .inl g_6))]) hD hS hA [0, 1] rfl
        refine va_callv (va_runV (As := [.int v0, .int (tb_Coder_WHITE_RESTS w4_4.toNatClampNeg), .int w4_4]) (rest := []) ⟨hx, hb, hml, hown, hwd⟩ (e_LineReader_addWord l dC dI tt a_this x_bytes x_above x_line o_5 a_tree k_tree g_6 N v0 (tb_Coder_WHITE_RESTS w4_4.toNatClampNeg) w4_4 u_15 H.size (hu_15)) (cwV 3 hwd (gV gd_LineReader_addWord wd_4_46 wd_4_48 ws_19 wd_1_15) rfl rfl rfl (by decide +kernel) ⟨Nat.le_of_ble_eq_true rfl, Nat.le_of_ble_eq_true rfl⟩) ⟨fun a U g mk q => by obtain ⟨q0, q1, qP, qK, qD, qF⟩ := q; exact ⟨q0, q1, qP, va_K.moved (u := U) (U := U.calling g mk a) (Vm.Alike.refl U.vm) qK, qD, SF.same (u := U) (U := U.calling g mk a) rfl qF⟩, va_recv hKc hPc (ci := 5) (q0 := 0) rfl rfl, fun U hU hW => ⟨rfl, by rw [hU], by rw [hU]; exact hPc, va_K.moved hW.alike hKc, hDc.weaken (fun _ _ _ _ => trivial), by rw [hU]; exact SF.narrow (SF.moved hW (SF.kept hF (fun a h1 h2 => hS.2.1 a h1 h2))) hFc⟩⟩ rfl rfl hl.1 rfl (lv_room (Nat.le_of_ble_eq_true rfl)) d_LineReader_addRuns_18 ⟨Nat.le_of_ble_eq_true rfl, Nat.le_of_ble_eq_true rfl⟩) hS (fun q _ h => hFc q h) hFc ?_
        clear hPc hDc hKc hS
        intro u_17 t H1 locs ht hvm hw hB hz1 hk1 hS
        obtain ⟨hP1, hK1, hD1⟩ := hB
        rw [ht] at hP1
        have hK1 := va_K.moved hvm.symm hK1
        try dsimp only at hw
        have hJ := va_join (wr := []) (w1 := [cl_LineReader a_this (.ref a_tree) x_bytes x_above x_line u_15.1, (a_tree, .inl (k_tree, 1024, .inl u_15.2))]) hP hD [0, 1] [] rfl rfl (by decide) (by decide) hk1 hFc hP1 hD1
        clear hP hD hk1 hFc hP1 hD1 hz1
        obtain ⟨hP, hD⟩ := hJ
        clear hK1 ht hvm
        generalize H1 = H at hP hS ⊢
        replace hP : va_P (dC, dI) vcl [cl_LineReader a_this (.ref a_tree) x_bytes x_above x_line u_15.1, (a_tree, .inl (k_tree, 1024, .inl u_15.2))] H := hP
        replace hD : va_D A [cl_LineReader a_this (.ref a_tree) x_bytes x_above x_line u_15.1, (a_tree, .inl (k_tree, 1024, .inl u_15.2))] := hD
        refine lv_iinc (v := w4_4 + 1) hx hb d_LineReader_addRuns_21 hl (k := 0) rfl rfl (by decide) rfl ?_
        clear hl
        intro ls hl
        replace hl : lv_has ls 5 [(4, .int (w4_4 + 1)), (0, .ref a_this), (1, .int v0), (2, .ref (tt 8)), (3, .ref (tt 9))] := hl
        refine lv_goto (tgt := 3) hx hb d_LineReader_addRuns_24 (by decide) ?_
        exact ih (w4_4 + 1) u_15.1 u_15.2  out_13 hf hk _ _ _ hK hP hD hS hl
  obtain ⟨out_13, ho, hf⟩ := dk_bind hf
  refine cut3 N (0 : Int32) o_this g_tree  out_13 ho ?_ _ _ _ hK hP hD hS hl
  clear cut3 hK hP hD hS hl ho
  intro  H locs ls hK hP hD hS hl
  refine lv_iconst (v := 0) hx hb d_LineReader_addRuns_27 (by decide) ?_
  refine lv_istore hx hb d_LineReader_addRuns_28 hl (by decide) rfl ?_
  clear hl
  intro ls hl
  replace hl : lv_has ls 5 [(4, .int 0), (0, .ref a_this), (1, .int v0), (3, .ref (tt 9))] := hl
  have cut30 : ∀ (n : Nat) (w4_23 : Int32) (o_24 : ob_LineReader) (g_25 : Nat → Int32) (out_32 : ob_LineReader × (Nat → Int32)), lp_LineReader_addRuns_WHITE_RESTS_WHITE_BLOCKS_30c2 N v0 n w4_23 o_24 g_25 = some out_32 → (∀ (H : Heap) (locs : List Loc) (ls : Array Slot), va_K (dC, dI) vcl [(k_tree, .int)] s → va_P (dC, dI) vcl [cl_LineReader a_this (.ref a_tree) x_bytes x_above x_line out_32.1, (a_tree, .inl (k_tree, 1024, .inl out_32.2))] H → va_D A [cl_LineReader a_this (.ref a_tree) x_bytes x_above x_line out_32.1, (a_tree, .inl (k_tree, 1024, .inl out_32.2))] → va_S A s.heap H locs → lv_has ls 5 [(0, .ref a_this), (1, .int v0)] → W p l e (headSpec w_LineReader_addRuns rm_e_LineReader_addRuns_WHITE_RESTS_WHITE_BLOCKS).room s m (List.toArray [.ref a_this, .int v0, .ref (tt 8), .ref (tt 9)]) below meth c H locs 0 0 (MQ below (q_e_LineReader_addRuns_WHITE_RESTS_WHITE_BLOCKS dC dI a_this x_bytes x_above x_line o_this a_tree k_tree g_tree N v0 res A) (List.toArray [.ref a_this, .int v0, .ref (tt 8), .ref (tt 9)]) s 0 0 A) (F0 m 60 ls [])) → ∀ (H : Heap) (locs : List Loc) (ls : Array Slot), va_K (dC, dI) vcl [(k_tree, .int)] s → va_P (dC, dI) vcl [cl_LineReader a_this (.ref a_tree) x_bytes x_above x_line o_24, (a_tree, .inl (k_tree, 1024, .inl g_25))] H → va_D A [cl_LineReader a_this (.ref a_tree) x_bytes x_above x_line o_24, (a_tree, .inl (k_tree, 1024, .inl g_25))] → va_S A s.heap H locs → lv_has ls 5 [(4, .int w4_23), (0, .ref a_this), (1, .int v0), (3, .ref (tt 9))] → W p l e (headSpec w_LineReader_addRuns rm_e_LineReader_addRuns_WHITE_RESTS_WHITE_BLOCKS).room s m (List.toArray [.ref a_this, .int v0, .ref (tt 8), .ref (tt 9)]) below meth c H locs 0 0 (MQ below (q_e_LineReader_addRuns_WHITE_RESTS_WHITE_BLOCKS dC dI a_this x_bytes x_above x_line o_this a_tree k_tree g_tree N v0 res A) (List.toArray [.ref a_this, .int v0, .ref (tt 8), .ref (tt 9)]) s 0 0 A) (F0 m 30 ls []) := by
    intro n
    induction n with
    | zero =>
      intro w4_23 o_24 g_25 out_32 hf
      exact nomatch (show (none : Option (ob_LineReader × (Nat → Int32))) = some out_32 from hf)
    | succ n ih =>
      intro w4_23 o_24 g_25 out_32 hf hk H locs ls hK hP hD hS hl
      rw [lp_LineReader_addRuns_WHITE_RESTS_WHITE_BLOCKS_30c2] at hf
      refine lv_iload hx hb d_LineReader_addRuns_30 (lv_at hl 0 rfl) ?_
      refine lv_aload_n hx hb d_LineReader_addRuns_32 rfl (lv_at hl 3 rfl) ?_
      refine va_tlen (v := 27) hx hb (SF_p9 hF).2 hS rfl d_LineReader_addRuns_33 ?_
      refine lv_icmp_ge (tgt := 60) hx hb d_LineReader_addRuns_34 (by decide) (fun c34 => ?_) (fun c34 => ?_)
      · replace hf := dk_pos c34 hf
        obtain rfl := Option.some.inj hf
        exact hk  _ _ _ hK hP hD hS (lv_sub hl [1, 2] rfl)
      · replace hf := dk_neg c34 hf
        refine lv_aload_n hx hb d_LineReader_addRuns_37 rfl (lv_at hl 1 rfl) ?_
        refine lv_iload_n hx hb d_LineReader_addRuns_38 rfl (lv_at hl 2 rfl) ?_
        refine lv_aload_n hx hb d_LineReader_addRuns_39 rfl (lv_at hl 3 rfl) ?_
        refine lv_iload hx hb d_LineReader_addRuns_40 (lv_at hl 0 rfl) ?_
        obtain ⟨hg_33, hf⟩ := dk_grd hf
        refine va_ti (v := .int (tb_Coder_WHITE_BLOCKS w4_23.toNatClampNeg)) hx hb (SF_p9 hF).2 hS hg_33 rfl d_LineReader_addRuns_42 ?_
        refine lv_bipush (v := 64) hx hb d_LineReader_addRuns_43 (by decide) ?_
        refine lv_bipush (v := 64) hx hb d_LineReader_addRuns_45 (by decide) ?_
        refine lv_iload hx hb d_LineReader_addRuns_47 (lv_at hl 0 rfl) ?_
        refine lv_imul hx hb d_LineReader_addRuns_49 ?_
        refine lv_iadd hx hb d_LineReader_addRuns_50 ?_
        obtain ⟨u_34, hu_34, hf⟩ := dk_bind hf
        have hPc : va_P (dC, dI) vcl [cl_LineReader a_this (.ref a_tree) x_bytes x_above x_line o_24, (a_tree, .inl (k_tree, 1024, .inl g_25))] _ := hP.sub [0, 1] rfl
        have hDc : va_D A [cl_LineReader a_this (.ref a_tree) x_bytes x_above x_line o_24, (a_tree, .inl (k_tree, 1024, .inl g_25))] := hD.sub [0, 1] (by decide) rfl
        have hKc : va_K (dC, dI) vcl [(k_tree, .int)] s := hK.sub [0] rfl
        have hFc := va_free (wc := [cl_LineReader a_this (.ref a_tree) x_bytes x_above x_line o_24, (a_tree, .inl (k_tree, 1024, .inl g_25))]) hD hS hA [0, 1] rfl
        refine va_callv (va_runV (As := [.int v0, .int (tb_Coder_WHITE_BLOCKS w4_23.toNatClampNeg), .int (64 + (64 * w4_23))]) (rest := []) ⟨hx, hb, hml, hown, hwd⟩ (e_LineReader_addWord l dC dI tt a_this x_bytes x_above x_line o_24 a_tree k_tree g_25 N v0 (tb_Coder_WHITE_BLOCKS w4_23.toNatClampNeg) (64 + (64 * w4_23)) u_34 H.size (hu_34)) (cwV 3 hwd (gV gd_LineReader_addWord wd_4_46 wd_4_48 ws_19 wd_1_15) rfl rfl rfl (by decide +kernel) ⟨Nat.le_of_ble_eq_true rfl, Nat.le_of_ble_eq_true rfl⟩) ⟨fun a U g mk q => by obtain ⟨q0, q1, qP, qK, qD, qF⟩ := q; exact ⟨q0, q1, qP, va_K.moved (u := U) (U := U.calling g mk a) (Vm.Alike.refl U.vm) qK, qD, SF.same (u := U) (U := U.calling g mk a) rfl qF⟩, va_recv hKc hPc (ci := 5) (q0 := 0) rfl rfl, fun U hU hW => ⟨rfl, by rw [hU], by rw [hU]; exact hPc, va_K.moved hW.alike hKc, hDc.weaken (fun _ _ _ _ => trivial), by rw [hU]; exact SF.narrow (SF.moved hW (SF.kept hF (fun a h1 h2 => hS.2.1 a h1 h2))) hFc⟩⟩ rfl rfl hl.1 rfl (lv_room (Nat.le_of_ble_eq_true rfl)) d_LineReader_addRuns_51 ⟨Nat.le_of_ble_eq_true rfl, Nat.le_of_ble_eq_true rfl⟩) hS (fun q _ h => hFc q h) hFc ?_
        clear hPc hDc hKc hS
        intro u_36 t H1 locs ht hvm hw hB hz1 hk1 hS
        obtain ⟨hP1, hK1, hD1⟩ := hB
        rw [ht] at hP1
        have hK1 := va_K.moved hvm.symm hK1
        try dsimp only at hw
        have hJ := va_join (wr := []) (w1 := [cl_LineReader a_this (.ref a_tree) x_bytes x_above x_line u_34.1, (a_tree, .inl (k_tree, 1024, .inl u_34.2))]) hP hD [0, 1] [] rfl rfl (by decide) (by decide) hk1 hFc hP1 hD1
        clear hP hD hk1 hFc hP1 hD1 hz1
        obtain ⟨hP, hD⟩ := hJ
        clear hK1 ht hvm
        generalize H1 = H at hP hS ⊢
        replace hP : va_P (dC, dI) vcl [cl_LineReader a_this (.ref a_tree) x_bytes x_above x_line u_34.1, (a_tree, .inl (k_tree, 1024, .inl u_34.2))] H := hP
        replace hD : va_D A [cl_LineReader a_this (.ref a_tree) x_bytes x_above x_line u_34.1, (a_tree, .inl (k_tree, 1024, .inl u_34.2))] := hD
        refine lv_iinc (v := w4_23 + 1) hx hb d_LineReader_addRuns_54 hl (k := 0) rfl rfl (by decide) rfl ?_
        clear hl
        intro ls hl
        replace hl : lv_has ls 5 [(4, .int (w4_23 + 1)), (0, .ref a_this), (1, .int v0), (3, .ref (tt 9))] := hl
        refine lv_goto (tgt := 30) hx hb d_LineReader_addRuns_57 (by decide) ?_
        exact ih (w4_23 + 1) u_34.1 u_34.2  out_32 hf hk _ _ _ hK hP hD hS hl
  obtain ⟨out_32, ho, hf⟩ := dk_bind hf
  refine cut30 N (0 : Int32) out_13.1 out_13.2  out_32 ho ?_ _ _ _ hK hP hD hS hl
  clear cut30 hK hP hD hS hl ho
  intro  H locs ls hK hP hD hS hl
  refine lv_iconst (v := 0) hx hb d_LineReader_addRuns_60 (by decide) ?_
  refine lv_istore hx hb d_LineReader_addRuns_61 hl (by decide) rfl ?_
  clear hl
  intro ls hl
  replace hl : lv_has ls 5 [(4, .int 0), (0, .ref a_this), (1, .int v0)] := hl
  have cut63 : ∀ (n : Nat) (w4_42 : Int32) (o_43 : ob_LineReader) (g_44 : Nat → Int32) (out_51 : ob_LineReader × (Nat → Int32)), lp_LineReader_addRuns_WHITE_RESTS_WHITE_BLOCKS_63d3 N v0 n w4_42 o_43 g_44 = some out_51 → (∀ (H : Heap) (locs : List Loc) (ls : Array Slot), va_K (dC, dI) vcl [(k_tree, .int)] s → va_P (dC, dI) vcl [cl_LineReader a_this (.ref a_tree) x_bytes x_above x_line out_51.1, (a_tree, .inl (k_tree, 1024, .inl out_51.2))] H → va_D A [cl_LineReader a_this (.ref a_tree) x_bytes x_above x_line out_51.1, (a_tree, .inl (k_tree, 1024, .inl out_51.2))] → va_S A s.heap H locs → lv_has ls 5 [] → W p l e (headSpec w_LineReader_addRuns rm_e_LineReader_addRuns_WHITE_RESTS_WHITE_BLOCKS).room s m (List.toArray [.ref a_this, .int v0, .ref (tt 8), .ref (tt 9)]) below meth c H locs 0 0 (MQ below (q_e_LineReader_addRuns_WHITE_RESTS_WHITE_BLOCKS dC dI a_this x_bytes x_above x_line o_this a_tree k_tree g_tree N v0 res A) (List.toArray [.ref a_this, .int v0, .ref (tt 8), .ref (tt 9)]) s 0 0 A) (F0 m 98 ls [])) → ∀ (H : Heap) (locs : List Loc) (ls : Array Slot), va_K (dC, dI) vcl [(k_tree, .int)] s → va_P (dC, dI) vcl [cl_LineReader a_this (.ref a_tree) x_bytes x_above x_line o_43, (a_tree, .inl (k_tree, 1024, .inl g_44))] H → va_D A [cl_LineReader a_this (.ref a_tree) x_bytes x_above x_line o_43, (a_tree, .inl (k_tree, 1024, .inl g_44))] → va_S A s.heap H locs → lv_has ls 5 [(4, .int w4_42), (0, .ref a_this), (1, .int v0)] → W p l e (headSpec w_LineReader_addRuns rm_e_LineReader_addRuns_WHITE_RESTS_WHITE_BLOCKS).room s m (List.toArray [.ref a_this, .int v0, .ref (tt 8), .ref (tt 9)]) below meth c H locs 0 0 (MQ below (q_e_LineReader_addRuns_WHITE_RESTS_WHITE_BLOCKS dC dI a_this x_bytes x_above x_line o_this a_tree k_tree g_tree N v0 res A) (List.toArray [.ref a_this, .int v0, .ref (tt 8), .ref (tt 9)]) s 0 0 A) (F0 m 63 ls []) := by
    intro n
    induction n with
    | zero =>
      intro w4_42 o_43 g_44 out_51 hf
      exact nomatch (show (none : Option (ob_LineReader × (Nat → Int32))) = some out_51 from hf)
    | succ n ih =>
      intro w4_42 o_43 g_44 out_51 hf hk H locs ls hK hP hD hS hl
      rw [lp_LineReader_addRuns_WHITE_RESTS_WHITE_BLOCKS_63d3] at hf
      refine lv_iload hx hb d_LineReader_addRuns_63 (lv_at hl 0 rfl) ?_
      refine va_gets hx hb (SF_p10 hF).1 hS hown (hwd _ wd_4_64) (fun _ h9 => h9) d_LineReader_addRuns_65 ?_
      refine va_tlen (v := 13) hx hb (SF_p10 hF).2 hS rfl d_LineReader_addRuns_68 ?_
      refine lv_icmp_ge (tgt := 98) hx hb d_LineReader_addRuns_69 (by decide) (fun c69 => ?_) (fun c69 => ?_)
      · replace hf := dk_pos c69 hf
        obtain rfl := Option.some.inj hf
        exact hk  _ _ _ hK hP hD hS (lv_sub hl [] rfl)
      · replace hf := dk_neg c69 hf
        refine lv_aload_n hx hb d_LineReader_addRuns_72 rfl (lv_at hl 1 rfl) ?_
        refine lv_iload_n hx hb d_LineReader_addRuns_73 rfl (lv_at hl 2 rfl) ?_
        refine va_gets hx hb (SF_p10 hF).1 hS hown (hwd _ wd_4_64) (fun _ h9 => h9) d_LineReader_addRuns_74 ?_
        refine lv_iload hx hb d_LineReader_addRuns_77 (lv_at hl 0 rfl) ?_
        obtain ⟨hg_52, hf⟩ := dk_grd hf
        refine va_ti (v := .int (tb_Coder_LONG_BLOCKS w4_42.toNatClampNeg)) hx hb (SF_p10 hF).2 hS hg_52 rfl d_LineReader_addRuns_79 ?_
        refine lv_sipush (v := 1792) hx hb d_LineReader_addRuns_80 (by decide) ?_
        refine lv_bipush (v := 64) hx hb d_LineReader_addRuns_83 (by decide) ?_
        refine lv_iload hx hb d_LineReader_addRuns_85 (lv_at hl 0 rfl) ?_
        refine lv_imul hx hb d_LineReader_addRuns_87 ?_
        refine lv_iadd hx hb d_LineReader_addRuns_88 ?_
        obtain ⟨u_53, hu_53, hf⟩ := dk_bind hf
        have hPc : va_P (dC, dI) vcl [cl_LineReader a_this (.ref a_tree) x_bytes x_above x_line o_43, (a_tree, .inl (k_tree, 1024, .inl g_44))] _ := hP.sub [0, 1] rfl
        have hDc : va_D A [cl_LineReader a_this (.ref a_tree) x_bytes x_above x_line o_43, (a_tree, .inl (k_tree, 1024, .inl g_44))] := hD.sub [0, 1] (by decide) rfl
        have hKc : va_K (dC, dI) vcl [(k_tree, .int)] s := hK.sub [0] rfl
        have hFc := va_free (wc := [cl_LineReader a_this (.ref a_tree) x_bytes x_above x_line o_43, (a_tree, .inl (k_tree, 1024, .inl g_44))]) hD hS hA [0, 1] rfl
        refine va_callv (va_runV (As := [.int v0, .int (tb_Coder_LONG_BLOCKS w4_42.toNatClampNeg), .int (1792 + (64 * w4_42))]) (rest := []) ⟨hx, hb, hml, hown, hwd⟩ (e_LineReader_addWord l dC dI tt a_this x_bytes x_above x_line o_43 a_tree k_tree g_44 N v0 (tb_Coder_LONG_BLOCKS w4_42.toNatClampNeg) (1792 + (64 * w4_42)) u_53 H.size (hu_53)) (cwV 3 hwd (gV gd_LineReader_addWord wd_4_46 wd_4_48 ws_19 wd_1_15) rfl rfl rfl (by decide +kernel) ⟨Nat.le_of_ble_eq_true rfl, Nat.le_of_ble_eq_true rfl⟩) ⟨fun a U g mk q => by obtain ⟨q0, q1, qP, qK, qD, qF⟩ := q; exact ⟨q0, q1, qP, va_K.moved (u := U) (U := U.calling g mk a) (Vm.Alike.refl U.vm) qK, qD, SF.same (u := U) (U := U.calling g mk a) rfl qF⟩, va_recv hKc hPc (ci := 5) (q0 := 0) rfl rfl, fun U hU hW => ⟨rfl, by rw [hU], by rw [hU]; exact hPc, va_K.moved hW.alike hKc, hDc.weaken (fun _ _ _ _ => trivial), by rw [hU]; exact SF.narrow (SF.moved hW (SF.kept hF (fun a h1 h2 => hS.2.1 a h1 h2))) hFc⟩⟩ rfl rfl hl.1 rfl (lv_room (Nat.le_of_ble_eq_true rfl)) d_LineReader_addRuns_89 ⟨Nat.le_of_ble_eq_true rfl, Nat.le_of_ble_eq_true rfl⟩) hS (fun q _ h => hFc q h) hFc ?_
        clear hPc hDc hKc hS
        intro u_55 t H1 locs ht hvm hw hB hz1 hk1 hS
        obtain ⟨hP1, hK1, hD1⟩ := hB
        rw [ht] at hP1
        have hK1 := va_K.moved hvm.symm hK1
        try dsimp only at hw
        have hJ := va_join (wr := []) (w1 := [cl_LineReader a_this (.ref a_tree) x_bytes x_above x_line u_53.1, (a_tree, .inl (k_tree, 1024, .inl u_53.2))]) hP hD [0, 1] [] rfl rfl (by decide) (by decide) hk1 hFc hP1 hD1
        clear hP hD hk1 hFc hP1 hD1 hz1
        obtain ⟨hP, hD⟩ := hJ
        clear hK1 ht hvm
        generalize H1 = H at hP hS ⊢
        replace hP : va_P (dC, dI) vcl [cl_LineReader a_this (.ref a_tree) x_bytes x_above x_line u_53.1, (a_tree, .inl (k_tree, 1024, .inl u_53.2))] H := hP
        replace hD : va_D A [cl_LineReader a_this (.ref a_tree) x_bytes x_above x_line u_53.1, (a_tree, .inl (k_tree, 1024, .inl u_53.2))] := hD
        refine lv_iinc (v := w4_42 + 1) hx hb d_LineReader_addRuns_92 hl (k := 0) rfl rfl (by decide) rfl ?_
        clear hl
        intro ls hl
        replace hl : lv_has ls 5 [(4, .int (w4_42 + 1)), (0, .ref a_this), (1, .int v0)] := hl
        refine lv_goto (tgt := 63) hx hb d_LineReader_addRuns_95 (by decide) ?_
        exact ih (w4_42 + 1) u_53.1 u_53.2  out_51 hf hk _ _ _ hK hP hD hS hl
  obtain ⟨out_51, ho, hf⟩ := dk_bind hf
  refine cut63 N (0 : Int32) out_32.1 out_32.2  out_51 ho ?_ _ _ _ hK hP hD hS hl
  clear cut63 hK hP hD hS hl ho
  intro  H locs ls hK hP hD hS hl
  obtain rfl := Option.some.inj hf
  have hP9 : va_P (dC, dI) vcl [cl_LineReader a_this (.ref a_tree) x_bytes x_above x_line out_51.1, (a_tree, .inl (k_tree, 1024, .inl out_51.2))] _ := hP.sub [0, 1] rfl
  have hD9 : va_D A [cl_LineReader a_this (.ref a_tree) x_bytes x_above x_line out_51.1, (a_tree, .inl (k_tree, 1024, .inl out_51.2))] := hD.sub [0, 1] (by decide) rfl
  have hK9 : va_K (dC, dI) vcl [(k_tree, .int)] s := hK.sub [0] rfl
  exact W.vret hx hb hr (fun t ht hW => ⟨⟨(), rfl, trivial, by rw [ht]; exact hP9, va_K.moved hW.alike hK9, hD9⟩, hS.F ht⟩) hS.2.2 d_LineReader_addRuns_98

abbrev at_e_LineReader_addRuns_BLACK_RESTS_BLACK_BLOCKS (dC : Nat → ClassId) (dI : Nat → Nat → Nat) (a_this : Nat) (x_bytes : Value) (x_above : Value) (x_line : Value) (o_this : ob_LineReader) (a_tree : Nat) (k_tree : ClassId) (g_tree : Nat → Int32) (N : Nat) (v0 : Int32) (res : rs_LineReader_addRuns_BLACK_RESTS_BLACK_BLOCKS) (A : Nat → Prop) (u : Unit) (t : State) : Prop := match u with
  | _ => va_P (dC, dI) vcl [cl_LineReader a_this (.ref a_tree) x_bytes x_above x_line res.1, (a_tree, .inl (k_tree, 1024, .inl res.2))] t.heap ∧ va_K (dC, dI) vcl [(k_tree, .int)] t ∧ va_D A [cl_LineReader a_this (.ref a_tree) x_bytes x_above x_line res.1, (a_tree, .inl (k_tree, 1024, .inl res.2))]
abbrev po_e_LineReader_addRuns_BLACK_RESTS_BLACK_BLOCKS (a_this : Nat) (x_bytes : Value) (x_above : Value) (x_line : Value) (o_this : ob_LineReader) (a_tree : Nat) (k_tree : ClassId) (g_tree : Nat → Int32) (N : Nat) (v0 : Int32) (res : rs_LineReader_addRuns_BLACK_RESTS_BLACK_BLOCKS) (u : Unit) : Prop := match u with
  | _ => True
abbrev q_e_LineReader_addRuns_BLACK_RESTS_BLACK_BLOCKS (dC : Nat → ClassId) (dI : Nat → Nat → Nat) (a_this : Nat) (x_bytes : Value) (x_above : Value) (x_line : Value) (o_this : ob_LineReader) (a_tree : Nat) (k_tree : ClassId) (g_tree : Nat → Int32) (N : Nat) (v0 : Int32) (res : rs_LineReader_addRuns_BLACK_RESTS_BLACK_BLOCKS) (A : Nat → Prop) : Array Value → State → Outcome → State → Prop := va_Qv (po_e_LineReader_addRuns_BLACK_RESTS_BLACK_BLOCKS a_this x_bytes x_above x_line o_this a_tree k_tree g_tree N v0 res) (at_e_LineReader_addRuns_BLACK_RESTS_BLACK_BLOCKS dC dI a_this x_bytes x_above x_line o_this a_tree k_tree g_tree N v0 res A) A
abbrev rm_e_LineReader_addRuns_BLACK_RESTS_BLACK_BLOCKS : Room := { frames := 2, cells := 0, slots := 0, locals := 48 }
set_option maxHeartbeats 4000000 in
set_option maxRecDepth 100000 in
theorem e_LineReader_addRuns_BLACK_RESTS_BLACK_BLOCKS (l : Launch) (dC : Nat → ClassId) (dI : Nat → Nat → Nat) (tt : Nat → Nat) (a_this : Nat) (x_bytes : Value) (x_above : Value) (x_line : Value) (o_this : ob_LineReader) (a_tree : Nat) (k_tree : ClassId) (g_tree : Nat → Int32) (N : Nat) (v0 : Int32) (res : rs_LineReader_addRuns_BLACK_RESTS_BLACK_BLOCKS) (sz : Nat) (hf : ex_LineReader_addRuns_BLACK_RESTS_BLACK_BLOCKS N o_this g_tree v0 = some res) : Met l y_LineReader_addRuns w_LineReader_addRuns rm_e_LineReader_addRuns_BLACK_RESTS_BLACK_BLOCKS (va_Pc [.ref a_this, .int v0, .ref (tt 11), .ref (tt 12)] (fun U => U.heap.size = sz ∧ va_P (dC, dI) vcl [cl_LineReader a_this (.ref a_tree) x_bytes x_above x_line o_this, (a_tree, .inl (k_tree, 1024, .inl g_tree))] U.heap ∧ va_K (dC, dI) vcl [(k_tree, .int)] U ∧ va_D (fun _ => True) [cl_LineReader a_this (.ref a_tree) x_bytes x_above x_line o_this, (a_tree, .inl (k_tree, 1024, .inl g_tree))] ∧ SF tt (va_A [cl_LineReader a_this (.ref a_tree) x_bytes x_above x_line o_this, (a_tree, .inl (k_tree, 1024, .inl g_tree))] sz) U U.heap)) (q_e_LineReader_addRuns_BLACK_RESTS_BLACK_BLOCKS dC dI a_this x_bytes x_above x_line o_this a_tree k_tree g_tree N v0 res (va_A [cl_LineReader a_this (.ref a_tree) x_bytes x_above x_line o_this, (a_tree, .inl (k_tree, 1024, .inl g_tree))] sz)) 0 0 (va_A [cl_LineReader a_this (.ref a_tree) x_bytes x_above x_line o_this, (a_tree, .inl (k_tree, 1024, .inl g_tree))] sz) := by
  refine Met.ofW (cc := b_LineReader_addRuns) (maxL := 5) (ret := none) (by decide) rfl ?_
  intro p e s m args below meth c s₁ B hml hv
  obtain ⟨rfl, hsz, hP, hK, hD0, hF⟩ := hv
  have hx := B.exec
  have hb := B.bytes
  have hr := B.returns
  have hwd : ∀ w ∈ gT, w.before _ s = true := fun w h => atoms_spec (ws := w_LineReader_addRuns) B.pre w (List.mem_cons_of_mem _ h)
  have hown : s.vm.findClass R_LineReader = some m.cls := findClass_of_methodNamed B.named
  have hlocks := B.notSynchronized
  subst hsz
  have hD := hD0.self (sz := s.heap.size)
  generalize hAe : va_A [cl_LineReader a_this (.ref a_tree) x_bytes x_above x_line o_this, (a_tree, .inl (k_tree, 1024, .inl g_tree))] s.heap.size = A at hD hF ⊢
  have hA : ∀ q : Nat, s.heap.size ≤ q → A q := fun q h => by rw [← hAe]; exact Or.inr h
  have hS : va_S A s.heap s.heap [] := va_S.rf
  have hP : va_P (dC, dI) vcl [cl_LineReader a_this (.ref a_tree) x_bytes x_above x_line o_this, (a_tree, .inl (k_tree, 1024, .inl g_tree))] s.heap := hP
  have hl := lv_entry ([.ref a_this, .int v0, .ref (tt 11), .ref (tt 12)]) (n := 5) (Nat.le_of_ble_eq_true rfl)
  rw [lg_entry_eq]
  generalize (lg_sl ([.ref a_this, .int v0, .ref (tt 11), .ref (tt 12)]) ++ List.replicate (5 - (lg_sl ([.ref a_this, .int v0, .ref (tt 11), .ref (tt 12)])).length) Slot.unset).toArray = ls at hl ⊢
  have hl : lv_has ls 5 [(0, .ref a_this), (1, .int v0), (2, .ref (tt 11)), (3, .ref (tt 12))] := hl
  unfold ex_LineReader_addRuns_BLACK_RESTS_BLACK_BLOCKS at hf
  refine lv_iconst (v := 0) hx hb d_LineReader_addRuns_0 (by decide) ?_
  refine lv_istore hx hb d_LineReader_addRuns_1 hl (by decide) rfl ?_
  clear hl
  intro ls hl
  replace hl : lv_has ls 5 [(4, .int 0), (0, .ref a_this), (1, .int v0), (2, .ref (tt 11)), (3, .ref (tt 12))] := hl
  have cut3 : ∀ (n : Nat) (w4_4 : Int32) (o_5 : ob_LineReader) (g_6 : Nat → Int32) (out_13 : ob_LineReader × (Nat → Int32)), lp_LineReader_addRuns_BLACK_RESTS_BLACK_BLOCKS_3 N v0 n w4_4 o_5 g_6 = some out_13 → (∀ (H : Heap) (locs : List Loc) (ls : Array Slot), va_K (dC, dI) vcl [(k_tree, .int)] s → va_P (dC, dI) vcl [cl_LineReader a_this (.ref a_tree) x_bytes x_above x_line out_13.1, (a_tree, .inl (k_tree, 1024, .inl out_13.2))] H → va_D A [cl_LineReader a_this (.ref a_tree) x_bytes x_above x_line out_13.1, (a_tree, .inl (k_tree, 1024, .inl out_13.2))] → va_S A s.heap H locs → lv_has ls 5 [(0, .ref a_this), (1, .int v0), (3, .ref (tt 12))] → W p l e (headSpec w_LineReader_addRuns rm_e_LineReader_addRuns_BLACK_RESTS_BLACK_BLOCKS).room s m (List.toArray [.ref a_this, .int v0, .ref (tt 11), .ref (tt 12)]) below meth c H locs 0 0 (MQ below (q_e_LineReader_addRuns_BLACK_RESTS_BLACK_BLOCKS dC dI a_this x_bytes x_above x_line o_this a_tree k_tree g_tree N v0 res A) (List.toArray [.ref a_this, .int v0, .ref (tt 11), .ref (tt 12)]) s 0 0 A) (F0 m 27 ls [])) → ∀ (H : Heap) (locs : List Loc) (ls : Array Slot), va_K (dC, dI) vcl [(k_tree, .int)] s → va_P (dC, dI) vcl [cl_LineReader a_this (.ref a_tree) x_bytes x_above x_line o_5, (a_tree, .inl (k_tree, 1024, .inl g_6))] H → va_D A [cl_LineReader a_this (.ref a_tree) x_bytes x_above x_line o_5, (a_tree, .inl (k_tree, 1024, .inl g_6))] → va_S A s.heap H locs → lv_has ls 5 [(4, .int w4_4), (0, .ref a_this), (1, .int v0), (2, .ref (tt 11)), (3, .ref (tt 12))] → W p l e (headSpec w_LineReader_addRuns rm_e_LineReader_addRuns_BLACK_RESTS_BLACK_BLOCKS).room s m (List.toArray [.ref a_this, .int v0, .ref (tt 11), .ref (tt 12)]) below meth c H locs 0 0 (MQ below (q_e_LineReader_addRuns_BLACK_RESTS_BLACK_BLOCKS dC dI a_this x_bytes x_above x_line o_this a_tree k_tree g_tree N v0 res A) (List.toArray [.ref a_this, .int v0, .ref (tt 11), .ref (tt 12)]) s 0 0 A) (F0 m 3 ls []) := by
    intro n
    induction n with
    | zero =>
      intro w4_4 o_5 g_6 out_13 hf
      exact nomatch (show (none : Option (ob_LineReader × (Nat → Int32))) = some out_13 from hf)
    | succ n ih =>
      intro w4_4 o_5 g_6 out_13 hf hk H locs ls hK hP hD hS hl
      rw [lp_LineReader_addRuns_BLACK_RESTS_BLACK_BLOCKS_3] at hf
      refine lv_iload hx hb d_LineReader_addRuns_3 (lv_at hl 0 rfl) ?_
      refine lv_aload_n hx hb d_LineReader_addRuns_5 rfl (lv_at hl 3 rfl) ?_
      refine va_tlen (v := 64) hx hb (SF_p11 hF).2 hS rfl d_LineReader_addRuns_6 ?_
      refine lv_icmp_ge (tgt := 27) hx hb d_LineReader_addRuns_7 (by decide) (fun c7 => ?_) (fun c7 => ?_)
      · replace hf := dk_pos c7 hf
        obtain rfl := Option.some.inj hf
        exact hk  _ _ _ hK hP hD hS (lv_sub hl [1, 2, 4] rfl)
      · replace hf := dk_neg c7 hf
        refine lv_aload_n hx hb d_LineReader_addRuns_10 rfl (lv_at hl 1 rfl) ?_
        refine lv_iload_n hx hb d_LineReader_addRuns_11 rfl (lv_at hl 2 rfl) ?_
        refine lv_aload_n hx hb d_LineReader_addRuns_12 rfl (lv_at hl 3 rfl) ?_
        refine lv_iload hx hb d_LineReader_addRuns_13 (lv_at hl 0 rfl) ?_
        obtain ⟨hg_14, hf⟩ := dk_grd hf
        refine va_ti (v := .int (tb_Coder_BLACK_RESTS w4_4.toNatClampNeg)) hx hb (SF_p11 hF).2 hS hg_14 rfl d_LineReader_addRuns_15 ?_
        refine lv_iload hx hb d_LineReader_addRuns_16 (lv_at hl 0 rfl) ?_
        obtain ⟨u_15, hu_15, hf⟩ := dk_bind hf
        have hPc : va_P (dC, dI) vcl [cl_LineReader a_this (.ref a_tree) x_bytes x_above x_line o_5, (a_tree, .inl (k_tree, 1024, .inl g_6))] _ := hP.sub [0, 1] rfl
        have hDc : va_D A [cl_LineReader a_this (.ref a_tree) x_bytes x_above x_line o_5, (a_tree, .inl (k_tree, 1024, .inl g_6))] := hD.sub [0, 1] (by decide) rfl
        have hKc : va_K (dC, dI) vcl [(k_tree, .int)] s := hK.sub [0] rfl
        have hFc := va_free (wc := [cl_LineReader a_this (.ref a_tree) x_bytes x_above x_line o_5, (a_tree, .inl (k_tree, 1024, .inl g_6))]) hD hS hA [0, 1] rfl
        refine va_callv (va_runV (As := [.int v0, .int (tb_Coder_BLACK_RESTS w4_4.toNatClampNeg), .int w4_4]) (rest := []) ⟨hx, hb, hml, hown, hwd⟩ (e_LineReader_addWord l dC dI tt a_this x_bytes x_above x_line o_5 a_tree k_tree g_6 N v0 (tb_Coder_BLACK_RESTS w4_4.toNatClampNeg) w4_4 u_15 H.size (hu_15)) (cwV 3 hwd (gV gd_LineReader_addWord wd_4_46 wd_4_48 ws_19 wd_1_15) rfl rfl rfl (by decide +kernel) ⟨Nat.le_of_ble_eq_true rfl, Nat.le_of_ble_eq_true rfl⟩) ⟨fun a U g mk q => by obtain ⟨q0, q1, qP, qK, qD, qF⟩ := q; exact ⟨q0, q1, qP, va_K.moved (u := U) (U := U.calling g mk a) (Vm.Alike.refl U.vm) qK, qD, SF.same (u := U) (U := U.calling g mk a) rfl qF⟩, va_recv hKc hPc (ci := 5) (q0 := 0) rfl rfl, fun U hU hW => ⟨rfl, by rw [hU], by rw [hU]; exact hPc, va_K.moved hW.alike hKc, hDc.weaken (fun _ _ _ _ => trivial), by rw [hU]; exact SF.narrow (SF.moved hW (SF.kept hF (fun a h1 h2 => hS.2.1 a h1 h2))) hFc⟩⟩ rfl rfl hl.1 rfl (lv_room (Nat.le_of_ble_eq_true rfl)) d_LineReader_addRuns_18 ⟨Nat.le_of_ble_eq_true rfl, Nat.le_of_ble_eq_true rfl⟩) hS (fun q _ h => hFc q h) hFc ?_
        clear hPc hDc hKc hS
        intro u_17 t H1 locs ht hvm hw hB hz1 hk1 hS
        obtain ⟨hP1, hK1, hD1⟩ := hB
        rw [ht] at hP1
        have hK1 := va_K.moved hvm.symm hK1
        try dsimp only at hw
        have hJ := va_join (wr := []) (w1 := [cl_LineReader a_this (.ref a_tree) x_bytes x_above x_line u_15.1, (a_tree, .inl (k_tree, 1024, .inl u_15.2))]) hP hD [0, 1] [] rfl rfl (by decide) (by decide) hk1 hFc hP1 hD1
        clear hP hD hk1 hFc hP1 hD1 hz1
        obtain ⟨hP, hD⟩ := hJ
        clear hK1 ht hvm
        generalize H1 = H at hP hS ⊢
        replace hP : va_P (dC, dI) vcl [cl_LineReader a_this (.ref a_tree) x_bytes x_above x_line u_15.1, (a_tree, .inl (k_tree, 1024, .inl u_15.2))] H := hP
        replace hD : va_D A [cl_LineReader a_this (.ref a_tree) x_bytes x_above x_line u_15.1, (a_tree, .inl (k_tree, 1024, .inl u_15.2))] := hD
        refine lv_iinc (v := w4_4 + 1) hx hb d_LineReader_addRuns_21 hl (k := 0) rfl rfl (by decide) rfl ?_
        clear hl
        intro ls hl
        replace hl : lv_has ls 5 [(4, .int (w4_4 + 1)), (0, .ref a_this), (1, .int v0), (2, .ref (tt 11)), (3, .ref (tt 12))] := hl
        refine lv_goto (tgt := 3) hx hb d_LineReader_addRuns_24 (by decide) ?_
        exact ih (w4_4 + 1) u_15.1 u_15.2  out_13 hf hk _ _ _ hK hP hD hS hl
  obtain ⟨out_13, ho, hf⟩ := dk_bind hf
  refine cut3 N (0 : Int32) o_this g_tree  out_13 ho ?_ _ _ _ hK hP hD hS hl
  clear cut3 hK hP hD hS hl ho
  intro  H locs ls hK hP hD hS hl
  refine lv_iconst (v := 0) hx hb d_LineReader_addRuns_27 (by decide) ?_
  refine lv_istore hx hb d_LineReader_addRuns_28 hl (by decide) rfl ?_
  clear hl
  intro ls hl
  replace hl : lv_has ls 5 [(4, .int 0), (0, .ref a_this), (1, .int v0), (3, .ref (tt 12))] := hl
  have cut30 : ∀ (n : Nat) (w4_23 : Int32) (o_24 : ob_LineReader) (g_25 : Nat → Int32) (out_32 : ob_LineReader × (Nat → Int32)), lp_LineReader_addRuns_BLACK_RESTS_BLACK_BLOCKS_30c2 N v0 n w4_23 o_24 g_25 = some out_32 → (∀ (H : Heap) (locs : List Loc) (ls : Array Slot), va_K (dC, dI) vcl [(k_tree, .int)] s → va_P (dC, dI) vcl [cl_LineReader a_this (.ref a_tree) x_bytes x_above x_line out_32.1, (a_tree, .inl (k_tree, 1024, .inl out_32.2))] H → va_D A [cl_LineReader a_this (.ref a_tree) x_bytes x_above x_line out_32.1, (a_tree, .inl (k_tree, 1024, .inl out_32.2))] → va_S A s.heap H locs → lv_has ls 5 [(0, .ref a_this), (1, .int v0)] → W p l e (headSpec w_LineReader_addRuns rm_e_LineReader_addRuns_BLACK_RESTS_BLACK_BLOCKS).room s m (List.toArray [.ref a_this, .int v0, .ref (tt 11), .ref (tt 12)]) below meth c H locs 0 0 (MQ below (q_e_LineReader_addRuns_BLACK_RESTS_BLACK_BLOCKS dC dI a_this x_bytes x_above x_line o_this a_tree k_tree g_tree N v0 res A) (List.toArray [.ref a_this, .int v0, .ref (tt 11), .ref (tt 12)]) s 0 0 A) (F0 m 60 ls [])) → ∀ (H : Heap) (locs : List Loc) (ls : Array Slot), va_K (dC, dI) vcl [(k_tree, .int)] s → va_P (dC, dI) vcl [cl_LineReader a_this (.ref a_tree) x_bytes x_above x_line o_24, (a_tree, .inl (k_tree, 1024, .inl g_25))] H → va_D A [cl_LineReader a_this (.ref a_tree) x_bytes x_above x_line o_24, (a_tree, .inl (k_tree, 1024, .inl g_25))] → va_S A s.heap H locs → lv_has ls 5 [(4, .int w4_23), (0, .ref a_this), (1, .int v0), (3, .ref (tt 12))] → W p l e (headSpec w_LineReader_addRuns rm_e_LineReader_addRuns_BLACK_RESTS_BLACK_BLOCKS).room s m (List.toArray [.ref a_this, .int v0, .ref (tt 11), .ref (tt 12)]) below meth c H locs 0 0 (MQ below (q_e_LineReader_addRuns_BLACK_RESTS_BLACK_BLOCKS dC dI a_this x_bytes x_above x_line o_this a_tree k_tree g_tree N v0 res A) (List.toArray [.ref a_this, .int v0, .ref (tt 11), .ref (tt 12)]) s 0 0 A) (F0 m 30 ls []) := by
    intro n
    induction n with
    | zero =>
      intro w4_23 o_24 g_25 out_32 hf
      exact nomatch (show (none : Option (ob_LineReader × (Nat → Int32))) = some out_32 from hf)
    | succ n ih =>
      intro w4_23 o_24 g_25 out_32 hf hk H locs ls hK hP hD hS hl
      rw [lp_LineReader_addRuns_BLACK_RESTS_BLACK_BLOCKS_30c2] at hf
      refine lv_iload hx hb d_LineReader_addRuns_30 (lv_at hl 0 rfl) ?_
      refine lv_aload_n hx hb d_LineReader_addRuns_32 rfl (lv_at hl 3 rfl) ?_
      refine va_tlen (v := 27) hx hb (SF_p12 hF).2 hS rfl d_LineReader_addRuns_33 ?_
      refine lv_icmp_ge (tgt := 60) hx hb d_LineReader_addRuns_34 (by decide) (fun c34 => ?_) (fun c34 => ?_)
      · replace hf := dk_pos c34 hf
        obtain rfl := Option.some.inj hf
        exact hk  _ _ _ hK hP hD hS (lv_sub hl [1, 2] rfl)
      · replace hf := dk_neg c34 hf
        refine lv_aload_n hx hb d_LineReader_addRuns_37 rfl (lv_at hl 1 rfl) ?_
        refine lv_iload_n hx hb d_LineReader_addRuns_38 rfl (lv_at hl 2 rfl) ?_
        refine lv_aload_n hx hb d_LineReader_addRuns_39 rfl (lv_at hl 3 rfl) ?_
        refine lv_iload hx hb d_LineReader_addRuns_40 (lv_at hl 0 rfl) ?_
        obtain ⟨hg_33, hf⟩ := dk_grd hf
        refine va_ti (v := .int (tb_Coder_BLACK_BLOCKS w4_23.toNatClampNeg)) hx hb (SF_p12 hF).2 hS hg_33 rfl d_LineReader_addRuns_42 ?_
        refine lv_bipush (v := 64) hx hb d_LineReader_addRuns_43 (by decide) ?_
        refine lv_bipush (v := 64) hx hb d_LineReader_addRuns_45 (by decide) ?_
        refine lv_iload hx hb d_LineReader_addRuns_47 (lv_at hl 0 rfl) ?_
        refine lv_imul hx hb d_LineReader_addRuns_49 ?_
        refine lv_iadd hx hb d_LineReader_addRuns_50 ?_
        obtain ⟨u_34, hu_34, hf⟩ := dk_bind hf
        have hPc : va_P (dC, dI) vcl [cl_LineReader a_this (.ref a_tree) x_bytes x_above x_line o_24, (a_tree, .inl (k_tree, 1024, .inl g_25))] _ := hP.sub [0, 1] rfl
        have hDc : va_D A [cl_LineReader a_this (.ref a_tree) x_bytes x_above x_line o_24, (a_tree, .inl (k_tree, 1024, .inl g_25))] := hD.sub [0, 1] (by decide) rfl
        have hKc : va_K (dC, dI) vcl [(k_tree, .int)] s := hK.sub [0] rfl
        have hFc := va_free (wc := [cl_LineReader a_this (.ref a_tree) x_bytes x_above x_line o_24, (a_tree, .inl (k_tree, 1024, .inl g_25))]) hD hS hA [0, 1] rfl
        refine va_callv (va_runV (As := [.int v0, .int (tb_Coder_BLACK_BLOCKS w4_23.toNatClampNeg), .int (64 + (64 * w4_23))]) (rest := []) ⟨hx, hb, hml, hown, hwd⟩ (e_LineReader_addWord l dC dI tt a_this x_bytes x_above x_line o_24 a_tree k_tree g_25 N v0 (tb_Coder_BLACK_BLOCKS w4_23.toNatClampNeg) (64 + (64 * w4_23)) u_34 H.size (hu_34)) (cwV 3 hwd (gV gd_LineReader_addWord wd_4_46 wd_4_48 ws_19 wd_1_15) rfl rfl rfl (by decide +kernel) ⟨Nat.le_of_ble_eq_true rfl, Nat.le_of_ble_eq_true rfl⟩) ⟨fun a U g mk q => by obtain ⟨q0, q1, qP, qK, qD, qF⟩ := q; exact ⟨q0, q1, qP, va_K.moved (u := U) (U := U.calling g mk a) (Vm.Alike.refl U.vm) qK, qD, SF.same (u := U) (U := U.calling g mk a) rfl qF⟩, va_recv hKc hPc (ci := 5) (q0 := 0) rfl rfl, fun U hU hW => ⟨rfl, by rw [hU], by rw [hU]; exact hPc, va_K.moved hW.alike hKc, hDc.weaken (fun _ _ _ _ => trivial), by rw [hU]; exact SF.narrow (SF.moved hW (SF.kept hF (fun a h1 h2 => hS.2.1 a h1 h2))) hFc⟩⟩ rfl rfl hl.1 rfl (lv_room (Nat.le_of_ble_eq_true rfl)) d_LineReader_addRuns_51 ⟨Nat.le_of_ble_eq_true rfl, Nat.le_of_ble_eq_true rfl⟩) hS (fun q _ h => hFc q h) hFc ?_
        clear hPc hDc hKc hS
        intro u_36 t H1 locs ht hvm hw hB hz1 hk1 hS
        obtain ⟨hP1, hK1, hD1⟩ := hB
        rw [ht] at hP1
        have hK1 := va_K.moved hvm.symm hK1
        try dsimp only at hw
        have hJ := va_join (wr := []) (w1 := [cl_LineReader a_this (.ref a_tree) x_bytes x_above x_line u_34.1, (a_tree, .inl (k_tree, 1024, .inl u_34.2))]) hP hD [0, 1] [] rfl rfl (by decide) (by decide) hk1 hFc hP1 hD1
        clear hP hD hk1 hFc hP1 hD1 hz1
        obtain ⟨hP, hD⟩ := hJ
        clear hK1 ht hvm
        generalize H1 = H at hP hS ⊢
        replace hP : va_P (dC, dI) vcl [cl_LineReader a_this (.ref a_tree) x_bytes x_above x_line u_34.1, (a_tree, .inl (k_tree, 1024, .inl u_34.2))] H := hP
        replace hD : va_D A [cl_LineReader a_this (.ref a_tree) x_bytes x_above x_line u_34.1, (a_tree, .inl (k_tree, 1024, .inl u_34.2))] := hD
        refine lv_iinc (v := w4_23 + 1) hx hb d_LineReader_addRuns_54 hl (k := 0) rfl rfl (by decide) rfl ?_
        clear hl
        intro ls hl
        replace hl : lv_has ls 5 [(4, .int (w4_23 + 1)), (0, .ref a_this), (1, .int v0), (3, .ref (tt 12))] := hl
        refine lv_goto (tgt := 30) hx hb d_LineReader_addRuns_57 (by decide) ?_
        exact ih (w4_23 + 1) u_34.1 u_34.2  out_32 hf hk _ _ _ hK hP hD hS hl
  obtain ⟨out_32, ho, hf⟩ := dk_bind hf
  refine cut30 N (0 : Int32) out_13.1 out_13.2  out_32 ho ?_ _ _ _ hK hP hD hS hl
  clear cut30 hK hP hD hS hl ho
  intro  H locs ls hK hP hD hS hl
  refine lv_iconst (v := 0) hx hb d_LineReader_addRuns_60 (by decide) ?_
  refine lv_istore hx hb d_LineReader_addRuns_61 hl (by decide) rfl ?_
  clear hl
  intro ls hl
  replace hl : lv_has ls 5 [(4, .int 0), (0, .ref a_this), (1, .int v0)] := hl
  have cut63 : ∀ (n : Nat) (w4_42 : Int32) (o_43 : ob_LineReader) (g_44 : Nat → Int32) (out_51 : ob_LineReader × (Nat → Int32)), lp_LineReader_addRuns_BLACK_RESTS_BLACK_BLOCKS_63d3 N v0 n w4_42 o_43 g_44 = some out_51 → (∀ (H : Heap) (locs : List Loc) (ls : Array Slot), va_K (dC, dI) vcl [(k_tree, .int)] s → va_P (dC, dI) vcl [cl_LineReader a_this (.ref a_tree) x_bytes x_above x_line out_51.1, (a_tree, .inl (k_tree, 1024, .inl out_51.2))] H → va_D A [cl_LineReader a_this (.ref a_tree) x_bytes x_above x_line out_51.1, (a_tree, .inl (k_tree, 1024, .inl out_51.2))] → va_S A s.heap H locs → lv_has ls 5 [] → W p l e (headSpec w_LineReader_addRuns rm_e_LineReader_addRuns_BLACK_RESTS_BLACK_BLOCKS).room s m (List.toArray [.ref a_this, .int v0, .ref (tt 11), .ref (tt 12)]) below meth c H locs 0 0 (MQ below (q_e_LineReader_addRuns_BLACK_RESTS_BLACK_BLOCKS dC dI a_this x_bytes x_above x_line o_this a_tree k_tree g_tree N v0 res A) (List.toArray [.ref a_this, .int v0, .ref (tt 11), .ref (tt 12)]) s 0 0 A) (F0 m 98 ls [])) → ∀ (H : Heap) (locs : List Loc) (ls : Array Slot), va_K (dC, dI) vcl [(k_tree, .int)] s → va_P (dC, dI) vcl [cl_LineReader a_this (.ref a_tree) x_bytes x_above x_line o_43, (a_tree, .inl (k_tree, 1024, .inl g_44))] H → va_D A [cl_LineReader a_this (.ref a_tree) x_bytes x_above x_line o_43, (a_tree, .inl (k_tree, 1024, .inl g_44))] → va_S A s.heap H locs → lv_has ls 5 [(4, .int w4_42), (0, .ref a_this), (1, .int v0)] → W p l e (headSpec w_LineReader_addRuns rm_e_LineReader_addRuns_BLACK_RESTS_BLACK_BLOCKS).room s m (List.toArray [.ref a_this, .int v0, .ref (tt 11), .ref (tt 12)]) below meth c H locs 0 0 (MQ below (q_e_LineReader_addRuns_BLACK_RESTS_BLACK_BLOCKS dC dI a_this x_bytes x_above x_line o_this a_tree k_tree g_tree N v0 res A) (List.toArray [.ref a_this, .int v0, .ref (tt 11), .ref (tt 12)]) s 0 0 A) (F0 m 63 ls []) := by
    intro n
    induction n with
    | zero =>
      intro w4_42 o_43 g_44 out_51 hf
      exact nomatch (show (none : Option (ob_LineReader × (Nat → Int32))) = some out_51 from hf)
    | succ n ih =>
      intro w4_42 o_43 g_44 out_51 hf hk H locs ls hK hP hD hS hl
      rw [lp_LineReader_addRuns_BLACK_RESTS_BLACK_BLOCKS_63d3] at hf
      refine lv_iload hx hb d_LineReader_addRuns_63 (lv_at hl 0 rfl) ?_
      refine va_gets hx hb (SF_p10 hF).1 hS hown (hwd _ wd_4_64) (fun _ h9 => h9) d_LineReader_addRuns_65 ?_
      refine va_tlen (v := 13) hx hb (SF_p10 hF).2 hS rfl d_LineReader_addRuns_68 ?_
      refine lv_icmp_ge (tgt := 98) hx hb d_LineReader_addRuns_69 (by decide) (fun c69 => ?_) (fun c69 => ?_)
      · replace hf := dk_pos c69 hf
        obtain rfl := Option.some.inj hf
        exact hk  _ _ _ hK hP hD hS (lv_sub hl [] rfl)
      · replace hf := dk_neg c69 hf
        refine lv_aload_n hx hb d_LineReader_addRuns_72 rfl (lv_at hl 1 rfl) ?_
        refine lv_iload_n hx hb d_LineReader_addRuns_73 rfl (lv_at hl 2 rfl) ?_
        refine va_gets hx hb (SF_p10 hF).1 hS hown (hwd _ wd_4_64) (fun _ h9 => h9) d_LineReader_addRuns_74 ?_
        refine lv_iload hx hb d_LineReader_addRuns_77 (lv_at hl 0 rfl) ?_
        obtain ⟨hg_52, hf⟩ := dk_grd hf
        refine va_ti (v := .int (tb_Coder_LONG_BLOCKS w4_42.toNatClampNeg)) hx hb (SF_p10 hF).2 hS hg_52 rfl d_LineReader_addRuns_79 ?_
        refine lv_sipush (v := 1792) hx hb d_LineReader_addRuns_80 (by decide) ?_
        refine lv_bipush (v := 64) hx hb d_LineReader_addRuns_83 (by decide) ?_
        refine lv_iload hx hb d_LineReader_addRuns_85 (lv_at hl 0 rfl) ?_
        refine lv_imul hx hb d_LineReader_addRuns_87 ?_
        refine lv_iadd hx hb d_LineReader_addRuns_88 ?_
        obtain ⟨u_53, hu_53, hf⟩ := dk_bind hf
        have hPc : va_P (dC, dI) vcl [cl_LineReader a_this (.ref a_tree) x_bytes x_above x_line o_43, (a_tree, .inl (k_tree, 1024, .inl g_44))] _ := hP.sub [0, 1] rfl
        have hDc : va_D A [cl_LineReader a_this (.ref a_tree) x_bytes x_above x_line o_43, (a_tree, .inl (k_tree, 1024, .inl g_44))] := hD.sub [0, 1] (by decide) rfl
        have hKc : va_K (dC, dI) vcl [(k_tree, .int)] s := hK.sub [0] rfl
        have hFc := va_free (wc := [cl_LineReader a_this (.ref a_tree) x_bytes x_above x_line o_43, (a_tree, .inl (k_tree, 1024, .inl g_44))]) hD hS hA [0, 1] rfl
        refine va_callv (va_runV (As := [.int v0, .int (tb_Coder_LONG_BLOCKS w4_42.toNatClampNeg), .int (1792 + (64 * w4_42))]) (rest := []) ⟨hx, hb, hml, hown, hwd⟩ (e_LineReader_addWord l dC dI tt a_this x_bytes x_above x_line o_43 a_tree k_tree g_44 N v0 (tb_Coder_LONG_BLOCKS w4_42.toNatClampNeg) (1792 + (64 * w4_42)) u_53 H.size (hu_53)) (cwV 3 hwd (gV gd_LineReader_addWord wd_4_46 wd_4_48 ws_19 wd_1_15) rfl rfl rfl (by decide +kernel) ⟨Nat.le_of_ble_eq_true rfl, Nat.le_of_ble_eq_true rfl⟩) ⟨fun a U g mk q => by obtain ⟨q0, q1, qP, qK, qD, qF⟩ := q; exact ⟨q0, q1, qP, va_K.moved (u := U) (U := U.calling g mk a) (Vm.Alike.refl U.vm) qK, qD, SF.same (u := U) (U := U.calling g mk a) rfl qF⟩, va_recv hKc hPc (ci := 5) (q0 := 0) rfl rfl, fun U hU hW => ⟨rfl, by rw [hU], by rw [hU]; exact hPc, va_K.moved hW.alike hKc, hDc.weaken (fun _ _ _ _ => trivial), by rw [hU]; exact SF.narrow (SF.moved hW (SF.kept hF (fun a h1 h2 => hS.2.1 a h1 h2))) hFc⟩⟩ rfl rfl hl.1 rfl (lv_room (Nat.le_of_ble_eq_true rfl)) d_LineReader_addRuns_89 ⟨Nat.le_of_ble_eq_true rfl, Nat.le_of_ble_eq_true rfl⟩) hS (fun q _ h => hFc q h) hFc ?_
        clear hPc hDc hKc hS
        intro u_55 t H1 locs ht hvm hw hB hz1 hk1 hS
        obtain ⟨hP1, hK1, hD1⟩ := hB
        rw [ht] at hP1
        have hK1 := va_K.moved hvm.symm hK1
        try dsimp only at hw
        have hJ := va_join (wr := []) (w1 := [cl_LineReader a_this (.ref a_tree) x_bytes x_above x_line u_53.1, (a_tree, .inl (k_tree, 1024, .inl u_53.2))]) hP hD [0, 1] [] rfl rfl (by decide) (by decide) hk1 hFc hP1 hD1
        clear hP hD hk1 hFc hP1 hD1 hz1
        obtain ⟨hP, hD⟩ := hJ
        clear hK1 ht hvm
        generalize H1 = H at hP hS ⊢
        replace hP : va_P (dC, dI) vcl [cl_LineReader a_this (.ref a_tree) x_bytes x_above x_line u_53.1, (a_tree, .inl (k_tree, 1024, .inl u_53.2))] H := hP
        replace hD : va_D A [cl_LineReader a_this (.ref a_tree) x_bytes x_above x_line u_53.1, (a_tree, .inl (k_tree, 1024, .inl u_53.2))] := hD
        refine lv_iinc (v := w4_42 + 1) hx hb d_LineReader_addRuns_92 hl (k := 0) rfl rfl (by decide) rfl ?_
        clear hl
        intro ls hl
        replace hl : lv_has ls 5 [(4, .int (w4_42 + 1)), (0, .ref a_this), (1, .int v0)] := hl
        refine lv_goto (tgt := 63) hx hb d_LineReader_addRuns_95 (by decide) ?_
        exact ih (w4_42 + 1) u_53.1 u_53.2  out_51 hf hk _ _ _ hK hP hD hS hl
  obtain ⟨out_51, ho, hf⟩ := dk_bind hf
  refine cut63 N (0 : Int32) out_32.1 out_32.2  out_51 ho ?_ _ _ _ hK hP hD hS hl
  clear cut63 hK hP hD hS hl ho
  intro  H locs ls hK hP hD hS hl
  obtain rfl := Option.some.inj hf
  have hP9 : va_P (dC, dI) vcl [cl_LineReader a_this (.ref a_tree) x_bytes x_above x_line out_51.1, (a_tree, .inl (k_tree, 1024, .inl out_51.2))] _ := hP.sub [0, 1] rfl
  have hD9 : va_D A [cl_LineReader a_this (.ref a_tree) x_bytes x_above x_line out_51.1, (a_tree, .inl (k_tree, 1024, .inl out_51.2))] := hD.sub [0, 1] (by decide) rfl
  have hK9 : va_K (dC, dI) vcl [(k_tree, .int)] s := hK.sub [0] rfl
  exact W.vret hx hb hr (fun t ht hW => ⟨⟨(), rfl, trivial, by rw [ht]; exact hP9, va_K.moved hW.alike hK9, hD9⟩, hS.F ht⟩) hS.2.2 d_LineReader_addRuns_98
