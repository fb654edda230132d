


abbrev at_c_settle_S (dC : Nat → ClassId) (dI : Nat → Nat → Nat) (h0 : Nat) (s_ids : Nat) (s_attributes : Nat) (s_permanent : Nat) (s_glyphs : Nat) (s_glyphCount : Int32) (s_dots : Nat) (s_used : Int32) (s_wishes : Nat) (s_pins : Nat) (s_id : Int32) (s_code : Int32) (s_chosen : Nat) (s_left : Nat) (s_coming : Nat) (cp : ClassId) (pn : Nat → Int32) (cl : ClassId) (lf : Nat → Int32) (cw : ClassId) (wi : Nat → Int32) (cc : ClassId) (ch : Nat → Int32) (A : Nat → Prop) (u : (Nat → Int32)) (t : State) : Prop := match u with
  | fc0 => va_P (dC, dI) vcl [(s_chosen, .inl (cc, 2, .inl (upd (upd ch 0 (-1)) 1 (-1)))), (h0, .inr (3, [.ref s_ids, .ref s_attributes, .ref s_permanent, .int 0, .ref s_glyphs, .int s_glyphCount, .ref s_dots, .int s_used, .ref s_wishes, .ref s_pins, .int s_id, .int s_code, .ref s_chosen, .int 1, .ref s_left, .ref s_coming])), (s_pins, .inl (cp, 2, .inl pn)), (s_left, .inl (cl, 32, .inl fc0)), (s_wishes, .inl (cw, 14, .inl wi))] t.heap ∧ va_K (dC, dI) vcl [(cc, .int), (cp, .int), (cl, .boolean), (cw, .int)] t ∧ va_D A [(s_chosen, .inl (cc, 2, .inl (upd (upd ch 0 (-1)) 1 (-1)))), (h0, .inr (3, [.ref s_ids, .ref s_attributes, .ref s_permanent, .int 0, .ref s_glyphs, .int s_glyphCount, .ref s_dots, .int s_used, .ref s_wishes, .ref s_pins, .int s_id, .int s_code, .ref s_chosen, .int 1, .ref s_left, .ref s_coming])), (s_pins, .inl (cp, 2, .inl pn)), (s_left, .inl (cl, 32, .inl fc0)), (s_wishes, .inl (cw, 14, .inl wi))]
abbrev po_c_settle_S (h0 : Nat) (s_ids : Nat) (s_attributes : Nat) (s_permanent : Nat) (s_glyphs : Nat) (s_glyphCount : Int32) (s_dots : Nat) (s_used : Int32) (s_wishes : Nat) (s_pins : Nat) (s_id : Int32) (s_code : Int32) (s_chosen : Nat) (s_left : Nat) (s_coming : Nat) (cp : ClassId) (pn : Nat → Int32) (cl : ClassId) (lf : Nat → Int32) (cw : ClassId) (wi : Nat → Int32) (cc : ClassId) (ch : Nat → Int32) (u : (Nat → Int32)) : Prop := match u with
  | fc0 => True
abbrev q_c_settle_S (dC : Nat → ClassId) (dI : Nat → Nat → Nat) (h0 : Nat) (s_ids : Nat) (s_attributes : Nat) (s_permanent : Nat) (s_glyphs : Nat) (s_glyphCount : Int32) (s_dots : Nat) (s_used : Int32) (s_wishes : Nat) (s_pins : Nat) (s_id : Int32) (s_code : Int32) (s_chosen : Nat) (s_left : Nat) (s_coming : Nat) (cp : ClassId) (pn : Nat → Int32) (cl : ClassId) (lf : Nat → Int32) (cw : ClassId) (wi : Nat → Int32) (cc : ClassId) (ch : Nat → Int32) (A : Nat → Prop) : Array Value → State → Outcome → State → Prop := va_Qv (po_c_settle_S h0 s_ids s_attributes s_permanent s_glyphs s_glyphCount s_dots s_used s_wishes s_pins s_id s_code s_chosen s_left s_coming cp pn cl lf cw wi cc ch) (at_c_settle_S dC dI h0 s_ids s_attributes s_permanent s_glyphs s_glyphCount s_dots s_used s_wishes s_pins s_id s_code s_chosen s_left s_coming cp pn cl lf cw wi cc ch A) A
abbrev rm_c_settle_S : Room := { frames := 3, cells := 0, slots := 0, locals := 72 }
set_option maxHeartbeats 4000000 in
set_option maxRecDepth 100000 in
theorem c_settle_S (l : Launch) (dC : Nat → ClassId) (dI : Nat → Nat → Nat) (tt : Nat → Nat) (h0 : Nat) (s_ids : Nat) (s_attributes : Nat) (s_permanent : Nat) (s_glyphs : Nat) (s_glyphCount : Int32) (s_dots : Nat) (s_used : Int32) (s_wishes : Nat) (s_pins : Nat) (s_id : Int32) (s_code : Int32) (s_chosen : Nat) (s_left : Nat) (s_coming : Nat) (cp : ClassId) (pn : Nat → Int32) (cl : ClassId) (lf : Nat → Int32) (cw : ClassId) (wi : Nat → Int32) (cc : ClassId) (ch : Nat → Int32) (sz : Nat) (hp0 : pn 0 = -1) (hp1 : pn 1 = -1) : Met l y_FontShelf_settle w_FontShelf_settle rm_c_settle_S (va_Pc [.ref h0] (fun U => U.heap.size = sz ∧ va_P (dC, dI) vcl [(h0, .inr (3, [.ref s_ids, .ref s_attributes, .ref s_permanent, .int 0, .ref s_glyphs, .int s_glyphCount, .ref s_dots, .int s_used, .ref s_wishes, .ref s_pins, .int s_id, .int s_code, .ref s_chosen, .int 0, .ref s_left, .ref s_coming])), (s_pins, .inl (cp, 2, .inl pn)), (s_left, .inl (cl, 32, .inl lf)), (s_wishes, .inl (cw, 14, .inl wi)), (s_chosen, .inl (cc, 2, .inl ch))] U.heap ∧ va_K (dC, dI) vcl [(cp, .int), (cl, .boolean), (cw, .int), (cc, .int)] U ∧ va_D (fun _ => True) [(h0, .inr (3, [.ref s_ids, .ref s_attributes, .ref s_permanent, .int 0, .ref s_glyphs, .int s_glyphCount, .ref s_dots, .int s_used, .ref s_wishes, .ref s_pins, .int s_id, .int s_code, .ref s_chosen, .int 0, .ref s_left, .ref s_coming])), (s_pins, .inl (cp, 2, .inl pn)), (s_left, .inl (cl, 32, .inl lf)), (s_wishes, .inl (cw, 14, .inl wi)), (s_chosen, .inl (cc, 2, .inl ch))] ∧ SF tt (va_A [(h0, .inr (3, [.ref s_ids, .ref s_attributes, .ref s_permanent, .int 0, .ref s_glyphs, .int s_glyphCount, .ref s_dots, .int s_used, .ref s_wishes, .ref s_pins, .int s_id, .int s_code, .ref s_chosen, .int 0, .ref s_left, .ref s_coming])), (s_pins, .inl (cp, 2, .inl pn)), (s_left, .inl (cl, 32, .inl lf)), (s_wishes, .inl (cw, 14, .inl wi)), (s_chosen, .inl (cc, 2, .inl ch))] sz) U U.heap)) (q_c_settle_S dC dI h0 s_ids s_attributes s_permanent s_glyphs s_glyphCount s_dots s_used s_wishes s_pins s_id s_code s_chosen s_left s_coming cp pn cl lf cw wi cc ch (va_A [(h0, .inr (3, [.ref s_ids, .ref s_attributes, .ref s_permanent, .int 0, .ref s_glyphs, .int s_glyphCount, .ref s_dots, .int s_used, .ref s_wishes, .ref s_pins, .int s_id, .int s_code, .ref s_chosen, .int 0, .ref s_left, .ref s_coming])), (s_pins, .inl (cp, 2, .inl pn)), (s_left, .inl (cl, 32, .inl lf)), (s_wishes, .inl (cw, 14, .inl wi)), (s_chosen, .inl (cc, 2, .inl ch))] sz)) 0 0 (va_A [(h0, .inr (3, [.ref s_ids, .ref s_attributes, .ref s_permanent, .int 0, .ref s_glyphs, .int s_glyphCount, .ref s_dots, .int s_used, .ref s_wishes, .ref s_pins, .int s_id, .int s_code, .ref s_chosen, .int 0, .ref s_left, .ref s_coming])), (s_pins, .inl (cp, 2, .inl pn)), (s_left, .inl (cl, 32, .inl lf)), (s_wishes, .inl (cw, 14, .inl wi)), (s_chosen, .inl (cc, 2, .inl ch))] sz) := by
  refine Met.ofW (cc := b_FontShelf_settle) (maxL := 1) (ret := none) (by decide) rfl ?_
  intro p e s m args below meth c s₁ B hml hv
  obtain ⟨rfl, hsz, hP, hK, hD0, hF⟩ := hv
  have hx := B.exec
  have hb := B.bytes
  have hr := B.returns
  have hwd : ∀ w ∈ gT, w.before _ s = true := fun w h => atoms_spec (ws := w_FontShelf_settle) B.pre w (List.mem_cons_of_mem _ h)
  have hown : s.vm.findClass R_FontShelf = some m.cls := findClass_of_methodNamed B.named
  have hlocks := B.notSynchronized
  subst hsz
  have hD := hD0.self (sz := s.heap.size)
  generalize hAe : va_A [(h0, .inr (3, [.ref s_ids, .ref s_attributes, .ref s_permanent, .int 0, .ref s_glyphs, .int s_glyphCount, .ref s_dots, .int s_used, .ref s_wishes, .ref s_pins, .int s_id, .int s_code, .ref s_chosen, .int 0, .ref s_left, .ref s_coming])), (s_pins, .inl (cp, 2, .inl pn)), (s_left, .inl (cl, 32, .inl lf)), (s_wishes, .inl (cw, 14, .inl wi)), (s_chosen, .inl (cc, 2, .inl ch))] s.heap.size = A at hD hF ⊢
  have hA : ∀ q : Nat, s.heap.size ≤ q → A q := fun q h => by rw [← hAe]; exact Or.inr h
  have hS : va_S A s.heap s.heap [] := va_S.rf
  have hP : va_P (dC, dI) vcl [(h0, .inr (3, [.ref s_ids, .ref s_attributes, .ref s_permanent, .int 0, .ref s_glyphs, .int s_glyphCount, .ref s_dots, .int s_used, .ref s_wishes, .ref s_pins, .int s_id, .int s_code, .ref s_chosen, .int 0, .ref s_left, .ref s_coming])), (s_pins, .inl (cp, 2, .inl pn)), (s_left, .inl (cl, 32, .inl lf)), (s_wishes, .inl (cw, 14, .inl wi)), (s_chosen, .inl (cc, 2, .inl ch))] s.heap := hP
  have hl := lv_entry ([.ref h0]) (n := 1) (Nat.le_of_ble_eq_true rfl)
  rw [lg_entry_eq]
  generalize (lg_sl ([.ref h0]) ++ List.replicate (1 - (lg_sl ([.ref h0])).length) Slot.unset).toArray = ls at hl ⊢
  have hl : lv_has ls 1 [(0, .ref h0)] := hl
  refine lv_aload_n hx hb d_FontShelf_settle_0 rfl (lv_at hl 0 rfl) ?_
  refine va_get (D := (dC, dI)) (ci := 3) (v := .int 0) (C := R_FontShelf) (T := F_FontShelf) (N := 16) hx hb hwd i_FontShelf hown hK hP 0 rfl rfl 13 (by decide) (hwd _ wd_2_114) (fun _ h9 => h9) rfl d_FontShelf_settle_1 ?_
  refine lv_if_ne (tgt := 34) hx hb d_FontShelf_settle_4 (by decide) (fun c4 => absurd c4 (by decide)) (fun _ => ?_)
  refine lv_aload_n hx hb d_FontShelf_settle_7 rfl (lv_at hl 0 rfl) ?_
  refine va_get (D := (dC, dI)) (ci := 3) (v := .ref s_chosen) (C := R_FontShelf) (T := F_FontShelf) (N := 16) hx hb hwd i_FontShelf hown hK hP 0 rfl rfl 12 (by decide) (hwd _ wd_2_113) (fun _ h9 => h9) rfl d_FontShelf_settle_8 ?_
  refine lv_iconst (v := 0) hx hb d_FontShelf_settle_11 (by decide) ?_
  refine lv_aload_n hx hb d_FontShelf_settle_12 rfl (lv_at hl 0 rfl) ?_
  refine lv_iconst (v := 0) hx hb d_FontShelf_settle_13 (by decide) ?_
  have hPc := hP.sub (ws' := [(h0, .inr (3, [.ref s_ids, .ref s_attributes, .ref s_permanent, .int 0, .ref s_glyphs, .int s_glyphCount, .ref s_dots, .int s_used, .ref s_wishes, .ref s_pins, .int s_id, .int s_code, .ref s_chosen, .int 0, .ref s_left, .ref s_coming])), (s_pins, .inl (cp, 2, .inl pn)), (s_left, .inl (cl, 32, .inl lf)), (s_wishes, .inl (cw, 14, .inl wi))]) [0, 1, 2, 3] rfl
  have hDc := hD.sub (ws' := [(h0, .inr (3, [.ref s_ids, .ref s_attributes, .ref s_permanent, .int 0, .ref s_glyphs, .int s_glyphCount, .ref s_dots, .int s_used, .ref s_wishes, .ref s_pins, .int s_id, .int s_code, .ref s_chosen, .int 0, .ref s_left, .ref s_coming])), (s_pins, .inl (cp, 2, .inl pn)), (s_left, .inl (cl, 32, .inl lf)), (s_wishes, .inl (cw, 14, .inl wi))]) [0, 1, 2, 3] (by decide) rfl
  have hKc := hK.sub (tys' := [(cp, .int), (cl, .boolean), (cw, .int)]) [0, 1, 2] rfl
  have hFc := va_free (wc := [(h0, .inr (3, [.ref s_ids, .ref s_attributes, .ref s_permanent, .int 0, .ref s_glyphs, .int s_glyphCount, .ref s_dots, .int s_used, .ref s_wishes, .ref s_pins, .int s_id, .int s_code, .ref s_chosen, .int 0, .ref s_left, .ref s_coming])), (s_pins, .inl (cp, 2, .inl pn)), (s_left, .inl (cl, 32, .inl lf)), (s_wishes, .inl (cw, 14, .inl wi))]) hD hS hA [0, 1, 2, 3] rfl
  refine va_calli (va_runV (As := [.int 0]) (rest := [.int 0, .ref s_chosen]) ⟨hx, hb, hml, hown, hwd⟩ (c_choose_0_0 l dC dI tt h0 s_ids s_attributes s_permanent s_glyphs s_glyphCount s_dots s_used s_wishes s_pins s_id s_code s_chosen 0 s_left s_coming cp pn cl lf cw wi s.heap.size (hp0)) (cwV 1 hwd (gV gd_FontShelf_choose wd_2_45 wd_2_47 ws_6 wd_1_5) rfl rfl rfl (by decide +kernel) ⟨Nat.le_of_ble_eq_true rfl, Nat.le_of_ble_eq_true rfl⟩) ⟨fun a U g mk q => by obtain ⟨q0, q1, qP, qK, qD, qF⟩ := q; exact ⟨q0, q1, qP, va_K.moved (u := U) (U := U.calling g mk a) (Vm.Alike.refl U.vm) qK, qD, SF.same (u := U) (U := U.calling g mk a) rfl qF⟩, va_recv hKc hPc (ci := 3) (q0 := 0) rfl rfl, fun U hU hW => ⟨rfl, by rw [hU], by rw [hU]; exact hPc, va_K.moved hW.alike hKc, hDc.weaken (fun _ _ _ _ => trivial), by rw [hU]; exact SF.narrow (SF.moved hW (SF.kept hF (fun a h1 h2 => hS.2.1 a h1 h2))) hFc⟩⟩ rfl rfl hl.1 rfl (lv_room (Nat.le_of_ble_eq_true rfl)) d_FontShelf_settle_14 ⟨Nat.le_of_ble_eq_true rfl, Nat.le_of_ble_eq_true rfl⟩) hS (fun q _ h => hFc q h) hFc ?_
  clear hPc hDc hKc hS
  intro r_1 u_2 t H1 locs ht hvm hw hB hz1 hk1 hS
  obtain ⟨lz_3, rfl⟩ : ∃ z, z = u_2 := ⟨_, rfl⟩
  obtain ⟨hP1, hK1, hD1⟩ := hB
  rw [ht] at hP1
  have hK1 := va_K.moved hvm.symm hK1
  try dsimp only at hw
  have hJ := va_join (wr := [(s_chosen, .inl (cc, 2, .inl ch))]) (w1 := [(h0, .inr (3, [.ref s_ids, .ref s_attributes, .ref s_permanent, .int 0, .ref s_glyphs, .int s_glyphCount, .ref s_dots, .int s_used, .ref s_wishes, .ref s_pins, .int s_id, .int s_code, .ref s_chosen, .int 0, .ref s_left, .ref s_coming])), (s_pins, .inl (cp, 2, .inl pn)), (s_left, .inl (cl, 32, .inl lz_3)), (s_wishes, .inl (cw, 14, .inl wi))]) hP hD [0, 1, 2, 3] [4] rfl rfl (by decide) (by decide) hk1 hFc hP1 hD1
  clear hP hD hk1 hFc hP1 hD1 hz1
  obtain ⟨hP, hD⟩ := hJ
  clear hK1 ht hvm
  generalize H1 = H at hP hS ⊢
  replace hP : va_P (dC, dI) vcl [(s_chosen, .inl (cc, 2, .inl ch)), (h0, .inr (3, [.ref s_ids, .ref s_attributes, .ref s_permanent, .int 0, .ref s_glyphs, .int s_glyphCount, .ref s_dots, .int s_used, .ref s_wishes, .ref s_pins, .int s_id, .int s_code, .ref s_chosen, .int 0, .ref s_left, .ref s_coming])), (s_pins, .inl (cp, 2, .inl pn)), (s_left, .inl (cl, 32, .inl lz_3)), (s_wishes, .inl (cw, 14, .inl wi))] H := hP
  replace hD : va_D A [(s_chosen, .inl (cc, 2, .inl ch)), (h0, .inr (3, [.ref s_ids, .ref s_attributes, .ref s_permanent, .int 0, .ref s_glyphs, .int s_glyphCount, .ref s_dots, .int s_used, .ref s_wishes, .ref s_pins, .int s_id, .int s_code, .ref s_chosen, .int 0, .ref s_left, .ref s_coming])), (s_pins, .inl (cp, 2, .inl pn)), (s_left, .inl (cl, 32, .inl lz_3)), (s_wishes, .inl (cw, 14, .inl wi))] := hD
  obtain rfl := hw
  refine va_iast hx hb hK hP hD hS 0 3 rfl rfl (show ¬ ((0 : Int32) < 0 ∨ 2 ≤ (0 : Int32).toNatClampNeg) by decide) d_FontShelf_settle_17 ?_
  clear hP hD hS
  intro H locs hP hD hS
  rw [show (0 : Int32).toNatClampNeg = 0 by decide] at hP hD
  replace hP : va_P (dC, dI) vcl [(s_chosen, .inl (cc, 2, .inl (upd ch 0 (-1)))), (h0, .inr (3, [.ref s_ids, .ref s_attributes, .ref s_permanent, .int 0, .ref s_glyphs, .int s_glyphCount, .ref s_dots, .int s_used, .ref s_wishes, .ref s_pins, .int s_id, .int s_code, .ref s_chosen, .int 0, .ref s_left, .ref s_coming])), (s_pins, .inl (cp, 2, .inl pn)), (s_left, .inl (cl, 32, .inl lz_3)), (s_wishes, .inl (cw, 14, .inl wi))] H := hP
  replace hD : va_D A [(s_chosen, .inl (cc, 2, .inl (upd ch 0 (-1)))), (h0, .inr (3, [.ref s_ids, .ref s_attributes, .ref s_permanent, .int 0, .ref s_glyphs, .int s_glyphCount, .ref s_dots, .int s_used, .ref s_wishes, .ref s_pins, .int s_id, .int s_code, .ref s_chosen, .int 0, .ref s_left, .ref s_coming])), (s_pins, .inl (cp, 2, .inl pn)), (s_left, .inl (cl, 32, .inl lz_3)), (s_wishes, .inl (cw, 14, .inl wi))] := hD
  refine lv_aload_n hx hb d_FontShelf_settle_18 rfl (lv_at hl 0 rfl) ?_
  refine va_get (D := (dC, dI)) (ci := 3) (v := .ref s_chosen) (C := R_FontShelf) (T := F_FontShelf) (N := 16) hx hb hwd i_FontShelf hown hK hP 1 rfl rfl 12 (by decide) (hwd _ wd_2_113) (fun _ h9 => h9) rfl d_FontShelf_settle_19 ?_
  refine lv_iconst (v := 1) hx hb d_FontShelf_settle_22 (by decide) ?_
  refine lv_aload_n hx hb d_FontShelf_settle_23 rfl (lv_at hl 0 rfl) ?_
  refine lv_iconst (v := 1) hx hb d_FontShelf_settle_24 (by decide) ?_
  have hPc := hP.sub (ws' := [(h0, .inr (3, [.ref s_ids, .ref s_attributes, .ref s_permanent, .int 0, .ref s_glyphs, .int s_glyphCount, .ref s_dots, .int s_used, .ref s_wishes, .ref s_pins, .int s_id, .int s_code, .ref s_chosen, .int 0, .ref s_left, .ref s_coming])), (s_pins, .inl (cp, 2, .inl pn)), (s_left, .inl (cl, 32, .inl lz_3)), (s_wishes, .inl (cw, 14, .inl wi))]) [1, 2, 3, 4] rfl
  have hDc := hD.sub (ws' := [(h0, .inr (3, [.ref s_ids, .ref s_attributes, .ref s_permanent, .int 0, .ref s_glyphs, .int s_glyphCount, .ref s_dots, .int s_used, .ref s_wishes, .ref s_pins, .int s_id, .int s_code, .ref s_chosen, .int 0, .ref s_left, .ref s_coming])), (s_pins, .inl (cp, 2, .inl pn)), (s_left, .inl (cl, 32, .inl lz_3)), (s_wishes, .inl (cw, 14, .inl wi))]) [1, 2, 3, 4] (by decide) rfl
  have hKc := hK.sub (tys' := [(cp, .int), (cl, .boolean), (cw, .int)]) [0, 1, 2] rfl
  have hFc := va_free (wc := [(h0, .inr (3, [.ref s_ids, .ref s_attributes, .ref s_permanent, .int 0, .ref s_glyphs, .int s_glyphCount, .ref s_dots, .int s_used, .ref s_wishes, .ref s_pins, .int s_id, .int s_code, .ref s_chosen, .int 0, .ref s_left, .ref s_coming])), (s_pins, .inl (cp, 2, .inl pn)), (s_left, .inl (cl, 32, .inl lz_3)), (s_wishes, .inl (cw, 14, .inl wi))]) hD hS hA [1, 2, 3, 4] rfl
  refine va_calli (va_runV (As := [.int 1]) (rest := [.int 1, .ref s_chosen]) ⟨hx, hb, hml, hown, hwd⟩ (c_choose_0_1 l dC dI tt h0 s_ids s_attributes s_permanent s_glyphs s_glyphCount s_dots s_used s_wishes s_pins s_id s_code s_chosen 0 s_left s_coming cp pn cl lz_3 cw wi H.size (hp1)) (cwV 1 hwd (gV gd_FontShelf_choose wd_2_45 wd_2_47 ws_6 wd_1_5) rfl rfl rfl (by decide +kernel) ⟨Nat.le_of_ble_eq_true rfl, Nat.le_of_ble_eq_true rfl⟩) ⟨fun a U g mk q => by obtain ⟨q0, q1, qP, qK, qD, qF⟩ := q; exact ⟨q0, q1, qP, va_K.moved (u := U) (U := U.calling g mk a) (Vm.Alike.refl U.vm) qK, qD, SF.same (u := U) (U := U.calling g mk a) rfl qF⟩, va_recv hKc hPc (ci := 3) (q0 := 0) rfl rfl, fun U hU hW => ⟨rfl, by rw [hU], by rw [hU]; exact hPc, va_K.moved hW.alike hKc, hDc.weaken (fun _ _ _ _ => trivial), by rw [hU]; exact SF.narrow (SF.moved hW (SF.kept hF (fun a h1 h2 => hS.2.1 a h1 h2))) hFc⟩⟩ rfl rfl hl.1 rfl (lv_room (Nat.le_of_ble_eq_true rfl)) d_FontShelf_settle_25 ⟨Nat.le_of_ble_eq_true rfl, Nat.le_of_ble_eq_true rfl⟩) hS (fun q _ h => hFc q h) hFc ?_
  clear hPc hDc hKc hS
  intro r_4 u_5 t H1 locs ht hvm hw hB hz1 hk1 hS
  obtain ⟨lz_6, rfl⟩ : ∃ z, z = u_5 := ⟨_, rfl⟩
  obtain ⟨hP1, hK1, hD1⟩ := hB
  rw [ht] at hP1
  have hK1 := va_K.moved hvm.symm hK1
  try dsimp only at hw
  have hJ := va_join (wr := [(s_chosen, .inl (cc, 2, .inl (upd ch 0 (-1))))]) (w1 := [(h0, .inr (3, [.ref s_ids, .ref s_attributes, .ref s_permanent, .int 0, .ref s_glyphs, .int s_glyphCount, .ref s_dots, .int s_used, .ref s_wishes, .ref s_pins, .int s_id, .int s_code, .ref s_chosen, .int 0, .ref s_left, .ref s_coming])), (s_pins, .inl (cp, 2, .inl pn)), (s_left, .inl (cl, 32, .inl lz_6)), (s_wishes, .inl (cw, 14, .inl wi))]) hP hD [1, 2, 3, 4] [0] rfl rfl (by decide) (by decide) hk1 hFc hP1 hD1
  clear hP hD hk1 hFc hP1 hD1 hz1
  obtain ⟨hP, hD⟩ := hJ
  clear hK1 ht hvm
  generalize H1 = H at hP hS ⊢
  replace hP : va_P (dC, dI) vcl [(s_chosen, .inl (cc, 2, .inl (upd ch 0 (-1)))), (h0, .inr (3, [.ref s_ids, .ref s_attributes, .ref s_permanent, .int 0, .ref s_glyphs, .int s_glyphCount, .ref s_dots, .int s_used, .ref s_wishes, .ref s_pins, .int s_id, .int s_code, .ref s_chosen, .int 0, .ref s_left, .ref s_coming])), (s_pins, .inl (cp, 2, .inl pn)), (s_left, .inl (cl, 32, .inl lz_6)), (s_wishes, .inl (cw, 14, .inl wi))] H := hP
  replace hD : va_D A [(s_chosen, .inl (cc, 2, .inl (upd ch 0 (-1)))), (h0, .inr (3, [.ref s_ids, .ref s_attributes, .ref s_permanent, .int 0, .ref s_glyphs, .int s_glyphCount, .ref s_dots, .int s_used, .ref s_wishes, .ref s_pins, .int s_id, .int s_code, .ref s_chosen, .int 0, .ref s_left, .ref s_coming])), (s_pins, .inl (cp, 2, .inl pn)), (s_left, .inl (cl, 32, .inl lz_6)), (s_wishes, .inl (cw, 14, .inl wi))] := hD
  obtain rfl := hw
  refine va_iast hx hb hK hP hD hS 0 3 rfl rfl (show ¬ ((1 : Int32) < 0 ∨ 2 ≤ (1 : Int32).toNatClampNeg) by decide) d_FontShelf_settle_28 ?_
  clear hP hD hS
  intro H locs hP hD hS
  rw [show (1 : Int32).toNatClampNeg = 1 by decide] at hP hD
  replace hP : va_P (dC, dI) vcl [(s_chosen, .inl (cc, 2, .inl (upd (upd ch 0 (-1)) 1 (-1)))), (h0, .inr (3, [.ref s_ids, .ref s_attributes, .ref s_permanent, .int 0, .ref s_glyphs, .int s_glyphCount, .ref s_dots, .int s_used, .ref s_wishes, .ref s_pins, .int s_id, .int s_code, .ref s_chosen, .int 0, .ref s_left, .ref s_coming])), (s_pins, .inl (cp, 2, .inl pn)), (s_left, .inl (cl, 32, .inl lz_6)), (s_wishes, .inl (cw, 14, .inl wi))] H := hP
  replace hD : va_D A [(s_chosen, .inl (cc, 2, .inl (upd (upd ch 0 (-1)) 1 (-1)))), (h0, .inr (3, [.ref s_ids, .ref s_attributes, .ref s_permanent, .int 0, .ref s_glyphs, .int s_glyphCount, .ref s_dots, .int s_used, .ref s_wishes, .ref s_pins, .int s_id, .int s_code, .ref s_chosen, .int 0, .ref s_left, .ref s_coming])), (s_pins, .inl (cp, 2, .inl pn)), (s_left, .inl (cl, 32, .inl lz_6)), (s_wishes, .inl (cw, 14, .inl wi))] := hD
  refine lv_aload_n hx hb d_FontShelf_settle_29 rfl (lv_at hl 0 rfl) ?_
  refine lv_iconst (v := 1) hx hb d_FontShelf_settle_30 (by decide) ?_
  refine va_put (D := (dC, dI)) (ci := 3) (v := .int 1) (ty := .boolean) (C := R_FontShelf) (T := F_FontShelf) (N := 16) hx hb hwd i_FontShelf t_FontShelf to_FontShelf no_FontShelf hown hK hP hD hS 1 rfl rfl 13 (by decide) (hwd _ wd_2_114) (fun _ h9 => h9) rfl (by decide +kernel) (by decide) rfl (Nat.le_of_ble_eq_true rfl) d_FontShelf_settle_31 ?_
  clear hP hD hS
  intro H locs hP hD hS
  replace hP : va_P (dC, dI) vcl [(s_chosen, .inl (cc, 2, .inl (upd (upd ch 0 (-1)) 1 (-1)))), (h0, .inr (3, [.ref s_ids, .ref s_attributes, .ref s_permanent, .int 0, .ref s_glyphs, .int s_glyphCount, .ref s_dots, .int s_used, .ref s_wishes, .ref s_pins, .int s_id, .int s_code, .ref s_chosen, .int 1, .ref s_left, .ref s_coming])), (s_pins, .inl (cp, 2, .inl pn)), (s_left, .inl (cl, 32, .inl lz_6)), (s_wishes, .inl (cw, 14, .inl wi))] H := hP
  replace hD : va_D A [(s_chosen, .inl (cc, 2, .inl (upd (upd ch 0 (-1)) 1 (-1)))), (h0, .inr (3, [.ref s_ids, .ref s_attributes, .ref s_permanent, .int 0, .ref s_glyphs, .int s_glyphCount, .ref s_dots, .int s_used, .ref s_wishes, .ref s_pins, .int s_id, .int s_code, .ref s_chosen, .int 1, .ref s_left, .ref s_coming])), (s_pins, .inl (cp, 2, .inl pn)), (s_left, .inl (cl, 32, .inl lz_6)), (s_wishes, .inl (cw, 14, .inl wi))] := hD
  have hP9 := hP.sub (ws' := [(s_chosen, .inl (cc, 2, .inl (upd (upd ch 0 (-1)) 1 (-1)))), (h0, .inr (3, [.ref s_ids, .ref s_attributes, .ref s_permanent, .int 0, .ref s_glyphs, .int s_glyphCount, .ref s_dots, .int s_used, .ref s_wishes, .ref s_pins, .int s_id, .int s_code, .ref s_chosen, .int 1, .ref s_left, .ref s_coming])), (s_pins, .inl (cp, 2, .inl pn)), (s_left, .inl (cl, 32, .inl lz_6)), (s_wishes, .inl (cw, 14, .inl wi))]) [0, 1, 2, 3, 4] rfl
  have hD9 := hD.sub (ws' := [(s_chosen, .inl (cc, 2, .inl (upd (upd ch 0 (-1)) 1 (-1)))), (h0, .inr (3, [.ref s_ids, .ref s_attributes, .ref s_permanent, .int 0, .ref s_glyphs, .int s_glyphCount, .ref s_dots, .int s_used, .ref s_wishes, .ref s_pins, .int s_id, .int s_code, .ref s_chosen, .int 1, .ref s_left, .ref s_coming])), (s_pins, .inl (cp, 2, .inl pn)), (s_left, .inl (cl, 32, .inl lz_6)), (s_wishes, .inl (cw, 14, .inl wi))]) [0, 1, 2, 3, 4] (by decide) rfl
  have hK9 := hK.sub (tys' := [(cc, .int), (cp, .int), (cl, .boolean), (cw, .int)]) [3, 0, 1, 2] rfl
  exact W.vret hx hb hr (fun t ht hW => ⟨⟨(lz_6), rfl, (trivial), by rw [ht]; exact hP9, va_K.moved hW.alike hK9, hD9⟩, hS.F ht⟩) hS.2.2 d_FontShelf_settle_34

abbrev at_c_Shelf_endJob_S (dC : Nat → ClassId) (dI : Nat → Nat → Nat) (h0 : Nat) (s_ids : Nat) (s_attributes : Nat) (s_permanent : Nat) (s_glyphs : Nat) (s_glyphCount : Int32) (s_dots : Nat) (s_used : Int32) (s_wishes : Nat) (s_pins : Nat) (s_id : Int32) (s_code : Int32) (s_chosen : Nat) (s_chosenKnown : Int32) (s_left : Nat) (s_coming : Nat) (cp : ClassId) (pn : Nat → Int32) (cl : ClassId) (lf : Nat → Int32) (cw : ClassId) (wi : Nat → Int32) (cc : ClassId) (ch : Nat → Int32) (A : Nat → Prop) (u : (Nat → Int32)) (t : State) : Prop := match u with
  | fc0 => va_P (dC, dI) vcl [(s_chosen, .inl (cc, 2, .inl (upd (upd ch 0 (-1)) 1 (-1)))), (h0, .inr (3, [.ref s_ids, .ref s_attributes, .ref s_permanent, .int 0, .ref s_glyphs, .int s_glyphCount, .ref s_dots, .int s_used, .ref s_wishes, .ref s_pins, .int 0, .int 0, .ref s_chosen, .int 1, .ref s_left, .ref s_coming])), (s_pins, .inl (cp, 2, .inl (upd (upd pn 0 ((-1) : Int32)) 1 ((-1) : Int32)))), (s_left, .inl (cl, 32, .inl fc0)), (s_wishes, .inl (cw, 14, .inl (upd (upd (upd (upd (upd (upd (upd (upd (upd (upd (upd (upd (upd (upd wi 0 277) 1 0) 2 1000) 3 1200) 4 0) 5 0) 6 3) 7 277) 8 0) 9 1000) 10 1200) 11 0) 12 0) 13 3)))] t.heap ∧ va_K (dC, dI) vcl [(cc, .int), (cp, .int), (cl, .boolean), (cw, .int)] t ∧ va_D A [(s_chosen, .inl (cc, 2, .inl (upd (upd ch 0 (-1)) 1 (-1)))), (h0, .inr (3, [.ref s_ids, .ref s_attributes, .ref s_permanent, .int 0, .ref s_glyphs, .int s_glyphCount, .ref s_dots, .int s_used, .ref s_wishes, .ref s_pins, .int 0, .int 0, .ref s_chosen, .int 1, .ref s_left, .ref s_coming])), (s_pins, .inl (cp, 2, .inl (upd (upd pn 0 ((-1) : Int32)) 1 ((-1) : Int32)))), (s_left, .inl (cl, 32, .inl fc0)), (s_wishes, .inl (cw, 14, .inl (upd (upd (upd (upd (upd (upd (upd (upd (upd (upd (upd (upd (upd (upd wi 0 277) 1 0) 2 1000) 3 1200) 4 0) 5 0) 6 3) 7 277) 8 0) 9 1000) 10 1200) 11 0) 12 0) 13 3)))]
abbrev po_c_Shelf_endJob_S (h0 : Nat) (s_ids : Nat) (s_attributes : Nat) (s_permanent : Nat) (s_glyphs : Nat) (s_glyphCount : Int32) (s_dots : Nat) (s_used : Int32) (s_wishes : Nat) (s_pins : Nat) (s_id : Int32) (s_code : Int32) (s_chosen : Nat) (s_chosenKnown : Int32) (s_left : Nat) (s_coming : Nat) (cp : ClassId) (pn : Nat → Int32) (cl : ClassId) (lf : Nat → Int32) (cw : ClassId) (wi : Nat → Int32) (cc : ClassId) (ch : Nat → Int32) (u : (Nat → Int32)) : Prop := match u with
  | fc0 => True
abbrev q_c_Shelf_endJob_S (dC : Nat → ClassId) (dI : Nat → Nat → Nat) (h0 : Nat) (s_ids : Nat) (s_attributes : Nat) (s_permanent : Nat) (s_glyphs : Nat) (s_glyphCount : Int32) (s_dots : Nat) (s_used : Int32) (s_wishes : Nat) (s_pins : Nat) (s_id : Int32) (s_code : Int32) (s_chosen : Nat) (s_chosenKnown : Int32) (s_left : Nat) (s_coming : Nat) (cp : ClassId) (pn : Nat → Int32) (cl : ClassId) (lf : Nat → Int32) (cw : ClassId) (wi : Nat → Int32) (cc : ClassId) (ch : Nat → Int32) (A : Nat → Prop) : Array Value → State → Outcome → State → Prop := va_Qv (po_c_Shelf_endJob_S h0 s_ids s_attributes s_permanent s_glyphs s_glyphCount s_dots s_used s_wishes s_pins s_id s_code s_chosen s_chosenKnown s_left s_coming cp pn cl lf cw wi cc ch) (at_c_Shelf_endJob_S dC dI h0 s_ids s_attributes s_permanent s_glyphs s_glyphCount s_dots s_used s_wishes s_pins s_id s_code s_chosen s_chosenKnown s_left s_coming cp pn cl lf cw wi cc ch A) A
abbrev rm_c_Shelf_endJob_S : Room := { frames := 4, cells := 0, slots := 0, locals := 92 }
set_option maxHeartbeats 4000000 in
set_option maxRecDepth 100000 in
theorem c_Shelf_endJob_S (l : Launch) (dC : Nat → ClassId) (dI : Nat → Nat → Nat) (tt : Nat → Nat) (h0 : Nat) (s_ids : Nat) (s_attributes : Nat) (s_permanent : Nat) (s_glyphs : Nat) (s_glyphCount : Int32) (s_dots : Nat) (s_used : Int32) (s_wishes : Nat) (s_pins : Nat) (s_id : Int32) (s_code : Int32) (s_chosen : Nat) (s_chosenKnown : Int32) (s_left : Nat) (s_coming : Nat) (cp : ClassId) (pn : Nat → Int32) (cl : ClassId) (lf : Nat → Int32) (cw : ClassId) (wi : Nat → Int32) (cc : ClassId) (ch : Nat → Int32) (sz : Nat)  : Met l y_FontShelf_endJob w_FontShelf_endJob rm_c_Shelf_endJob_S (va_Pc [.ref h0] (fun U => U.heap.size = sz ∧ va_P (dC, dI) vcl [(h0, .inr (3, [.ref s_ids, .ref s_attributes, .ref s_permanent, .int 0, .ref s_glyphs, .int s_glyphCount, .ref s_dots, .int s_used, .ref s_wishes, .ref s_pins, .int s_id, .int s_code, .ref s_chosen, .int s_chosenKnown, .ref s_left, .ref s_coming])), (s_pins, .inl (cp, 2, .inl pn)), (s_left, .inl (cl, 32, .inl lf)), (s_wishes, .inl (cw, 14, .inl wi)), (s_chosen, .inl (cc, 2, .inl ch))] U.heap ∧ va_K (dC, dI) vcl [(cp, .int), (cl, .boolean), (cw, .int), (cc, .int)] U ∧ va_D (fun _ => True) [(h0, .inr (3, [.ref s_ids, .ref s_attributes, .ref s_permanent, .int 0, .ref s_glyphs, .int s_glyphCount, .ref s_dots, .int s_used, .ref s_wishes, .ref s_pins, .int s_id, .int s_code, .ref s_chosen, .int s_chosenKnown, .ref s_left, .ref s_coming])), (s_pins, .inl (cp, 2, .inl pn)), (s_left, .inl (cl, 32, .inl lf)), (s_wishes, .inl (cw, 14, .inl wi)), (s_chosen, .inl (cc, 2, .inl ch))] ∧ SF tt (va_A [(h0, .inr (3, [.ref s_ids, .ref s_attributes, .ref s_permanent, .int 0, .ref s_glyphs, .int s_glyphCount, .ref s_dots, .int s_used, .ref s_wishes, .ref s_pins, .int s_id, .int s_code, .ref s_chosen, .int s_chosenKnown, .ref s_left, .ref s_coming])), (s_pins, .inl (cp, 2, .inl pn)), (s_left, .inl (cl, 32, .inl lf)), (s_wishes, .inl (cw, 14, .inl wi)), (s_chosen, .inl (cc, 2, .inl ch))] sz) U U.heap)) (q_c_Shelf_endJob_S dC dI h0 s_ids s_attributes s_permanent s_glyphs s_glyphCount s_dots s_used s_wishes s_pins s_id s_code s_chosen s_chosenKnown s_left s_coming cp pn cl lf cw wi cc ch (va_A [(h0, .inr (3, [.ref s_ids, .ref s_attributes, .ref s_permanent, .int 0, .ref s_glyphs, .int s_glyphCount, .ref s_dots, .int s_used, .ref s_wishes, .ref s_pins, .int s_id, .int s_code, .ref s_chosen, .int s_chosenKnown, .ref s_left, .ref s_coming])), (s_pins, .inl (cp, 2, .inl pn)), (s_left, .inl (cl, 32, .inl lf)), (s_wishes, .inl (cw, 14, .inl wi)), (s_chosen, .inl (cc, 2, .inl ch))] sz)) 0 0 (va_A [(h0, .inr (3, [.ref s_ids, .ref s_attributes, .ref s_permanent, .int 0, .ref s_glyphs, .int s_glyphCount, .ref s_dots, .int s_used, .ref s_wishes, .ref s_pins, .int s_id, .int s_code, .ref s_chosen, .int s_chosenKnown, .ref s_left, .ref s_coming])), (s_pins, .inl (cp, 2, .inl pn)), (s_left, .inl (cl, 32, .inl lf)), (s_wishes, .inl (cw, 14, .inl wi)), (s_chosen, .inl (cc, 2, .inl ch))] sz) := by
  refine Met.ofW (cc := b_FontShelf_endJob) (maxL := 2) (ret := none) (by decide) rfl ?_
  intro p e s m args below meth c s₁ B hml hv
  obtain ⟨rfl, hsz, hP, hK, hD0, hF⟩ := hv
  have hx := B.exec
  have hb := B.bytes
  have hr := B.returns
  have hwd : ∀ w ∈ gT, w.before _ s = true := fun w h => atoms_spec (ws := w_FontShelf_endJob) B.pre w (List.mem_cons_of_mem _ h)
  have hown : s.vm.findClass R_FontShelf = some m.cls := findClass_of_methodNamed B.named
  have hlocks := B.notSynchronized
  subst hsz
  have hD := hD0.self (sz := s.heap.size)
  generalize hAe : va_A [(h0, .inr (3, [.ref s_ids, .ref s_attributes, .ref s_permanent, .int 0, .ref s_glyphs, .int s_glyphCount, .ref s_dots, .int s_used, .ref s_wishes, .ref s_pins, .int s_id, .int s_code, .ref s_chosen, .int s_chosenKnown, .ref s_left, .ref s_coming])), (s_pins, .inl (cp, 2, .inl pn)), (s_left, .inl (cl, 32, .inl lf)), (s_wishes, .inl (cw, 14, .inl wi)), (s_chosen, .inl (cc, 2, .inl ch))] s.heap.size = A at hD hF ⊢
  have hA : ∀ q : Nat, s.heap.size ≤ q → A q := fun q h => by rw [← hAe]; exact Or.inr h
  have hS : va_S A s.heap s.heap [] := va_S.rf
  have hP : va_P (dC, dI) vcl [(h0, .inr (3, [.ref s_ids, .ref s_attributes, .ref s_permanent, .int 0, .ref s_glyphs, .int s_glyphCount, .ref s_dots, .int s_used, .ref s_wishes, .ref s_pins, .int s_id, .int s_code, .ref s_chosen, .int s_chosenKnown, .ref s_left, .ref s_coming])), (s_pins, .inl (cp, 2, .inl pn)), (s_left, .inl (cl, 32, .inl lf)), (s_wishes, .inl (cw, 14, .inl wi)), (s_chosen, .inl (cc, 2, .inl ch))] s.heap := hP
  have hl := lv_entry ([.ref h0]) (n := 2) (Nat.le_of_ble_eq_true rfl)
  rw [lg_entry_eq]
  generalize (lg_sl ([.ref h0]) ++ List.replicate (2 - (lg_sl ([.ref h0])).length) Slot.unset).toArray = ls at hl ⊢
  have hl : lv_has ls 2 [(0, .ref h0)] := hl
  refine lv_aload_n hx hb d_FontShelf_endJob_0 rfl (lv_at hl 0 rfl) ?_
  have hPc := hP.sub (ws' := [(h0, .inr (3, [.ref s_ids, .ref s_attributes, .ref s_permanent, .int 0, .ref s_glyphs, .int s_glyphCount, .ref s_dots, .int s_used, .ref s_wishes, .ref s_pins, .int s_id, .int s_code, .ref s_chosen, .int s_chosenKnown, .ref s_left, .ref s_coming]))]) [0] rfl
  have hDc := hD.sub (ws' := [(h0, .inr (3, [.ref s_ids, .ref s_attributes, .ref s_permanent, .int 0, .ref s_glyphs, .int s_glyphCount, .ref s_dots, .int s_used, .ref s_wishes, .ref s_pins, .int s_id, .int s_code, .ref s_chosen, .int s_chosenKnown, .ref s_left, .ref s_coming]))]) [0] (by decide) rfl
  have hKc := hK.sub (tys' := []) [] rfl
  have hFc := va_free (wc := [(h0, .inr (3, [.ref s_ids, .ref s_attributes, .ref s_permanent, .int 0, .ref s_glyphs, .int s_glyphCount, .ref s_dots, .int s_used, .ref s_wishes, .ref s_pins, .int s_id, .int s_code, .ref s_chosen, .int s_chosenKnown, .ref s_left, .ref s_coming]))]) hD hS hA [0] rfl
  refine va_callv (va_runV (As := []) (rest := []) ⟨hx, hb, hml, hown, hwd⟩ (c_dropPassing_0 l dC dI tt h0 s_ids s_attributes s_permanent s_glyphs s_glyphCount s_dots s_used s_wishes s_pins s_id s_code s_chosen s_chosenKnown s_left s_coming s.heap.size ) (cwV 0 hwd (gV gd_FontShelf_dropPassing wd_2_16 wd_2_17 wd_2_18 wd_1_5) rfl rfl rfl (by decide +kernel) ⟨Nat.le_of_ble_eq_true rfl, Nat.le_of_ble_eq_true rfl⟩) ⟨fun a U g mk q => by obtain ⟨q0, q1, qP, qK, qD, qF⟩ := q; exact ⟨q0, q1, qP, va_K.moved (u := U) (U := U.calling g mk a) (Vm.Alike.refl U.vm) qK, qD, SF.same (u := U) (U := U.calling g mk a) rfl qF⟩, va_recv hKc hPc (ci := 3) (q0 := 0) rfl rfl, fun U hU hW => ⟨rfl, by rw [hU], by rw [hU]; exact hPc, va_K.moved hW.alike hKc, hDc.weaken (fun _ _ _ _ => trivial), by rw [hU]; exact SF.narrow (SF.moved hW (SF.kept hF (fun a h1 h2 => hS.2.1 a h1 h2))) hFc⟩⟩ rfl rfl hl.1 rfl (lv_room (Nat.le_of_ble_eq_true rfl)) d_FontShelf_endJob_1 ⟨Nat.le_of_ble_eq_true rfl, Nat.le_of_ble_eq_true rfl⟩) hS (fun q _ h => hFc q h) hFc ?_
  clear hPc hDc hKc hS
  intro u_2 t H1 locs ht hvm hw hB hz1 hk1 hS
  obtain ⟨hP1, hK1, hD1⟩ := hB
  rw [ht] at hP1
  have hK1 := va_K.moved hvm.symm hK1
  try dsimp only at hw
  have hJ := va_join (wr := [(s_pins, .inl (cp, 2, .inl pn)), (s_left, .inl (cl, 32, .inl lf)), (s_wishes, .inl (cw, 14, .inl wi)), (s_chosen, .inl (cc, 2, .inl ch))]) (w1 := [(h0, .inr (3, [.ref s_ids, .ref s_attributes, .ref s_permanent, .int 0, .ref s_glyphs, .int s_glyphCount, .ref s_dots, .int s_used, .ref s_wishes, .ref s_pins, .int s_id, .int s_code, .ref s_chosen, .int 0, .ref s_left, .ref s_coming]))]) hP hD [0] [1, 2, 3, 4] rfl rfl (by decide) (by decide) hk1 hFc hP1 hD1
  clear hP hD hk1 hFc hP1 hD1 hz1
  obtain ⟨hP, hD⟩ := hJ
  clear hK1 ht hvm
  generalize H1 = H at hP hS ⊢
  replace hP : va_P (dC, dI) vcl [(s_pins, .inl (cp, 2, .inl pn)), (s_left, .inl (cl, 32, .inl lf)), (s_wishes, .inl (cw, 14, .inl wi)), (s_chosen, .inl (cc, 2, .inl ch)), (h0, .inr (3, [.ref s_ids, .ref s_attributes, .ref s_permanent, .int 0, .ref s_glyphs, .int s_glyphCount, .ref s_dots, .int s_used, .ref s_wishes, .ref s_pins, .int s_id, .int s_code, .ref s_chosen, .int 0, .ref s_left, .ref s_coming]))] H := hP
  replace hD : va_D A [(s_pins, .inl (cp, 2, .inl pn)), (s_left, .inl (cl, 32, .inl lf)), (s_wishes, .inl (cw, 14, .inl wi)), (s_chosen, .inl (cc, 2, .inl ch)), (h0, .inr (3, [.ref s_ids, .ref s_attributes, .ref s_permanent, .int 0, .ref s_glyphs, .int s_glyphCount, .ref s_dots, .int s_used, .ref s_wishes, .ref s_pins, .int s_id, .int s_code, .ref s_chosen, .int 0, .ref s_left, .ref s_coming]))] := hD
  refine lv_iconst (v := 0) hx hb d_FontShelf_endJob_4 (by decide) ?_
  refine lv_istore_n (lv' := [(1, .int 0), (0, .ref h0)]) hx hb d_FontShelf_endJob_5 rfl hl (by decide) rfl ?_
  clear hl
  intro ls hl
  refine lv_iload_n hx hb d_FontShelf_endJob_6 rfl (lv_at hl 0 rfl) ?_
  refine lv_aload_n hx hb d_FontShelf_endJob_7 rfl (lv_at hl 1 rfl) ?_
  refine va_get (D := (dC, dI)) (ci := 3) (v := .ref s_wishes) (C := R_FontShelf) (T := F_FontShelf) (N := 16) hx hb hwd i_FontShelf hown hK hP 4 rfl rfl 8 (by decide) (hwd _ wd_2_109) (fun _ h9 => h9) rfl d_FontShelf_endJob_8 ?_
  refine va_alen (v := 14) hx hb hK hP 2 2 rfl rfl rfl d_FontShelf_endJob_11 ?_
  refine lv_icmp_ge (tgt := 35) hx hb d_FontShelf_endJob_12 (by decide) (fun c12 => absurd c12 (by decide)) (fun _ => ?_)
  refine lv_aload_n hx hb d_FontShelf_endJob_15 rfl (lv_at hl 1 rfl) ?_
  refine va_get (D := (dC, dI)) (ci := 3) (v := .ref s_wishes) (C := R_FontShelf) (T := F_FontShelf) (N := 16) hx hb hwd i_FontShelf hown hK hP 4 rfl rfl 8 (by decide) (hwd _ wd_2_109) (fun _ h9 => h9) rfl d_FontShelf_endJob_16 ?_
  refine lv_iload_n hx hb d_FontShelf_endJob_19 rfl (lv_at hl 0 rfl) ?_
  refine va_gets hx hb (SF_p2 hF).1 hS hown (hwd _ wd_2_36) (fun _ h9 => h9) d_FontShelf_endJob_20 ?_
  refine lv_iload_n hx hb d_FontShelf_endJob_23 rfl (lv_at hl 0 rfl) ?_
  refine lv_bipush (v := 7) hx hb d_FontShelf_endJob_24 (by decide) ?_
  refine lv_irem hx hb d_FontShelf_endJob_26 (by decide) ?_
  refine lv_topi (fun y_3 ey_3 => ?_)
  obtain rfl : y_3 = (0 : Int32) := ey_3.trans (by decide)
  refine va_ti (v := .int 277) hx hb (SF_p2 hF).2 hS (show ¬ ((0 : Int32) < 0 ∨ 7 ≤ (0 : Int32).toNatClampNeg) by decide) rfl d_FontShelf_endJob_27 ?_
  refine va_iast hx hb hK hP hD hS 2 2 rfl rfl (show ¬ ((0 : Int32) < 0 ∨ 14 ≤ (0 : Int32).toNatClampNeg) by decide) d_FontShelf_endJob_28 ?_
  clear hP hD hS
  intro H locs hP hD hS
  rw [show (0 : Int32).toNatClampNeg = 0 by decide] at hP hD
  replace hP : va_P (dC, dI) vcl [(s_pins, .inl (cp, 2, .inl pn)), (s_left, .inl (cl, 32, .inl lf)), (s_wishes, .inl (cw, 14, .inl (upd wi 0 277))), (s_chosen, .inl (cc, 2, .inl ch)), (h0, .inr (3, [.ref s_ids, .ref s_attributes, .ref s_permanent, .int 0, .ref s_glyphs, .int s_glyphCount, .ref s_dots, .int s_used, .ref s_wishes, .ref s_pins, .int s_id, .int s_code, .ref s_chosen, .int 0, .ref s_left, .ref s_coming]))] H := hP
  replace hD : va_D A [(s_pins, .inl (cp, 2, .inl pn)), (s_left, .inl (cl, 32, .inl lf)), (s_wishes, .inl (cw, 14, .inl (upd wi 0 277))), (s_chosen, .inl (cc, 2, .inl ch)), (h0, .inr (3, [.ref s_ids, .ref s_attributes, .ref s_permanent, .int 0, .ref s_glyphs, .int s_glyphCount, .ref s_dots, .int s_used, .ref s_wishes, .ref s_pins, .int s_id, .int s_code, .ref s_chosen, .int 0, .ref s_left, .ref s_coming]))] := hD
  refine lv_iinc (v := 1) (lv' := [(1, .int 1), (0, .ref h0)]) hx hb d_FontShelf_endJob_29 hl (k := 0) rfl (by decide) (by decide) rfl ?_
  clear hl
  intro ls hl
  refine lv_goto (tgt := 6) hx hb d_FontShelf_endJob_32 (by decide) ?_
  refine lv_iload_n hx hb d_FontShelf_endJob_6 rfl (lv_at hl 0 rfl) ?_
  refine lv_aload_n hx hb d_FontShelf_endJob_7 rfl (lv_at hl 1 rfl) ?_
  refine va_get (D := (dC, dI)) (ci := 3) (v := .ref s_wishes) (C := R_FontShelf) (T := F_FontShelf) (N := 16) hx hb hwd i_FontShelf hown hK hP 4 rfl rfl 8 (by decide) (hwd _ wd_2_109) (fun _ h9 => h9) rfl d_FontShelf_endJob_8 ?_
  refine va_alen (v := 14) hx hb hK hP 2 2 rfl rfl rfl d_FontShelf_endJob_11 ?_
  refine lv_icmp_ge (tgt := 35) hx hb d_FontShelf_endJob_12 (by decide) (fun c12 => absurd c12 (by decide)) (fun _ => ?_)
  refine lv_aload_n hx hb d_FontShelf_endJob_15 rfl (lv_at hl 1 rfl) ?_
  refine va_get (D := (dC, dI)) (ci := 3) (v := .ref s_wishes) (C := R_FontShelf) (T := F_FontShelf) (N := 16) hx hb hwd i_FontShelf hown hK hP 4 rfl rfl 8 (by decide) (hwd _ wd_2_109) (fun _ h9 => h9) rfl d_FontShelf_endJob_16 ?_
  refine lv_iload_n hx hb d_FontShelf_endJob_19 rfl (lv_at hl 0 rfl) ?_
  refine va_gets hx hb (SF_p2 hF).1 hS hown (hwd _ wd_2_36) (fun _ h9 => h9) d_FontShelf_endJob_20 ?_
  refine lv_iload_n hx hb d_FontShelf_endJob_23 rfl (lv_at hl 0 rfl) ?_
  refine lv_bipush (v := 7) hx hb d_FontShelf_endJob_24 (by decide) ?_
  refine lv_irem hx hb d_FontShelf_endJob_26 (by decide) ?_
  refine lv_topi (fun y_4 ey_4 => ?_)
  obtain rfl : y_4 = (1 : Int32) := ey_4.trans (by decide)
  refine va_ti (v := .int 0) hx hb (SF_p2 hF).2 hS (show ¬ ((1 : Int32) < 0 ∨ 7 ≤ (1 : Int32).toNatClampNeg) by decide) rfl d_FontShelf_endJob_27 ?_
  refine va_iast hx hb hK hP hD hS 2 2 rfl rfl (show ¬ ((1 : Int32) < 0 ∨ 14 ≤ (1 : Int32).toNatClampNeg) by decide) d_FontShelf_endJob_28 ?_
  clear hP hD hS
  intro H locs hP hD hS
  rw [show (1 : Int32).toNatClampNeg = 1 by decide] at hP hD
  replace hP : va_P (dC, dI) vcl [(s_pins, .inl (cp, 2, .inl pn)), (s_left, .inl (cl, 32, .inl lf)), (s_wishes, .inl (cw, 14, .inl (upd (upd wi 0 277) 1 0))), (s_chosen, .inl (cc, 2, .inl ch)), (h0, .inr (3, [.ref s_ids, .ref s_attributes, .ref s_permanent, .int 0, .ref s_glyphs, .int s_glyphCount, .ref s_dots, .int s_used, .ref s_wishes, .ref s_pins, .int s_id, .int s_code, .ref s_chosen, .int 0, .ref s_left, .ref s_coming]))] H := hP
  replace hD : va_D A [(s_pins, .inl (cp, 2, .inl pn)), (s_left, .inl (cl, 32, .inl lf)), (s_wishes, .inl (cw, 14, .inl (upd (upd wi 0 277) 1 0))), (s_chosen, .inl (cc, 2, .inl ch)), (h0, .inr (3, [.ref s_ids, .ref s_attributes, .ref s_permanent, .int 0, .ref s_glyphs, .int s_glyphCount, .ref s_dots, .int s_used, .ref s_wishes, .ref s_pins, .int s_id, .int s_code, .ref s_chosen, .int 0, .ref s_left, .ref s_coming]))] := hD
  refine lv_iinc (v := 2) (lv' := [(1, .int 2), (0, .ref h0)]) hx hb d_FontShelf_endJob_29 hl (k := 0) rfl (by decide) (by decide) rfl ?_
  clear hl
  intro ls hl
  refine lv_goto (tgt := 6) hx hb d_FontShelf_endJob_32 (by decide) ?_
  refine lv_iload_n hx hb d_FontShelf_endJob_6 rfl (lv_at hl 0 rfl) ?_
  refine lv_aload_n hx hb d_FontShelf_endJob_7 rfl (lv_at hl 1 rfl) ?_
  refine va_get (D := (dC, dI)) (ci := 3) (v := .ref s_wishes) (C := R_FontShelf) (T := F_FontShelf) (N := 16) hx hb hwd i_FontShelf hown hK hP 4 rfl rfl 8 (by decide) (hwd _ wd_2_109) (fun _ h9 => h9) rfl d_FontShelf_endJob_8 ?_
  refine va_alen (v := 14) hx hb hK hP 2 2 rfl rfl rfl d_FontShelf_endJob_11 ?_
  refine lv_icmp_ge (tgt := 35) hx hb d_FontShelf_endJob_12 (by decide) (fun c12 => absurd c12 (by decide)) (fun _ => ?_)
  refine lv_aload_n hx hb d_FontShelf_endJob_15 rfl (lv_at hl 1 rfl) ?_
  refine va_get (D := (dC, dI)) (ci := 3) (v := .ref s_wishes) (C := R_FontShelf) (T := F_FontShelf) (N := 16) hx hb hwd i_FontShelf hown hK hP 4 rfl rfl 8 (by decide) (hwd _ wd_2_109) (fun _ h9 => h9) rfl d_FontShelf_endJob_16 ?_
  refine lv_iload_n hx hb d_FontShelf_endJob_19 rfl (lv_at hl 0 rfl) ?_
  refine va_gets hx hb (SF_p2 hF).1 hS hown (hwd _ wd_2_36) (fun _ h9 => h9) d_FontShelf_endJob_20 ?_
  refine lv_iload_n hx hb d_FontShelf_endJob_23 rfl (lv_at hl 0 rfl) ?_
  refine lv_bipush (v := 7) hx hb d_FontShelf_endJob_24 (by decide) ?_
  refine lv_irem hx hb d_FontShelf_endJob_26 (by decide) ?_
  refine lv_topi (fun y_5 ey_5 => ?_)
  obtain rfl : y_5 = (2 : Int32) := ey_5.trans (by decide)
  refine va_ti (v := .int 1000) hx hb (SF_p2 hF).2 hS (show ¬ ((2 : Int32) < 0 ∨ 7 ≤ (2 : Int32).toNatClampNeg) by decide) rfl d_FontShelf_endJob_27 ?_
  refine va_iast hx hb hK hP hD hS 2 2 rfl rfl (show ¬ ((2 : Int32) < 0 ∨ 14 ≤ (2 : Int32).toNatClampNeg) by decide) d_FontShelf_endJob_28 ?_
  clear hP hD hS
  intro H locs hP hD hS
  rw [show (2 : Int32).toNatClampNeg = 2 by decide] at hP hD
  replace hP : va_P (dC, dI) vcl [(s_pins, .inl (cp, 2, .inl pn)), (s_left, .inl (cl, 32, .inl lf)), (s_wishes, .inl (cw, 14, .inl (upd (upd (upd wi 0 277) 1 0) 2 1000))), (s_chosen, .inl (cc, 2, .inl ch)), (h0, .inr (3, [.ref s_ids, .ref s_attributes, .ref s_permanent, .int 0, .ref s_glyphs, .int s_glyphCount, .ref s_dots, .int s_used, .ref s_wishes, .ref s_pins, .int s_id, .int s_code, .ref s_chosen, .int 0, .ref s_left, .ref s_coming]))] H := hP
  replace hD : va_D A [(s_pins, .inl (cp, 2, .inl pn)), (s_left, .inl (cl, 32, .inl lf)), (s_wishes, .inl (cw, 14, .inl (upd (upd (upd wi 0 277) 1 0) 2 1000))), (s_chosen, .inl (cc, 2, .inl ch)), (h0, .inr (3, [.ref s_ids, .ref s_attributes, .ref s_permanent, .int 0, .ref s_glyphs, .int s_glyphCount, .ref s_dots, .int s_used, .ref s_wishes, .ref s_pins, .int s_id, .int s_code, .ref s_chosen, .int 0, .ref s_left, .ref s_coming]))] := hD
  refine lv_iinc (v := 3) (lv' := [(1, .int 3), (0, .ref h0)]) hx hb d_FontShelf_endJob_29 hl (k := 0) rfl (by decide) (by decide) rfl ?_
  clear hl
  intro ls hl
  refine lv_goto (tgt := 6) hx hb d_FontShelf_endJob_32 (by decide) ?_
  refine lv_iload_n hx hb d_FontShelf_endJob_6 rfl (lv_at hl 0 rfl) ?_
  refine lv_aload_n hx hb d_FontShelf_endJob_7 rfl (lv_at hl 1 rfl) ?_
  refine va_get (D := (dC, dI)) (ci := 3) (v := .ref s_wishes) (C := R_FontShelf) (T := F_FontShelf) (N := 16) hx hb hwd i_FontShelf hown hK hP 4 rfl rfl 8 (by decide) (hwd _ wd_2_109) (fun _ h9 => h9) rfl d_FontShelf_endJob_8 ?_
  refine va_alen (v := 14) hx hb hK hP 2 2 rfl rfl rfl d_FontShelf_endJob_11 ?_
  refine lv_icmp_ge (tgt := 35) hx hb d_FontShelf_endJob_12 (by decide) (fun c12 => absurd c12 (by decide)) (fun _ => ?_)
  refine lv_aload_n hx hb d_FontShelf_endJob_15 rfl (lv_at hl 1 rfl) ?_
  refine va_get (D := (dC, dI)) (ci := 3) (v := .ref s_wishes) (C := R_FontShelf) (T := F_FontShelf) (N := 16) hx hb hwd i_FontShelf hown hK hP 4 rfl rfl 8 (by decide) (hwd _ wd_2_109) (fun _ h9 => h9) rfl d_FontShelf_endJob_16 ?_
  refine lv_iload_n hx hb d_FontShelf_endJob_19 rfl (lv_at hl 0 rfl) ?_
  refine va_gets hx hb (SF_p2 hF).1 hS hown (hwd _ wd_2_36) (fun _ h9 => h9) d_FontShelf_endJob_20 ?_
  refine lv_iload_n hx hb d_FontShelf_endJob_23 rfl (lv_at hl 0 rfl) ?_
  refine lv_bipush (v := 7) hx hb d_FontShelf_endJob_24 (by decide) ?_
  refine lv_irem hx hb d_FontShelf_endJob_26 (by decide) ?_
  refine lv_topi (fun y_6 ey_6 => ?_)
  obtain rfl : y_6 = (3 : Int32) := ey_6.trans (by decide)
  refine va_ti (v := .int 1200) hx hb (SF_p2 hF).2 hS (show ¬ ((3 : Int32) < 0 ∨ 7 ≤ (3 : Int32).toNatClampNeg) by decide) rfl d_FontShelf_endJob_27 ?_
  refine va_iast hx hb hK hP hD hS 2 2 rfl rfl (show ¬ ((3 : Int32) < 0 ∨ 14 ≤ (3 : Int32).toNatClampNeg) by decide) d_FontShelf_endJob_28 ?_
  clear hP hD hS
  intro H locs hP hD hS
  rw [show (3 : Int32).toNatClampNeg = 3 by decide] at hP hD
  replace hP : va_P (dC, dI) vcl [(s_pins, .inl (cp, 2, .inl pn)), (s_left, .inl (cl, 32, .inl lf)), (s_wishes, .inl (cw, 14, .inl (upd (upd (upd (upd wi 0 277) 1 0) 2 1000) 3 1200))), (s_chosen, .inl (cc, 2, .inl ch)), (h0, .inr (3, [.ref s_ids, .ref s_attributes, .ref s_permanent, .int 0, .ref s_glyphs, .int s_glyphCount, .ref s_dots, .int s_used, .ref s_wishes, .ref s_pins, .int s_id, .int s_code, .ref s_chosen, .int 0, .ref s_left, .ref s_coming]))] H := hP
  replace hD : va_D A [(s_pins, .inl (cp, 2, .inl pn)), (s_left, .inl (cl, 32, .inl lf)), (s_wishes, .inl (cw, 14, .inl (upd (upd (upd (upd wi 0 277) 1 0) 2 1000) 3 1200))), (s_chosen, .inl (cc, 2, .inl ch)), (h0, .inr (3, [.ref s_ids, .ref s_attributes, .ref s_permanent, .int 0, .ref s_glyphs, .int s_glyphCount, .ref s_dots, .int s_used, .ref s_wishes, .ref s_pins, .int s_id, .int s_code, .ref s_chosen, .int 0, .ref s_left, .ref s_coming]))] := hD
  refine lv_iinc (v := 4) (lv' := [(1, .int 4), (0, .ref h0)]) hx hb d_FontShelf_endJob_29 hl (k := 0) rfl (by decide) (by decide) rfl ?_
  clear hl
  intro ls hl
  refine lv_goto (tgt := 6) hx hb d_FontShelf_endJob_32 (by decide) ?_
  refine lv_iload_n hx hb d_FontShelf_endJob_6 rfl (lv_at hl 0 rfl) ?_
  refine lv_aload_n hx hb d_FontShelf_endJob_7 rfl (lv_at hl 1 rfl) ?_
  refine va_get (D := (dC, dI)) (ci := 3) (v := .ref s_wishes) (C := R_FontShelf) (T := F_FontShelf) (N := 16) hx hb hwd i_FontShelf hown hK hP 4 rfl rfl 8 (by decide) (hwd _ wd_2_109) (fun _ h9 => h9) rfl d_FontShelf_endJob_8 ?_
  refine va_alen (v := 14) hx hb hK hP 2 2 rfl rfl rfl d_FontShelf_endJob_11 ?_
  refine lv_icmp_ge (tgt := 35) hx hb d_FontShelf_endJob_12 (by decide) (fun c12 => absurd c12 (by decide)) (fun _ => ?_)
  refine lv_aload_n hx hb d_FontShelf_endJob_15 rfl (lv_at hl 1 rfl) ?_
  refine va_get (D := (dC, dI)) (ci := 3) (v := .ref s_wishes) (C := R_FontShelf) (T := F_FontShelf) (N := 16) hx hb hwd i_FontShelf hown hK hP 4 rfl rfl 8 (by decide) (hwd _ wd_2_109) (fun _ h9 => h9) rfl d_FontShelf_endJob_16 ?_
  refine lv_iload_n hx hb d_FontShelf_endJob_19 rfl (lv_at hl 0 rfl) ?_
  refine va_gets hx hb (SF_p2 hF).1 hS hown (hwd _ wd_2_36) (fun _ h9 => h9) d_FontShelf_endJob_20 ?_
  refine lv_iload_n hx hb d_FontShelf_endJob_23 rfl (lv_at hl 0 rfl) ?_
  refine lv_bipush (v := 7) hx hb d_FontShelf_endJob_24 (by decide) ?_
  refine lv_irem hx hb d_FontShelf_endJob_26 (by decide) ?_
  refine lv_topi (fun y_7 ey_7 => ?_)
  obtain rfl : y_7 = (4 : Int32) := ey_7.trans (by decide)
  refine va_ti (v := .int 0) hx hb (SF_p2 hF).2 hS (show ¬ ((4 : Int32) < 0 ∨ 7 ≤ (4 : Int32).toNatClampNeg) by decide) rfl d_FontShelf_endJob_27 ?_
  refine va_iast hx hb hK hP hD hS 2 2 rfl rfl (show ¬ ((4 : Int32) < 0 ∨ 14 ≤ (4 : Int32).toNatClampNeg) by decide) d_FontShelf_endJob_28 ?_
  clear hP hD hS
  intro H locs hP hD hS
  rw [show (4 : Int32).toNatClampNeg = 4 by decide] at hP hD
  replace hP : va_P (dC, dI) vcl [(s_pins, .inl (cp, 2, .inl pn)), (s_left, .inl (cl, 32, .inl lf)), (s_wishes, .inl (cw, 14, .inl (upd (upd (upd (upd (upd wi 0 277) 1 0) 2 1000) 3 1200) 4 0))), (s_chosen, .inl (cc, 2, .inl ch)), (h0, .inr (3, [.ref s_ids, .ref s_attributes, .ref s_permanent, .int 0, .ref s_glyphs, .int s_glyphCount, .ref s_dots, .int s_used, .ref s_wishes, .ref s_pins, .int s_id, .int s_code, .ref s_chosen, .int 0, .ref s_left, .ref s_coming]))] H := hP
  replace hD : va_D A [(s_pins, .inl (cp, 2, .inl pn)), (s_left, .inl (cl, 32, .inl lf)), (s_wishes, .inl (cw, 14, .inl (upd (upd (upd (upd (upd wi 0 277) 1 0) 2 1000) 3 1200) 4 0))), (s_chosen, .inl (cc, 2, .inl ch)), (h0, .inr (3, [.ref s_ids, .ref s_attributes, .ref s_permanent, .int 0, .ref s_glyphs, .int s_glyphCount, .ref s_dots, .int s_used, .ref s_wishes, .ref s_pins, .int s_id, .int s_code, .ref s_chosen, .int 0, .ref s_left, .ref s_coming]))] := hD
  refine lv_iinc (v := 5) (lv' := [(1, .int 5), (0, .ref h0)]) hx hb d_FontShelf_endJob_29 hl (k := 0) rfl (by decide) (by decide) rfl ?_
  clear hl
  intro ls hl
  refine lv_goto (tgt := 6) hx hb d_FontShelf_endJob_32 (by decide) ?_
  refine lv_iload_n hx hb d_FontShelf_endJob_6 rfl (lv_at hl 0 rfl) ?_
  refine lv_aload_n hx hb d_FontShelf_endJob_7 rfl (lv_at hl 1 rfl) ?_
  refine va_get (D := (dC, dI)) (ci := 3) (v := .ref s_wishes) (C := R_FontShelf) (T := F_FontShelf) (N := 16) hx hb hwd i_FontShelf hown hK hP 4 rfl rfl 8 (by decide) (hwd _ wd_2_109) (fun _ h9 => h9) rfl d_FontShelf_endJob_8 ?_
  refine va_alen (v := 14) hx hb hK hP 2 2 rfl rfl rfl d_FontShelf_endJob_11 ?_
  refine lv_icmp_ge (tgt := 35) hx hb d_FontShelf_endJob_12 (by decide) (fun c12 => absurd c12 (by decide)) (fun _ => ?_)
  refine lv_aload_n hx hb d_FontShelf_endJob_15 rfl (lv_at hl 1 rfl) ?_
  refine va_get (D := (dC, dI)) (ci := 3) (v := .ref s_wishes) (C := R_FontShelf) (T := F_FontShelf) (N := 16) hx hb hwd i_FontShelf hown hK hP 4 rfl rfl 8 (by decide) (hwd _ wd_2_109) (fun _ h9 => h9) rfl d_FontShelf_endJob_16 ?_
  refine lv_iload_n hx hb d_FontShelf_endJob_19 rfl (lv_at hl 0 rfl) ?_
  refine va_gets hx hb (SF_p2 hF).1 hS hown (hwd _ wd_2_36) (fun _ h9 => h9) d_FontShelf_endJob_20 ?_
  refine lv_iload_n hx hb d_FontShelf_endJob_23 rfl (lv_at hl 0 rfl) ?_
  refine lv_bipush (v := 7) hx hb d_FontShelf_endJob_24 (by decide) ?_
  refine lv_irem hx hb d_FontShelf_endJob_26 (by decide) ?_
  refine lv_topi (fun y_8 ey_8 => ?_)
  obtain rfl : y_8 = (5 : Int32) := ey_8.trans (by decide)
  refine va_ti (v := .int 0) hx hb (SF_p2 hF).2 hS (show ¬ ((5 : Int32) < 0 ∨ 7 ≤ (5 : Int32).toNatClampNeg) by decide) rfl d_FontShelf_endJob_27 ?_
  refine va_iast hx hb hK hP hD hS 2 2 rfl rfl (show ¬ ((5 : Int32) < 0 ∨ 14 ≤ (5 : Int32).toNatClampNeg) by decide) d_FontShelf_endJob_28 ?_
  clear hP hD hS
  intro H locs hP hD hS
  rw [show (5 : Int32).toNatClampNeg = 5 by decide] at hP hD
  replace hP : va_P (dC, dI) vcl [(s_pins, .inl (cp, 2, .inl pn)), (s_left, .inl (cl, 32, .inl lf)), (s_wishes, .inl (cw, 14, .inl (upd (upd (upd (upd (upd (upd wi 0 277) 1 0) 2 1000) 3 1200) 4 0) 5 0))), (s_chosen, .inl (cc, 2, .inl ch)), (h0, .inr (3, [.ref s_ids, .ref s_attributes, .ref s_permanent, .int 0, .ref s_glyphs, .int s_glyphCount, .ref s_dots, .int s_used, .ref s_wishes, .ref s_pins, .int s_id, .int s_code, .ref s_chosen, .int 0, .ref s_left, .ref s_coming]))] H := hP
  replace hD : va_D A [(s_pins, .inl (cp, 2, .inl pn)), (s_left, .inl (cl, 32, .inl lf)), (s_wishes, .inl (cw, 14, .inl (upd (upd (upd (upd (upd (upd wi 0 277) 1 0) 2 1000) 3 1200) 4 0) 5 0))), (s_chosen, .inl (cc, 2, .inl ch)), (h0, .inr (3, [.ref s_ids, .ref s_attributes, .ref s_permanent, .int 0, .ref s_glyphs, .int s_glyphCount, .ref s_dots, .int s_used, .ref s_wishes, .ref s_pins, .int s_id, .int s_code, .ref s_chosen, .int 0, .ref s_left, .ref s_coming]))] := hD
  refine lv_iinc (v := 6) (lv' := [(1, .int 6), (0, .ref h0)]) hx hb d_FontShelf_endJob_29 hl (k := 0) rfl (by decide) (by decide) rfl ?_
  clear hl
  intro ls hl
  refine lv_goto (tgt := 6) hx hb d_FontShelf_endJob_32 (by decide) ?_
  refine lv_iload_n hx hb d_FontShelf_endJob_6 rfl (lv_at hl 0 rfl) ?_
  refine lv_aload_n hx hb d_FontShelf_endJob_7 rfl (lv_at hl 1 rfl) ?_
  refine va_get (D := (dC, dI)) (ci := 3) (v := .ref s_wishes) (C := R_FontShelf) (T := F_FontShelf) (N := 16) hx hb hwd i_FontShelf hown hK hP 4 rfl rfl 8 (by decide) (hwd _ wd_2_109) (fun _ h9 => h9) rfl d_FontShelf_endJob_8 ?_
  refine va_alen (v := 14) hx hb hK hP 2 2 rfl rfl rfl d_FontShelf_endJob_11 ?_
  refine lv_icmp_ge (tgt := 35) hx hb d_FontShelf_endJob_12 (by decide) (fun c12 => absurd c12 (by decide)) (fun _ => ?_)
  refine lv_aload_n hx hb d_FontShelf_endJob_15 rfl (lv_at hl 1 rfl) ?_
  refine va_get (D := (dC, dI)) (ci := 3) (v := .ref s_wishes) (C := R_FontShelf) (T := F_FontShelf) (N := 16) hx hb hwd i_FontShelf hown hK hP 4 rfl rfl 8 (by decide) (hwd _ wd_2_109) (fun _ h9 => h9) rfl d_FontShelf_endJob_16 ?_
  refine lv_iload_n hx hb d_FontShelf_endJob_19 rfl (lv_at hl 0 rfl) ?_
  refine va_gets hx hb (SF_p2 hF).1 hS hown (hwd _ wd_2_36) (fun _ h9 => h9) d_FontShelf_endJob_20 ?_
  refine lv_iload_n hx hb d_FontShelf_endJob_23 rfl (lv_at hl 0 rfl) ?_
  refine lv_bipush (v := 7) hx hb d_FontShelf_endJob_24 (by decide) ?_
  refine lv_irem hx hb d_FontShelf_endJob_26 (by decide) ?_
  refine lv_topi (fun y_9 ey_9 => ?_)
  obtain rfl : y_9 = (6 : Int32) := ey_9.trans (by decide)
  refine va_ti (v := .int 3) hx hb (SF_p2 hF).2 hS (show ¬ ((6 : Int32) < 0 ∨ 7 ≤ (6 : Int32).toNatClampNeg) by decide) rfl d_FontShelf_endJob_27 ?_
  refine va_iast hx hb hK hP hD hS 2 2 rfl rfl (show ¬ ((6 : Int32) < 0 ∨ 14 ≤ (6 : Int32).toNatClampNeg) by decide) d_FontShelf_endJob_28 ?_
  clear hP hD hS
  intro H locs hP hD hS
  rw [show (6 : Int32).toNatClampNeg = 6 by decide] at hP hD
  replace hP : va_P (dC, dI) vcl [(s_pins, .inl (cp, 2, .inl pn)), (s_left, .inl (cl, 32, .inl lf)), (s_wishes, .inl (cw, 14, .inl (upd (upd (upd (upd (upd (upd (upd wi 0 277) 1 0) 2 1000) 3 1200) 4 0) 5 0) 6 3))), (s_chosen, .inl (cc, 2, .inl ch)), (h0, .inr (3, [.ref s_ids, .ref s_attributes, .ref s_permanent, .int 0, .ref s_glyphs, .int s_glyphCount, .ref s_dots, .int s_used, .ref s_wishes, .ref s_pins, .int s_id, .int s_code, .ref s_chosen, .int 0, .ref s_left, .ref s_coming]))] H := hP
  replace hD : va_D A [(s_pins, .inl (cp, 2, .inl pn)), (s_left, .inl (cl, 32, .inl lf)), (s_wishes, .inl (cw, 14, .inl (upd (upd (upd (upd (upd (upd (upd wi 0 277) 1 0) 2 1000) 3 1200) 4 0) 5 0) 6 3))), (s_chosen, .inl (cc, 2, .inl ch)), (h0, .inr (3, [.ref s_ids, .ref s_attributes, .ref s_permanent, .int 0, .ref s_glyphs, .int s_glyphCount, .ref s_dots, .int s_used, .ref s_wishes, .ref s_pins, .int s_id, .int s_code, .ref s_chosen, .int 0, .ref s_left, .ref s_coming]))] := hD
  refine lv_iinc (v := 7) (lv' := [(1, .int 7), (0, .ref h0)]) hx hb d_FontShelf_endJob_29 hl (k := 0) rfl (by decide) (by decide) rfl ?_
  clear hl
  intro ls hl
  refine lv_goto (tgt := 6) hx hb d_FontShelf_endJob_32 (by decide) ?_
  refine lv_iload_n hx hb d_FontShelf_endJob_6 rfl (lv_at hl 0 rfl) ?_
  refine lv_aload_n hx hb d_FontShelf_endJob_7 rfl (lv_at hl 1 rfl) ?_
  refine va_get (D := (dC, dI)) (ci := 3) (v := .ref s_wishes) (C := R_FontShelf) (T := F_FontShelf) (N := 16) hx hb hwd i_FontShelf hown hK hP 4 rfl rfl 8 (by decide) (hwd _ wd_2_109) (fun _ h9 => h9) rfl d_FontShelf_endJob_8 ?_
  refine va_alen (v := 14) hx hb hK hP 2 2 rfl rfl rfl d_FontShelf_endJob_11 ?_
  refine lv_icmp_ge (tgt := 35) hx hb d_FontShelf_endJob_12 (by decide) (fun c12 => absurd c12 (by decide)) (fun _ => ?_)
  refine lv_aload_n hx hb d_FontShelf_endJob_15 rfl (lv_at hl 1 rfl) ?_
  refine va_get (D := (dC, dI)) (ci := 3) (v := .ref s_wishes) (C := R_FontShelf) (T := F_FontShelf) (N := 16) hx hb hwd i_FontShelf hown hK hP 4 rfl rfl 8 (by decide) (hwd _ wd_2_109) (fun _ h9 => h9) rfl d_FontShelf_endJob_16 ?_
  refine lv_iload_n hx hb d_FontShelf_endJob_19 rfl (lv_at hl 0 rfl) ?_
  refine va_gets hx hb (SF_p2 hF).1 hS hown (hwd _ wd_2_36) (fun _ h9 => h9) d_FontShelf_endJob_20 ?_
  refine lv_iload_n hx hb d_FontShelf_endJob_23 rfl (lv_at hl 0 rfl) ?_
  refine lv_bipush (v := 7) hx hb d_FontShelf_endJob_24 (by decide) ?_
  refine lv_irem hx hb d_FontShelf_endJob_26 (by decide) ?_
  refine lv_topi (fun y_10 ey_10 => ?_)
  obtain rfl : y_10 = (0 : Int32) := ey_10.trans (by decide)
  refine va_ti (v := .int 277) hx hb (SF_p2 hF).2 hS (show ¬ ((0 : Int32) < 0 ∨ 7 ≤ (0 : Int32).toNatClampNeg) by decide) rfl d_FontShelf_endJob_27 ?_
  refine va_iast hx hb hK hP hD hS 2 2 rfl rfl (show ¬ ((7 : Int32) < 0 ∨ 14 ≤ (7 : Int32).toNatClampNeg) by decide) d_FontShelf_endJob_28 ?_
  clear hP hD hS
  intro H locs hP hD hS
  rw [show (7 : Int32).toNatClampNeg = 7 by decide] at hP hD
  replace hP : va_P (dC, dI) vcl [(s_pins, .inl (cp, 2, .inl pn)), (s_left, .inl (cl, 32, .inl lf)), (s_wishes, .inl (cw, 14, .inl (upd (upd (upd (upd (upd (upd (upd (upd wi 0 277) 1 0) 2 1000) 3 1200) 4 0) 5 0) 6 3) 7 277))), (s_chosen, .inl (cc, 2, .inl ch)), (h0, .inr (3, [.ref s_ids, .ref s_attributes, .ref s_permanent, .int 0, .ref s_glyphs, .int s_glyphCount, .ref s_dots, .int s_used, .ref s_wishes, .ref s_pins, .int s_id, .int s_code, .ref s_chosen, .int 0, .ref s_left, .ref s_coming]))] H := hP
  replace hD : va_D A [(s_pins, .inl (cp, 2, .inl pn)), (s_left, .inl (cl, 32, .inl lf)), (s_wishes, .inl (cw, 14, .inl (upd (upd (upd (upd (upd (upd (upd (upd wi 0 277) 1 0) 2 1000) 3 1200) 4 0) 5 0) 6 3) 7 277))), (s_chosen, .inl (cc, 2, .inl ch)), (h0, .inr (3, [.ref s_ids, .ref s_attributes, .ref s_permanent, .int 0, .ref s_glyphs, .int s_glyphCount, .ref s_dots, .int s_used, .ref s_wishes, .ref s_pins, .int s_id, .int s_code, .ref s_chosen, .int 0, .ref s_left, .ref s_coming]))] := hD
  refine lv_iinc (v := 8) (lv' := [(1, .int 8), (0, .ref h0)]) hx hb d_FontShelf_endJob_29 hl (k := 0) rfl (by decide) (by decide) rfl ?_
  clear hl
  intro ls hl
  refine lv_goto (tgt := 6) hx hb d_FontShelf_endJob_32 (by decide) ?_
  refine lv_iload_n hx hb d_FontShelf_endJob_6 rfl (lv_at hl 0 rfl) ?_
  refine lv_aload_n hx hb d_FontShelf_endJob_7 rfl (lv_at hl 1 rfl) ?_
  refine va_get (D := (dC, dI)) (ci := 3) (v := .ref s_wishes) (C := R_FontShelf) (T := F_FontShelf) (N := 16) hx hb hwd i_FontShelf hown hK hP 4 rfl rfl 8 (by decide) (hwd _ wd_2_109) (fun _ h9 => h9) rfl d_FontShelf_endJob_8 ?_
  refine va_alen (v := 14) hx hb hK hP 2 2 rfl rfl rfl d_FontShelf_endJob_11 ?_
  refine lv_icmp_ge (tgt := 35) hx hb d_FontShelf_endJob_12 (by decide) (fun c12 => absurd c12 (by decide)) (fun _ => ?_)
  refine lv_aload_n hx hb d_FontShelf_endJob_15 rfl (lv_at hl 1 rfl) ?_
  refine va_get (D := (dC, dI)) (ci := 3) (v := .ref s_wishes) (C := R_FontShelf) (T := F_FontShelf) (N := 16) hx hb hwd i_FontShelf hown hK hP 4 rfl rfl 8 (by decide) (hwd _ wd_2_109) (fun _ h9 => h9) rfl d_FontShelf_endJob_16 ?_
  refine lv_iload_n hx hb d_FontShelf_endJob_19 rfl (lv_at hl 0 rfl) ?_
  refine va_gets hx hb (SF_p2 hF).1 hS hown (hwd _ wd_2_36) (fun _ h9 => h9) d_FontShelf_endJob_20 ?_
  refine lv_iload_n hx hb d_FontShelf_endJob_23 rfl (lv_at hl 0 rfl) ?_
  refine lv_bipush (v := 7) hx hb d_FontShelf_endJob_24 (by decide) ?_
  refine lv_irem hx hb d_FontShelf_endJob_26 (by decide) ?_
  refine lv_topi (fun y_11 ey_11 => ?_)
  obtain rfl : y_11 = (1 : Int32) := ey_11.trans (by decide)
  refine va_ti (v := .int 0) hx hb (SF_p2 hF).2 hS (show ¬ ((1 : Int32) < 0 ∨ 7 ≤ (1 : Int32).toNatClampNeg) by decide) rfl d_FontShelf_endJob_27 ?_
  refine va_iast hx hb hK hP hD hS 2 2 rfl rfl (show ¬ ((8 : Int32) < 0 ∨ 14 ≤ (8 : Int32).toNatClampNeg) by decide) d_FontShelf_endJob_28 ?_
  clear hP hD hS
  intro H locs hP hD hS
  rw [show (8 : Int32).toNatClampNeg = 8 by decide] at hP hD
  replace hP : va_P (dC, dI) vcl [(s_pins, .inl (cp, 2, .inl pn)), (s_left, .inl (cl, 32, .inl lf)), (s_wishes, .inl (cw, 14, .inl (upd (upd (upd (upd (upd (upd (upd (upd (upd wi 0 277) 1 0) 2 1000) 3 1200) 4 0) 5 0) 6 3) 7 277) 8 0))), (s_chosen, .inl (cc, 2, .inl ch)), (h0, .inr (3, [.ref s_ids, .ref s_attributes, .ref s_permanent, .int 0, .ref s_glyphs, .int s_glyphCount, .ref s_dots, .int s_used, .ref s_wishes, .ref s_pins, .int s_id, .int s_code, .ref s_chosen, .int 0, .ref s_left, .ref s_coming]))] H := hP
  replace hD : va_D A [(s_pins, .inl (cp, 2, .inl pn)), (s_left, .inl (cl, 32, .inl lf)), (s_wishes, .inl (cw, 14, .inl (upd (upd (upd (upd (upd (upd (upd (upd (upd wi 0 277) 1 0) 2 1000) 3 1200) 4 0) 5 0) 6 3) 7 277) 8 0))), (s_chosen, .inl (cc, 2, .inl ch)), (h0, .inr (3, [.ref s_ids, .ref s_attributes, .ref s_permanent, .int 0, .ref s_glyphs, .int s_glyphCount, .ref s_dots, .int s_used, .ref s_wishes, .ref s_pins, .int s_id, .int s_code, .ref s_chosen, .int 0, .ref s_left, .ref s_coming]))] := hD
  refine lv_iinc (v := 9) (lv' := [(1, .int 9), (0, .ref h0)]) hx hb d_FontShelf_endJob_29 hl (k := 0) rfl (by decide) (by decide) rfl ?_
  clear hl
  intro ls hl
  refine lv_goto (tgt := 6) hx hb d_FontShelf_endJob_32 (by decide) ?_
  refine lv_iload_n hx hb d_FontShelf_endJob_6 rfl (lv_at hl 0 rfl) ?_
  refine lv_aload_n hx hb d_FontShelf_endJob_7 rfl (lv_at hl 1 rfl) ?_
  refine va_get (D := (dC, dI)) (ci := 3) (v := .ref s_wishes) (C := R_FontShelf) (T := F_FontShelf) (N := 16) hx hb hwd i_FontShelf hown hK hP 4 rfl rfl 8 (by decide) (hwd _ wd_2_109) (fun _ h9 => h9) rfl d_FontShelf_endJob_8 ?_
  refine va_alen (v := 14) hx hb hK hP 2 2 rfl rfl rfl d_FontShelf_endJob_11 ?_
  refine lv_icmp_ge (tgt := 35) hx hb d_FontShelf_endJob_12 (by decide) (fun c12 => absurd c12 (by decide)) (fun _ => ?_)
  refine lv_aload_n hx hb d_FontShelf_endJob_15 rfl (lv_at hl 1 rfl) ?_
  refine va_get (D := (dC, dI)) (ci := 3) (v := .ref s_wishes) (C := R_FontShelf) (T := F_FontShelf) (N := 16) hx hb hwd i_FontShelf hown hK hP 4 rfl rfl 8 (by decide) (hwd _ wd_2_109) (fun _ h9 => h9) rfl d_FontShelf_endJob_16 ?_
  refine lv_iload_n hx hb d_FontShelf_endJob_19 rfl (lv_at hl 0 rfl) ?_
  refine va_gets hx hb (SF_p2 hF).1 hS hown (hwd _ wd_2_36) (fun _ h9 => h9) d_FontShelf_endJob_20 ?_
  refine lv_iload_n hx hb d_FontShelf_endJob_23 rfl (lv_at hl 0 rfl) ?_
  refine lv_bipush (v := 7) hx hb d_FontShelf_endJob_24 (by decide) ?_
  refine lv_irem hx hb d_FontShelf_endJob_26 (by decide) ?_
  refine lv_topi (fun y_12 ey_12 => ?_)
  obtain rfl : y_12 = (2 : Int32) := ey_12.trans (by decide)
  refine va_ti (v := .int 1000) hx hb (SF_p2 hF).2 hS (show ¬ ((2 : Int32) < 0 ∨ 7 ≤ (2 : Int32).toNatClampNeg) by decide) rfl d_FontShelf_endJob_27 ?_
  refine va_iast hx hb hK hP hD hS 2 2 rfl rfl (show ¬ ((9 : Int32) < 0 ∨ 14 ≤ (9 : Int32).toNatClampNeg) by decide) d_FontShelf_endJob_28 ?_
  clear hP hD hS
  intro H locs hP hD hS
  rw [show (9 : Int32).toNatClampNeg = 9 by decide] at hP hD
  replace hP : va_P (dC, dI) vcl [(s_pins, .inl (cp, 2, .inl pn)), (s_left, .inl (cl, 32, .inl lf)), (s_wishes, .inl (cw, 14, .inl (upd (upd (upd (upd (upd (upd (upd (upd (upd (upd wi 0 277) 1 0) 2 1000) 3 1200) 4 0) 5 0) 6 3) 7 277) 8 0) 9 1000))), (s_chosen, .inl (cc, 2, .inl ch)), (h0, .inr (3, [.ref s_ids, .ref s_attributes, .ref s_permanent, .int 0, .ref s_glyphs, .int s_glyphCount, .ref s_dots, .int s_used, .ref s_wishes, .ref s_pins, .int s_id, .int s_code, .ref s_chosen, .int 0, .ref s_left, .ref s_coming]))] H := hP
  replace hD : va_D A [(s_pins, .inl (cp, 2, .inl pn)), (s_left, .inl (cl, 32, .inl lf)), (s_wishes, .inl (cw, 14, .inl (upd (upd (upd (upd (upd (upd (upd (upd (upd (upd wi 0 277) 1 0) 2 1000) 3 1200) 4 0) 5 0) 6 3) 7 277) 8 0) 9 1000))), (s_chosen, .inl (cc, 2, .inl ch)), (h0, .inr (3, [.ref s_ids, .ref s_attributes, .ref s_permanent, .int 0, .ref s_glyphs, .int s_glyphCount, .ref s_dots, .int s_used, .ref s_wishes, .ref s_pins, .int s_id, .int s_code, .ref s_chosen, .int 0, .ref s_left, .ref s_coming]))] := hD
  refine lv_iinc (v := 10) (lv' := [(1, .int 10), (0, .ref h0)]) hx hb d_FontShelf_endJob_29 hl (k := 0) rfl (by decide) (by decide) rfl ?_
  clear hl
  intro ls hl
  refine lv_goto (tgt := 6) hx hb d_FontShelf_endJob_32 (by decide) ?_
  refine lv_iload_n hx hb d_FontShelf_endJob_6 rfl (lv_at hl 0 rfl) ?_
  refine lv_aload_n hx hb d_FontShelf_endJob_7 rfl (lv_at hl 1 rfl) ?_
  refine va_get (D := (dC, dI)) (ci := 3) (v := .ref s_wishes) (C := R_FontShelf) (T := F_FontShelf) (N := 16) hx hb hwd i_FontShelf hown hK hP 4 rfl rfl 8 (by decide) (hwd _ wd_2_109) (fun _ h9 => h9) rfl d_FontShelf_endJob_8 ?_
  refine va_alen (v := 14) hx hb hK hP 2 2 rfl rfl rfl d_FontShelf_endJob_11 ?_
  refine lv_icmp_ge (tgt := 35) hx hb d_FontShelf_endJob_12 (by decide) (fun c12 => absurd c12 (by decide)) (fun _ => ?_)
  refine lv_aload_n hx hb d_FontShelf_endJob_15 rfl (lv_at hl 1 rfl) ?_
  refine va_get (D := (dC, dI)) (ci := 3) (v := .ref s_wishes) (C := R_FontShelf) (T := F_FontShelf) (N := 16) hx hb hwd i_FontShelf hown hK hP 4 rfl rfl 8 (by decide) (hwd _ wd_2_109) (fun _ h9 => h9) rfl d_FontShelf_endJob_16 ?_
  refine lv_iload_n hx hb d_FontShelf_endJob_19 rfl (lv_at hl 0 rfl) ?_
  refine va_gets hx hb (SF_p2 hF).1 hS hown (hwd _ wd_2_36) (fun _ h9 => h9) d_FontShelf_endJob_20 ?_
  refine lv_iload_n hx hb d_FontShelf_endJob_23 rfl (lv_at hl 0 rfl) ?_
  refine lv_bipush (v := 7) hx hb d_FontShelf_endJob_24 (by decide) ?_
  refine lv_irem hx hb d_FontShelf_endJob_26 (by decide) ?_
  refine lv_topi (fun y_13 ey_13 => ?_)
  obtain rfl : y_13 = (3 : Int32) := ey_13.trans (by decide)
  refine va_ti (v := .int 1200) hx hb (SF_p2 hF).2 hS (show ¬ ((3 : Int32) < 0 ∨ 7 ≤ (3 : Int32).toNatClampNeg) by decide) rfl d_FontShelf_endJob_27 ?_
  refine va_iast hx hb hK hP hD hS 2 2 rfl rfl (show ¬ ((10 : Int32) < 0 ∨ 14 ≤ (10 : Int32).toNatClampNeg) by decide) d_FontShelf_endJob_28 ?_
  clear hP hD hS
  intro H locs hP hD hS
  rw [show (10 : Int32).toNatClampNeg = 10 by decide] at hP hD
  replace hP : va_P (dC, dI) vcl [(s_pins, .inl (cp, 2, .inl pn)), (s_left, .inl (cl, 32, .inl lf)), (s_wishes, .inl (cw, 14, .inl (upd (upd (upd (upd (upd (upd (upd (upd (upd (upd (upd wi 0 277) 1 0) 2 1000) 3 1200) 4 0) 5 0) 6 3) 7 277) 8 0) 9 1000) 10 1200))), (s_chosen, .inl (cc, 2, .inl ch)), (h0, .inr (3, [.ref s_ids, .ref s_attributes, .ref s_permanent, .int 0, .ref s_glyphs, .int s_glyphCount, .ref s_dots, .int s_used, .ref s_wishes, .ref s_pins, .int s_id, .int s_code, .ref s_chosen, .int 0, .ref s_left, .ref s_coming]))] H := hP
  replace hD : va_D A [(s_pins, .inl (cp, 2, .inl pn)), (s_left, .inl (cl, 32, .inl lf)), (s_wishes, .inl (cw, 14, .inl (upd (upd (upd (upd (upd (upd (upd (upd (upd (upd (upd wi 0 277) 1 0) 2 1000) 3 1200) 4 0) 5 0) 6 3) 7 277) 8 0) 9 1000) 10 1200))), (s_chosen, .inl (cc, 2, .inl ch)), (h0, .inr (3, [.ref s_ids, .ref s_attributes, .ref s_permanent, .int 0, .ref s_glyphs, .int s_glyphCount, .ref s_dots, .int s_used, .ref s_wishes, .ref s_pins, .int s_id, .int s_code, .ref s_chosen, .int 0, .ref s_left, .ref s_coming]))] := hD
  refine lv_iinc (v := 11) (lv' := [(1, .int 11), (0, .ref h0)]) hx hb d_FontShelf_endJob_29 hl (k := 0) rfl (by decide) (by decide) rfl ?_
  clear hl
  intro ls hl
  refine lv_goto (tgt := 6) hx hb d_FontShelf_endJob_32 (by decide) ?_
  refine lv_iload_n hx hb d_FontShelf_endJob_6 rfl (lv_at hl 0 rfl) ?_
  refine lv_aload_n hx hb d_FontShelf_endJob_7 rfl (lv_at hl 1 rfl) ?_
  refine va_get (D := (dC, dI)) (ci := 3) (v := .ref s_wishes) (C := R_FontShelf) (T := F_FontShelf) (N := 16) hx hb hwd i_FontShelf hown hK hP 4 rfl rfl 8 (by decide) (hwd _ wd_2_109) (fun _ h9 => h9) rfl d_FontShelf_endJob_8 ?_
  refine va_alen (v := 14) hx hb hK hP 2 2 rfl rfl rfl d_FontShelf_endJob_11 ?_
  refine lv_icmp_ge (tgt := 35) hx hb d_FontShelf_endJob_12 (by decide) (fun c12 => absurd c12 (by decide)) (fun _ => ?_)
  refine lv_aload_n hx hb d_FontShelf_endJob_15 rfl (lv_at hl 1 rfl) ?_
  refine va_get (D := (dC, dI)) (ci := 3) (v := .ref s_wishes) (C := R_FontShelf) (T := F_FontShelf) (N := 16) hx hb hwd i_FontShelf hown hK hP 4 rfl rfl 8 (by decide) (hwd _ wd_2_109) (fun _ h9 => h9) rfl d_FontShelf_endJob_16 ?_
  refine lv_iload_n hx hb d_FontShelf_endJob_19 rfl (lv_at hl 0 rfl) ?_
  refine va_gets hx hb (SF_p2 hF).1 hS hown (hwd _ wd_2_36) (fun _ h9 => h9) d_FontShelf_endJob_20 ?_
  refine lv_iload_n hx hb d_FontShelf_endJob_23 rfl (lv_at hl 0 rfl) ?_
  refine lv_bipush (v := 7) hx hb d_FontShelf_endJob_24 (by decide) ?_
  refine lv_irem hx hb d_FontShelf_endJob_26 (by decide) ?_
  refine lv_topi (fun y_14 ey_14 => ?_)
  obtain rfl : y_14 = (4 : Int32) := ey_14.trans (by decide)
  refine va_ti (v := .int 0) hx hb (SF_p2 hF).2 hS (show ¬ ((4 : Int32) < 0 ∨ 7 ≤ (4 : Int32).toNatClampNeg) by decide) rfl d_FontShelf_endJob_27 ?_
  refine va_iast hx hb hK hP hD hS 2 2 rfl rfl (show ¬ ((11 : Int32) < 0 ∨ 14 ≤ (11 : Int32).toNatClampNeg) by decide) d_FontShelf_endJob_28 ?_
  clear hP hD hS
  intro H locs hP hD hS
  rw [show (11 : Int32).toNatClampNeg = 11 by decide] at hP hD
  replace hP : va_P (dC, dI) vcl [(s_pins, .inl (cp, 2, .inl pn)), (s_left, .inl (cl, 32, .inl lf)), (s_wishes, .inl (cw, 14, .inl (upd (upd (upd (upd (upd (upd (upd (upd (upd (upd (upd (upd wi 0 277) 1 0) 2 1000) 3 1200) 4 0) 5 0) 6 3) 7 277) 8 0) 9 1000) 10 1200) 11 0))), (s_chosen, .inl (cc, 2, .inl ch)), (h0, .inr (3, [.ref s_ids, .ref s_attributes, .ref s_permanent, .int 0, .ref s_glyphs, .int s_glyphCount, .ref s_dots, .int s_used, .ref s_wishes, .ref s_pins, .int s_id, .int s_code, .ref s_chosen, .int 0, .ref s_left, .ref s_coming]))] H := hP
  replace hD : va_D A [(s_pins, .inl (cp, 2, .inl pn)), (s_left, .inl (cl, 32, .inl lf)), (s_wishes, .inl (cw, 14, .inl (upd (upd (upd (upd (upd (upd (upd (upd (upd (upd (upd (upd wi 0 277) 1 0) 2 1000) 3 1200) 4 0) 5 0) 6 3) 7 277) 8 0) 9 1000) 10 1200) 11 0))), (s_chosen, .inl (cc, 2, .inl ch)), (h0, .inr (3, [.ref s_ids, .ref s_attributes, .ref s_permanent, .int 0, .ref s_glyphs, .int s_glyphCount, .ref s_dots, .int s_used, .ref s_wishes, .ref s_pins, .int s_id, .int s_code, .ref s_chosen, .int 0, .ref s_left, .ref s_coming]))] := hD
  refine lv_iinc (v := 12) (lv' := [(1, .int 12), (0, .ref h0)]) hx hb d_FontShelf_endJob_29 hl (k := 0) rfl (by decide) (by decide) rfl ?_
  clear hl
  intro ls hl
  refine lv_goto (tgt := 6) hx hb d_FontShelf_endJob_32 (by decide) ?_
  refine lv_iload_n hx hb d_FontShelf_endJob_6 rfl (lv_at hl 0 rfl) ?_
  refine lv_aload_n hx hb d_FontShelf_endJob_7 rfl (lv_at hl 1 rfl) ?_
  refine va_get (D := (dC, dI)) (ci := 3) (v := .ref s_wishes) (C := R_FontShelf) (T := F_FontShelf) (N := 16) hx hb hwd i_FontShelf hown hK hP 4 rfl rfl 8 (by decide) (hwd _ wd_2_109) (fun _ h9 => h9) rfl d_FontShelf_endJob_8 ?_
  refine va_alen (v := 14) hx hb hK hP 2 2 rfl rfl rfl d_FontShelf_endJob_11 ?_
  refine lv_icmp_ge (tgt := 35) hx hb d_FontShelf_endJob_12 (by decide) (fun c12 => absurd c12 (by decide)) (fun _ => ?_)
  refine lv_aload_n hx hb d_FontShelf_endJob_15 rfl (lv_at hl 1 rfl) ?_
  refine va_get (D := (dC, dI)) (ci := 3) (v := .ref s_wishes) (C := R_FontShelf) (T := F_FontShelf) (N := 16) hx hb hwd i_FontShelf hown hK hP 4 rfl rfl 8 (by decide) (hwd _ wd_2_109) (fun _ h9 => h9) rfl d_FontShelf_endJob_16 ?_
  refine lv_iload_n hx hb d_FontShelf_endJob_19 rfl (lv_at hl 0 rfl) ?_
  refine va_gets hx hb (SF_p2 hF).1 hS hown (hwd _ wd_2_36) (fun _ h9 => h9) d_FontShelf_endJob_20 ?_
  refine lv_iload_n hx hb d_FontShelf_endJob_23 rfl (lv_at hl 0 rfl) ?_
  refine lv_bipush (v := 7) hx hb d_FontShelf_endJob_24 (by decide) ?_
  refine lv_irem hx hb d_FontShelf_endJob_26 (by decide) ?_
  refine lv_topi (fun y_15 ey_15 => ?_)
  obtain rfl : y_15 = (5 : Int32) := ey_15.trans (by decide)
  refine va_ti (v := .int 0) hx hb (SF_p2 hF).2 hS (show ¬ ((5 : Int32) < 0 ∨ 7 ≤ (5 : Int32).toNatClampNeg) by decide) rfl d_FontShelf_endJob_27 ?_
  refine va_iast hx hb hK hP hD hS 2 2 rfl rfl (show ¬ ((12 : Int32) < 0 ∨ 14 ≤ (12 : Int32).toNatClampNeg) by decide) d_FontShelf_endJob_28 ?_
  clear hP hD hS
  intro H locs hP hD hS
  rw [show (12 : Int32).toNatClampNeg = 12 by decide] at hP hD
  replace hP : va_P (dC, dI) vcl [(s_pins, .inl (cp, 2, .inl pn)), (s_left, .inl (cl, 32, .inl lf)), (s_wishes, .inl (cw, 14, .inl (upd (upd (upd (upd (upd (upd (upd (upd (upd (upd (upd (upd (upd wi 0 277) 1 0) 2 1000) 3 1200) 4 0) 5 0) 6 3) 7 277) 8 0) 9 1000) 10 1200) 11 0) 12 0))), (s_chosen, .inl (cc, 2, .inl ch)), (h0, .inr (3, [.ref s_ids, .ref s_attributes, .ref s_permanent, .int 0, .ref s_glyphs, .int s_glyphCount, .ref s_dots, .int s_used, .ref s_wishes, .ref s_pins, .int s_id, .int s_code, .ref s_chosen, .int 0, .ref s_left, .ref s_coming]))] H := hP
  replace hD : va_D A [(s_pins, .inl (cp, 2, .inl pn)), (s_left, .inl (cl, 32, .inl lf)), (s_wishes, .inl (cw, 14, .inl (upd (upd (upd (upd (upd (upd (upd (upd (upd (upd (upd (upd (upd wi 0 277) 1 0) 2 1000) 3 1200) 4 0) 5 0) 6 3) 7 277) 8 0) 9 1000) 10 1200) 11 0) 12 0))), (s_chosen, .inl (cc, 2, .inl ch)), (h0, .inr (3, [.ref s_ids, .ref s_attributes, .ref s_permanent, .int 0, .ref s_glyphs, .int s_glyphCount, .ref s_dots, .int s_used, .ref s_wishes, .ref s_pins, .int s_id, .int s_code, .ref s_chosen, .int 0, .ref s_left, .ref s_coming]))] := hD
  refine lv_iinc (v := 13) (lv' := [(1, .int 13), (0, .ref h0)]) hx hb d_FontShelf_endJob_29 hl (k := 0) rfl (by decide) (by decide) rfl ?_
  clear hl
  intro ls hl
  refine lv_goto (tgt := 6) hx hb d_FontShelf_endJob_32 (by decide) ?_
  refine lv_iload_n hx hb d_FontShelf_endJob_6 rfl (lv_at hl 0 rfl) ?_
  refine lv_aload_n hx hb d_FontShelf_endJob_7 rfl (lv_at hl 1 rfl) ?_
  refine va_get (D := (dC, dI)) (ci := 3) (v := .ref s_wishes) (C := R_FontShelf) (T := F_FontShelf) (N := 16) hx hb hwd i_FontShelf hown hK hP 4 rfl rfl 8 (by decide) (hwd _ wd_2_109) (fun _ h9 => h9) rfl d_FontShelf_endJob_8 ?_
  refine va_alen (v := 14) hx hb hK hP 2 2 rfl rfl rfl d_FontShelf_endJob_11 ?_
  refine lv_icmp_ge (tgt := 35) hx hb d_FontShelf_endJob_12 (by decide) (fun c12 => absurd c12 (by decide)) (fun _ => ?_)
  refine lv_aload_n hx hb d_FontShelf_endJob_15 rfl (lv_at hl 1 rfl) ?_
  refine va_get (D := (dC, dI)) (ci := 3) (v := .ref s_wishes) (C := R_FontShelf) (T := F_FontShelf) (N := 16) hx hb hwd i_FontShelf hown hK hP 4 rfl rfl 8 (by decide) (hwd _ wd_2_109) (fun _ h9 => h9) rfl d_FontShelf_endJob_16 ?_
  refine lv_iload_n hx hb d_FontShelf_endJob_19 rfl (lv_at hl 0 rfl) ?_
  refine va_gets hx hb (SF_p2 hF).1 hS hown (hwd _ wd_2_36) (fun _ h9 => h9) d_FontShelf_endJob_20 ?_
  refine lv_iload_n hx hb d_FontShelf_endJob_23 rfl (lv_at hl 0 rfl) ?_
  refine lv_bipush (v := 7) hx hb d_FontShelf_endJob_24 (by decide) ?_
  refine lv_irem hx hb d_FontShelf_endJob_26 (by decide) ?_
  refine lv_topi (fun y_16 ey_16 => ?_)
  obtain rfl : y_16 = (6 : Int32) := ey_16.trans (by decide)
  refine va_ti (v := .int 3) hx hb (SF_p2 hF).2 hS (show ¬ ((6 : Int32) < 0 ∨ 7 ≤ (6 : Int32).toNatClampNeg) by decide) rfl d_FontShelf_endJob_27 ?_
  refine va_iast hx hb hK hP hD hS 2 2 rfl rfl (show ¬ ((13 : Int32) < 0 ∨ 14 ≤ (13 : Int32).toNatClampNeg) by decide) d_FontShelf_endJob_28 ?_
  clear hP hD hS
  intro H locs hP hD hS
  rw [show (13 : Int32).toNatClampNeg = 13 by decide] at hP hD
  replace hP : va_P (dC, dI) vcl [(s_pins, .inl (cp, 2, .inl pn)), (s_left, .inl (cl, 32, .inl lf)), (s_wishes, .inl (cw, 14, .inl (upd (upd (upd (upd (upd (upd (upd (upd (upd (upd (upd (upd (upd (upd wi 0 277) 1 0) 2 1000) 3 1200) 4 0) 5 0) 6 3) 7 277) 8 0) 9 1000) 10 1200) 11 0) 12 0) 13 3))), (s_chosen, .inl (cc, 2, .inl ch)), (h0, .inr (3, [.ref s_ids, .ref s_attributes, .ref s_permanent, .int 0, .ref s_glyphs, .int s_glyphCount, .ref s_dots, .int s_used, .ref s_wishes, .ref s_pins, .int s_id, .int s_code, .ref s_chosen, .int 0, .ref s_left, .ref s_coming]))] H := hP
  replace hD : va_D A [(s_pins, .inl (cp, 2, .inl pn)), (s_left, .inl (cl, 32, .inl lf)), (s_wishes, .inl (cw, 14, .inl (upd (upd (upd (upd (upd (upd (upd (upd (upd (upd (upd (upd (upd (upd wi 0 277) 1 0) 2 1000) 3 1200) 4 0) 5 0) 6 3) 7 277) 8 0) 9 1000) 10 1200) 11 0) 12 0) 13 3))), (s_chosen, .inl (cc, 2, .inl ch)), (h0, .inr (3, [.ref s_ids, .ref s_attributes, .ref s_permanent, .int 0, .ref s_glyphs, .int s_glyphCount, .ref s_dots, .int s_used, .ref s_wishes, .ref s_pins, .int s_id, .int s_code, .ref s_chosen, .int 0, .ref s_left, .ref s_coming]))] := hD
  refine lv_iinc (v := 14) (lv' := [(1, .int 14), (0, .ref h0)]) hx hb d_FontShelf_endJob_29 hl (k := 0) rfl (by decide) (by decide) rfl ?_
  clear hl
  intro ls hl
  refine lv_goto (tgt := 6) hx hb d_FontShelf_endJob_32 (by decide) ?_
  refine lv_iload_n hx hb d_FontShelf_endJob_6 rfl (lv_at hl 0 rfl) ?_
  refine lv_aload_n hx hb d_FontShelf_endJob_7 rfl (lv_at hl 1 rfl) ?_
  refine va_get (D := (dC, dI)) (ci := 3) (v := .ref s_wishes) (C := R_FontShelf) (T := F_FontShelf) (N := 16) hx hb hwd i_FontShelf hown hK hP 4 rfl rfl 8 (by decide) (hwd _ wd_2_109) (fun _ h9 => h9) rfl d_FontShelf_endJob_8 ?_
  refine va_alen (v := 14) hx hb hK hP 2 2 rfl rfl rfl d_FontShelf_endJob_11 ?_
  refine lv_icmp_ge (tgt := 35) hx hb d_FontShelf_endJob_12 (by decide) (fun _ => ?_) (fun c12 => absurd (by decide) c12)
  refine lv_aload_n hx hb d_FontShelf_endJob_35 rfl (lv_at hl 1 rfl) ?_
  refine va_get (D := (dC, dI)) (ci := 3) (v := .ref s_pins) (C := R_FontShelf) (T := F_FontShelf) (N := 16) hx hb hwd i_FontShelf hown hK hP 4 rfl rfl 9 (by decide) (hwd _ wd_2_110) (fun _ h9 => h9) rfl d_FontShelf_endJob_36 ?_
  refine lv_iconst (v := (-1)) hx hb d_FontShelf_endJob_39 (by decide) ?_
  have hPc := hP.sub (ws' := [(s_pins, .inl (cp, 2, .inl pn))]) [0] rfl
  have hDc := hD.sub (ws' := [(s_pins, .inl (cp, 2, .inl pn))]) [0] (by decide) rfl
  have hKc := hK.sub (tys' := [(cp, .int)]) [0] rfl
  have hFc := va_free (wc := [(s_pins, .inl (cp, 2, .inl pn))]) hD hS hA [0] rfl
  refine va_callv (va_runS (As := [.ref s_pins, .int (-1)]) (rest := []) ⟨hx, hb, hml, hown, hwd⟩ (c_fill_2 l dC dI tt s_pins cp pn (-1) H.size ) (va_cwS 2 hwd (gS gd_JArrays_fill1 wd_2_38 wd_2_39 wd_1_7) rfl rfl rfl (by decide +kernel) ⟨Nat.le_of_ble_eq_true rfl, Nat.le_of_ble_eq_true rfl⟩) ⟨fun a U g mk q => by obtain ⟨q0, q1, qP, qK, qD, qF⟩ := q; exact ⟨q0, q1, qP, va_K.moved (u := U) (U := U.calling g mk a) (Vm.Alike.refl U.vm) qK, qD, SF.same (u := U) (U := U.calling g mk a) rfl qF⟩, fun U hU hW => ⟨rfl, by rw [hU], by rw [hU]; exact hPc, va_K.moved hW.alike hKc, hDc.weaken (fun _ _ _ _ => trivial), by rw [hU]; exact SF.narrow (SF.moved hW (SF.kept hF (fun a h1 h2 => hS.2.1 a h1 h2))) hFc⟩⟩ rfl rfl hl.1 rfl (lv_room (Nat.le_of_ble_eq_true rfl)) d_FontShelf_endJob_40 ⟨Nat.le_of_ble_eq_true rfl, Nat.le_of_ble_eq_true rfl⟩) hS (fun q _ h => hFc q h) hFc ?_
  clear hPc hDc hKc hS
  intro u_18 t H1 locs ht hvm hw hB hz1 hk1 hS
  obtain ⟨hP1, hK1, hD1⟩ := hB
  rw [ht] at hP1
  have hK1 := va_K.moved hvm.symm hK1
  try dsimp only at hw
  have hJ := va_join (wr := [(s_left, .inl (cl, 32, .inl lf)), (s_wishes, .inl (cw, 14, .inl (upd (upd (upd (upd (upd (upd (upd (upd (upd (upd (upd (upd (upd (upd wi 0 277) 1 0) 2 1000) 3 1200) 4 0) 5 0) 6 3) 7 277) 8 0) 9 1000) 10 1200) 11 0) 12 0) 13 3))), (s_chosen, .inl (cc, 2, .inl ch)), (h0, .inr (3, [.ref s_ids, .ref s_attributes, .ref s_permanent, .int 0, .ref s_glyphs, .int s_glyphCount, .ref s_dots, .int s_used, .ref s_wishes, .ref s_pins, .int s_id, .int s_code, .ref s_chosen, .int 0, .ref s_left, .ref s_coming]))]) (w1 := [(s_pins, .inl (cp, 2, .inl (upd (upd pn 0 ((-1) : Int32)) 1 ((-1) : Int32))))]) hP hD [0] [1, 2, 3, 4] rfl rfl (by decide) (by decide) hk1 hFc hP1 hD1
  clear hP hD hk1 hFc hP1 hD1 hz1
  obtain ⟨hP, hD⟩ := hJ
  clear hK1 ht hvm
  generalize H1 = H at hP hS ⊢
  replace hP : va_P (dC, dI) vcl [(s_left, .inl (cl, 32, .inl lf)), (s_wishes, .inl (cw, 14, .inl (upd (upd (upd (upd (upd (upd (upd (upd (upd (upd (upd (upd (upd (upd wi 0 277) 1 0) 2 1000) 3 1200) 4 0) 5 0) 6 3) 7 277) 8 0) 9 1000) 10 1200) 11 0) 12 0) 13 3))), (s_chosen, .inl (cc, 2, .inl ch)), (h0, .inr (3, [.ref s_ids, .ref s_attributes, .ref s_permanent, .int 0, .ref s_glyphs, .int s_glyphCount, .ref s_dots, .int s_used, .ref s_wishes, .ref s_pins, .int s_id, .int s_code, .ref s_chosen, .int 0, .ref s_left, .ref s_coming])), (s_pins, .inl (cp, 2, .inl (upd (upd pn 0 ((-1) : Int32)) 1 ((-1) : Int32))))] H := hP
  replace hD : va_D A [(s_left, .inl (cl, 32, .inl lf)), (s_wishes, .inl (cw, 14, .inl (upd (upd (upd (upd (upd (upd (upd (upd (upd (upd (upd (upd (upd (upd wi 0 277) 1 0) 2 1000) 3 1200) 4 0) 5 0) 6 3) 7 277) 8 0) 9 1000) 10 1200) 11 0) 12 0) 13 3))), (s_chosen, .inl (cc, 2, .inl ch)), (h0, .inr (3, [.ref s_ids, .ref s_attributes, .ref s_permanent, .int 0, .ref s_glyphs, .int s_glyphCount, .ref s_dots, .int s_used, .ref s_wishes, .ref s_pins, .int s_id, .int s_code, .ref s_chosen, .int 0, .ref s_left, .ref s_coming])), (s_pins, .inl (cp, 2, .inl (upd (upd pn 0 ((-1) : Int32)) 1 ((-1) : Int32))))] := hD
  refine lv_aload_n hx hb d_FontShelf_endJob_43 rfl (lv_at hl 1 rfl) ?_
  refine lv_iconst (v := 0) hx hb d_FontShelf_endJob_44 (by decide) ?_
  refine va_put (D := (dC, dI)) (ci := 3) (v := .int 0) (ty := .int) (C := R_FontShelf) (T := F_FontShelf) (N := 16) hx hb hwd i_FontShelf t_FontShelf to_FontShelf no_FontShelf hown hK hP hD hS 3 rfl rfl 10 (by decide) (hwd _ wd_2_111) (fun _ h9 => h9) rfl (by decide +kernel) rfl rfl (Nat.le_of_ble_eq_true rfl) d_FontShelf_endJob_45 ?_
  clear hP hD hS
  intro H locs hP hD hS
  replace hP : va_P (dC, dI) vcl [(s_left, .inl (cl, 32, .inl lf)), (s_wishes, .inl (cw, 14, .inl (upd (upd (upd (upd (upd (upd (upd (upd (upd (upd (upd (upd (upd (upd wi 0 277) 1 0) 2 1000) 3 1200) 4 0) 5 0) 6 3) 7 277) 8 0) 9 1000) 10 1200) 11 0) 12 0) 13 3))), (s_chosen, .inl (cc, 2, .inl ch)), (h0, .inr (3, [.ref s_ids, .ref s_attributes, .ref s_permanent, .int 0, .ref s_glyphs, .int s_glyphCount, .ref s_dots, .int s_used, .ref s_wishes, .ref s_pins, .int 0, .int s_code, .ref s_chosen, .int 0, .ref s_left, .ref s_coming])), (s_pins, .inl (cp, 2, .inl (upd (upd pn 0 ((-1) : Int32)) 1 ((-1) : Int32))))] H := hP
  replace hD : va_D A [(s_left, .inl (cl, 32, .inl lf)), (s_wishes, .inl (cw, 14, .inl (upd (upd (upd (upd (upd (upd (upd (upd (upd (upd (upd (upd (upd (upd wi 0 277) 1 0) 2 1000) 3 1200) 4 0) 5 0) 6 3) 7 277) 8 0) 9 1000) 10 1200) 11 0) 12 0) 13 3))), (s_chosen, .inl (cc, 2, .inl ch)), (h0, .inr (3, [.ref s_ids, .ref s_attributes, .ref s_permanent, .int 0, .ref s_glyphs, .int s_glyphCount, .ref s_dots, .int s_used, .ref s_wishes, .ref s_pins, .int 0, .int s_code, .ref s_chosen, .int 0, .ref s_left, .ref s_coming])), (s_pins, .inl (cp, 2, .inl (upd (upd pn 0 ((-1) : Int32)) 1 ((-1) : Int32))))] := hD
  refine lv_aload_n hx hb d_FontShelf_endJob_48 rfl (lv_at hl 1 rfl) ?_
  refine lv_iconst (v := 0) hx hb d_FontShelf_endJob_49 (by decide) ?_
  refine va_put (D := (dC, dI)) (ci := 3) (v := .int 0) (ty := .int) (C := R_FontShelf) (T := F_FontShelf) (N := 16) hx hb hwd i_FontShelf t_FontShelf to_FontShelf no_FontShelf hown hK hP hD hS 3 rfl rfl 11 (by decide) (hwd _ wd_2_112) (fun _ h9 => h9) rfl (by decide +kernel) rfl rfl (Nat.le_of_ble_eq_true rfl) d_FontShelf_endJob_50 ?_
  clear hP hD hS
  intro H locs hP hD hS
  replace hP : va_P (dC, dI) vcl [(s_left, .inl (cl, 32, .inl lf)), (s_wishes, .inl (cw, 14, .inl (upd (upd (upd (upd (upd (upd (upd (upd (upd (upd (upd (upd (upd (upd wi 0 277) 1 0) 2 1000) 3 1200) 4 0) 5 0) 6 3) 7 277) 8 0) 9 1000) 10 1200) 11 0) 12 0) 13 3))), (s_chosen, .inl (cc, 2, .inl ch)), (h0, .inr (3, [.ref s_ids, .ref s_attributes, .ref s_permanent, .int 0, .ref s_glyphs, .int s_glyphCount, .ref s_dots, .int s_used, .ref s_wishes, .ref s_pins, .int 0, .int 0, .ref s_chosen, .int 0, .ref s_left, .ref s_coming])), (s_pins, .inl (cp, 2, .inl (upd (upd pn 0 ((-1) : Int32)) 1 ((-1) : Int32))))] H := hP
  replace hD : va_D A [(s_left, .inl (cl, 32, .inl lf)), (s_wishes, .inl (cw, 14, .inl (upd (upd (upd (upd (upd (upd (upd (upd (upd (upd (upd (upd (upd (upd wi 0 277) 1 0) 2 1000) 3 1200) 4 0) 5 0) 6 3) 7 277) 8 0) 9 1000) 10 1200) 11 0) 12 0) 13 3))), (s_chosen, .inl (cc, 2, .inl ch)), (h0, .inr (3, [.ref s_ids, .ref s_attributes, .ref s_permanent, .int 0, .ref s_glyphs, .int s_glyphCount, .ref s_dots, .int s_used, .ref s_wishes, .ref s_pins, .int 0, .int 0, .ref s_chosen, .int 0, .ref s_left, .ref s_coming])), (s_pins, .inl (cp, 2, .inl (upd (upd pn 0 ((-1) : Int32)) 1 ((-1) : Int32))))] := hD
  refine lv_aload_n hx hb d_FontShelf_endJob_53 rfl (lv_at hl 1 rfl) ?_
  refine lv_iconst (v := 0) hx hb d_FontShelf_endJob_54 (by decide) ?_
  refine va_put (D := (dC, dI)) (ci := 3) (v := .int 0) (ty := .boolean) (C := R_FontShelf) (T := F_FontShelf) (N := 16) hx hb hwd i_FontShelf t_FontShelf to_FontShelf no_FontShelf hown hK hP hD hS 3 rfl rfl 13 (by decide) (hwd _ wd_2_114) (fun _ h9 => h9) rfl (by decide +kernel) (by decide) rfl (Nat.le_of_ble_eq_true rfl) d_FontShelf_endJob_55 ?_
  clear hP hD hS
  intro H locs hP hD hS
  replace hP : va_P (dC, dI) vcl [(s_left, .inl (cl, 32, .inl lf)), (s_wishes, .inl (cw, 14, .inl (upd (upd (upd (upd (upd (upd (upd (upd (upd (upd (upd (upd (upd (upd wi 0 277) 1 0) 2 1000) 3 1200) 4 0) 5 0) 6 3) 7 277) 8 0) 9 1000) 10 1200) 11 0) 12 0) 13 3))), (s_chosen, .inl (cc, 2, .inl ch)), (h0, .inr (3, [.ref s_ids, .ref s_attributes, .ref s_permanent, .int 0, .ref s_glyphs, .int s_glyphCount, .ref s_dots, .int s_used, .ref s_wishes, .ref s_pins, .int 0, .int 0, .ref s_chosen, .int 0, .ref s_left, .ref s_coming])), (s_pins, .inl (cp, 2, .inl (upd (upd pn 0 ((-1) : Int32)) 1 ((-1) : Int32))))] H := hP
  replace hD : va_D A [(s_left, .inl (cl, 32, .inl lf)), (s_wishes, .inl (cw, 14, .inl (upd (upd (upd (upd (upd (upd (upd (upd (upd (upd (upd (upd (upd (upd wi 0 277) 1 0) 2 1000) 3 1200) 4 0) 5 0) 6 3) 7 277) 8 0) 9 1000) 10 1200) 11 0) 12 0) 13 3))), (s_chosen, .inl (cc, 2, .inl ch)), (h0, .inr (3, [.ref s_ids, .ref s_attributes, .ref s_permanent, .int 0, .ref s_glyphs, .int s_glyphCount, .ref s_dots, .int s_used, .ref s_wishes, .ref s_pins, .int 0, .int 0, .ref s_chosen, .int 0, .ref s_left, .ref s_coming])), (s_pins, .inl (cp, 2, .inl (upd (upd pn 0 ((-1) : Int32)) 1 ((-1) : Int32))))] := hD
  refine lv_aload_n hx hb d_FontShelf_endJob_58 rfl (lv_at hl 1 rfl) ?_
  have hPc := hP.sub (ws' := [(h0, .inr (3, [.ref s_ids, .ref s_attributes, .ref s_permanent, .int 0, .ref s_glyphs, .int s_glyphCount, .ref s_dots, .int s_used, .ref s_wishes, .ref s_pins, .int 0, .int 0, .ref s_chosen, .int 0, .ref s_left, .ref s_coming])), (s_pins, .inl (cp, 2, .inl (upd (upd pn 0 ((-1) : Int32)) 1 ((-1) : Int32)))), (s_left, .inl (cl, 32, .inl lf)), (s_wishes, .inl (cw, 14, .inl (upd (upd (upd (upd (upd (upd (upd (upd (upd (upd (upd (upd (upd (upd wi 0 277) 1 0) 2 1000) 3 1200) 4 0) 5 0) 6 3) 7 277) 8 0) 9 1000) 10 1200) 11 0) 12 0) 13 3))), (s_chosen, .inl (cc, 2, .inl ch))]) [3, 4, 0, 1, 2] rfl
  have hDc := hD.sub (ws' := [(h0, .inr (3, [.ref s_ids, .ref s_attributes, .ref s_permanent, .int 0, .ref s_glyphs, .int s_glyphCount, .ref s_dots, .int s_used, .ref s_wishes, .ref s_pins, .int 0, .int 0, .ref s_chosen, .int 0, .ref s_left, .ref s_coming])), (s_pins, .inl (cp, 2, .inl (upd (upd pn 0 ((-1) : Int32)) 1 ((-1) : Int32)))), (s_left, .inl (cl, 32, .inl lf)), (s_wishes, .inl (cw, 14, .inl (upd (upd (upd (upd (upd (upd (upd (upd (upd (upd (upd (upd (upd (upd wi 0 277) 1 0) 2 1000) 3 1200) 4 0) 5 0) 6 3) 7 277) 8 0) 9 1000) 10 1200) 11 0) 12 0) 13 3))), (s_chosen, .inl (cc, 2, .inl ch))]) [3, 4, 0, 1, 2] (by decide) rfl
  have hKc := hK.sub (tys' := [(cp, .int), (cl, .boolean), (cw, .int), (cc, .int)]) [0, 1, 2, 3] rfl
  have hFc := va_free (wc := [(h0, .inr (3, [.ref s_ids, .ref s_attributes, .ref s_permanent, .int 0, .ref s_glyphs, .int s_glyphCount, .ref s_dots, .int s_used, .ref s_wishes, .ref s_pins, .int 0, .int 0, .ref s_chosen, .int 0, .ref s_left, .ref s_coming])), (s_pins, .inl (cp, 2, .inl (upd (upd pn 0 ((-1) : Int32)) 1 ((-1) : Int32)))), (s_left, .inl (cl, 32, .inl lf)), (s_wishes, .inl (cw, 14, .inl (upd (upd (upd (upd (upd (upd (upd (upd (upd (upd (upd (upd (upd (upd wi 0 277) 1 0) 2 1000) 3 1200) 4 0) 5 0) 6 3) 7 277) 8 0) 9 1000) 10 1200) 11 0) 12 0) 13 3))), (s_chosen, .inl (cc, 2, .inl ch))]) hD hS hA [3, 4, 0, 1, 2] rfl
  refine va_callv (va_runV (As := []) (rest := []) ⟨hx, hb, hml, hown, hwd⟩ (c_settle_S l dC dI tt h0 s_ids s_attributes s_permanent s_glyphs s_glyphCount s_dots s_used s_wishes s_pins 0 0 s_chosen s_left s_coming cp (upd (upd pn 0 ((-1) : Int32)) 1 ((-1) : Int32)) cl lf cw (upd (upd (upd (upd (upd (upd (upd (upd (upd (upd (upd (upd (upd (upd wi 0 277) 1 0) 2 1000) 3 1200) 4 0) 5 0) 6 3) 7 277) 8 0) 9 1000) 10 1200) 11 0) 12 0) 13 3) cc ch H.size (rfl) (rfl)) (cwV 0 hwd (gV gd_FontShelf_settle wd_2_41 wd_2_42 wd_2_43 wd_1_5) rfl rfl rfl (by decide +kernel) ⟨Nat.le_of_ble_eq_true rfl, Nat.le_of_ble_eq_true rfl⟩) ⟨fun a U g mk q => by obtain ⟨q0, q1, qP, qK, qD, qF⟩ := q; exact ⟨q0, q1, qP, va_K.moved (u := U) (U := U.calling g mk a) (Vm.Alike.refl U.vm) qK, qD, SF.same (u := U) (U := U.calling g mk a) rfl qF⟩, va_recv hKc hPc (ci := 3) (q0 := 0) rfl rfl, fun U hU hW => ⟨rfl, by rw [hU], by rw [hU]; exact hPc, va_K.moved hW.alike hKc, hDc.weaken (fun _ _ _ _ => trivial), by rw [hU]; exact SF.narrow (SF.moved hW (SF.kept hF (fun a h1 h2 => hS.2.1 a h1 h2))) hFc⟩⟩ rfl rfl hl.1 rfl (lv_room (Nat.le_of_ble_eq_true rfl)) d_FontShelf_endJob_59 ⟨Nat.le_of_ble_eq_true rfl, Nat.le_of_ble_eq_true rfl⟩) hS (fun q _ h => hFc q h) hFc ?_
  clear hPc hDc hKc hS
  intro u_20 t H1 locs ht hvm hw hB hz1 hk1 hS
  obtain ⟨fc0_21, rfl⟩ : ∃ z, z = u_20 := ⟨_, rfl⟩
  obtain ⟨hP1, hK1, hD1⟩ := hB
  rw [ht] at hP1
  have hK1 := va_K.moved hvm.symm hK1
  try dsimp only at hw
  have hJ := va_join (wr := []) (w1 := [(s_chosen, .inl (cc, 2, .inl (upd (upd ch 0 (-1)) 1 (-1)))), (h0, .inr (3, [.ref s_ids, .ref s_attributes, .ref s_permanent, .int 0, .ref s_glyphs, .int s_glyphCount, .ref s_dots, .int s_used, .ref s_wishes, .ref s_pins, .int 0, .int 0, .ref s_chosen, .int 1, .ref s_left, .ref s_coming])), (s_pins, .inl (cp, 2, .inl (upd (upd pn 0 ((-1) : Int32)) 1 ((-1) : Int32)))), (s_left, .inl (cl, 32, .inl fc0_21)), (s_wishes, .inl (cw, 14, .inl (upd (upd (upd (upd (upd (upd (upd (upd (upd (upd (upd (upd (upd (upd wi 0 277) 1 0) 2 1000) 3 1200) 4 0) 5 0) 6 3) 7 277) 8 0) 9 1000) 10 1200) 11 0) 12 0) 13 3)))]) hP hD [3, 4, 0, 1, 2] [] rfl rfl (by decide) (by decide) hk1 hFc hP1 hD1
  clear hP hD hk1 hFc hP1 hD1 hz1
  obtain ⟨hP, hD⟩ := hJ
  clear hK1 ht hvm
  generalize H1 = H at hP hS ⊢
  replace hP : va_P (dC, dI) vcl [(s_chosen, .inl (cc, 2, .inl (upd (upd ch 0 (-1)) 1 (-1)))), (h0, .inr (3, [.ref s_ids, .ref s_attributes, .ref s_permanent, .int 0, .ref s_glyphs, .int s_glyphCount, .ref s_dots, .int s_used, .ref s_wishes, .ref s_pins, .int 0, .int 0, .ref s_chosen, .int 1, .ref s_left, .ref s_coming])), (s_pins, .inl (cp, 2, .inl (upd (upd pn 0 ((-1) : Int32)) 1 ((-1) : Int32)))), (s_left, .inl (cl, 32, .inl fc0_21)), (s_wishes, .inl (cw, 14, .inl (upd (upd (upd (upd (upd (upd (upd (upd (upd (upd (upd (upd (upd (upd wi 0 277) 1 0) 2 1000) 3 1200) 4 0) 5 0) 6 3) 7 277) 8 0) 9 1000) 10 1200) 11 0) 12 0) 13 3)))] H := hP
  replace hD : va_D A [(s_chosen, .inl (cc, 2, .inl (upd (upd ch 0 (-1)) 1 (-1)))), (h0, .inr (3, [.ref s_ids, .ref s_attributes, .ref s_permanent, .int 0, .ref s_glyphs, .int s_glyphCount, .ref s_dots, .int s_used, .ref s_wishes, .ref s_pins, .int 0, .int 0, .ref s_chosen, .int 1, .ref s_left, .ref s_coming])), (s_pins, .inl (cp, 2, .inl (upd (upd pn 0 ((-1) : Int32)) 1 ((-1) : Int32)))), (s_left, .inl (cl, 32, .inl fc0_21)), (s_wishes, .inl (cw, 14, .inl (upd (upd (upd (upd (upd (upd (upd (upd (upd (upd (upd (upd (upd (upd wi 0 277) 1 0) 2 1000) 3 1200) 4 0) 5 0) 6 3) 7 277) 8 0) 9 1000) 10 1200) 11 0) 12 0) 13 3)))] := hD
  have hP9 := hP.sub (ws' := [(s_chosen, .inl (cc, 2, .inl (upd (upd ch 0 (-1)) 1 (-1)))), (h0, .inr (3, [.ref s_ids, .ref s_attributes, .ref s_permanent, .int 0, .ref s_glyphs, .int s_glyphCount, .ref s_dots, .int s_used, .ref s_wishes, .ref s_pins, .int 0, .int 0, .ref s_chosen, .int 1, .ref s_left, .ref s_coming])), (s_pins, .inl (cp, 2, .inl (upd (upd pn 0 ((-1) : Int32)) 1 ((-1) : Int32)))), (s_left, .inl (cl, 32, .inl fc0_21)), (s_wishes, .inl (cw, 14, .inl (upd (upd (upd (upd (upd (upd (upd (upd (upd (upd (upd (upd (upd (upd wi 0 277) 1 0) 2 1000) 3 1200) 4 0) 5 0) 6 3) 7 277) 8 0) 9 1000) 10 1200) 11 0) 12 0) 13 3)))]) [0, 1, 2, 3, 4] rfl
  have hD9 := hD.sub (ws' := [(s_chosen, .inl (cc, 2, .inl (upd (upd ch 0 (-1)) 1 (-1)))), (h0, .inr (3, [.ref s_ids, .ref s_attributes, .ref s_permanent, .int 0, .ref s_glyphs, .int s_glyphCount, .ref s_dots, .int s_used, .ref s_wishes, .ref s_pins, .int 0, .int 0, .ref s_chosen, .int 1, .ref s_left, .ref s_coming])), (s_pins, .inl (cp, 2, .inl (upd (upd pn 0 ((-1) : Int32)) 1 ((-1) : Int32)))), (s_left, .inl (cl, 32, .inl fc0_21)), (s_wishes, .inl (cw, 14, .inl (upd (upd (upd (upd (upd (upd (upd (upd (upd (upd (upd (upd (upd (upd wi 0 277) 1 0) 2 1000) 3 1200) 4 0) 5 0) 6 3) 7 277) 8 0) 9 1000) 10 1200) 11 0) 12 0) 13 3)))]) [0, 1, 2, 3, 4] (by decide) rfl
  have hK9 := hK.sub (tys' := [(cc, .int), (cp, .int), (cl, .boolean), (cw, .int)]) [3, 0, 1, 2] rfl
  exact W.vret hx hb hr (fun t ht hW => ⟨⟨(fc0_21), rfl, (trivial), by rw [ht]; exact hP9, va_K.moved hW.alike hK9, hD9⟩, hS.F ht⟩) hS.2.2 d_FontShelf_endJob_62

abbrev at_c_FontShelf_init_S (dC : Nat → ClassId) (dI : Nat → Nat → Nat) (h0 : Nat) (A : Nat → Prop) (u : (Nat → Int32)) (t : State) : Prop := match u with
  | fc0 => ∃ (q_1 : Nat) (q_3 : Nat) (q_5 : Nat) (q_7 : Nat) (q_9 : Nat) (q_19 : Nat) (q_15 : Nat) (q_13 : Nat) (q_17 : Nat) (q_11 : Nat) (cA_2 : ClassId) (cA_4 : ClassId) (cA_6 : ClassId) (cA_8 : ClassId) (cA_10 : ClassId) (cA_20 : ClassId) (cA_16 : ClassId) (cA_14 : ClassId) (cA_18 : ClassId) (cA_12 : ClassId), va_P (dC, dI) vcl [(h0, .inr (3, [.ref q_1, .ref q_3, .ref q_5, .int 0, .ref q_7, .int 0, .ref q_9, .int 0, .ref q_11, .ref q_13, .int 0, .int 0, .ref q_15, .int 1, .ref q_17, .ref q_19])), (q_1, .inl (cA_2, 32, .inl (fun _ => 0))), (q_3, .inl (cA_4, 224, .inl (fun _ => 0))), (q_5, .inl (cA_6, 32, .inl (fun _ => 0))), (q_7, .inl (cA_8, 2304, .inl (fun _ => 0))), (q_9, .inl (cA_10, 16384, .inl (fun _ => 0))), (q_19, .inl (cA_20, 7, .inl (fun _ => 0))), (q_15, .inl (cA_16, 2, .inl (upd (upd (fun _ => 0) 0 (-1)) 1 (-1)))), (q_13, .inl (cA_14, 2, .inl (upd (upd (fun _ => 0) 0 ((-1) : Int32)) 1 ((-1) : Int32)))), (q_17, .inl (cA_18, 32, .inl fc0)), (q_11, .inl (cA_12, 14, .inl (upd (upd (upd (upd (upd (upd (upd (upd (upd (upd (upd (upd (upd (upd (fun _ => 0) 0 277) 1 0) 2 1000) 3 1200) 4 0) 5 0) 6 3) 7 277) 8 0) 9 1000) 10 1200) 11 0) 12 0) 13 3)))] t.heap ∧ va_K (dC, dI) vcl [(cA_2, .int), (cA_4, .int), (cA_6, .boolean), (cA_8, .int), (cA_10, .byte), (cA_20, .int), (cA_16, .int), (cA_14, .int), (cA_18, .boolean), (cA_12, .int)] t ∧ va_D A [(h0, .inr (3, [.ref q_1, .ref q_3, .ref q_5, .int 0, .ref q_7, .int 0, .ref q_9, .int 0, .ref q_11, .ref q_13, .int 0, .int 0, .ref q_15, .int 1, .ref q_17, .ref q_19])), (q_1, .inl (cA_2, 32, .inl (fun _ => 0))), (q_3, .inl (cA_4, 224, .inl (fun _ => 0))), (q_5, .inl (cA_6, 32, .inl (fun _ => 0))), (q_7, .inl (cA_8, 2304, .inl (fun _ => 0))), (q_9, .inl (cA_10, 16384, .inl (fun _ => 0))), (q_19, .inl (cA_20, 7, .inl (fun _ => 0))), (q_15, .inl (cA_16, 2, .inl (upd (upd (fun _ => 0) 0 (-1)) 1 (-1)))), (q_13, .inl (cA_14, 2, .inl (upd (upd (fun _ => 0) 0 ((-1) : Int32)) 1 ((-1) : Int32)))), (q_17, .inl (cA_18, 32, .inl fc0)), (q_11, .inl (cA_12, 14, .inl (upd (upd (upd (upd (upd (upd (upd (upd (upd (upd (upd (upd (upd (upd (fun _ => 0) 0 277) 1 0) 2 1000) 3 1200) 4 0) 5 0) 6 3) 7 277) 8 0) 9 1000) 10 1200) 11 0) 12 0) 13 3)))]
abbrev po_c_FontShelf_init_S (h0 : Nat) (u : (Nat → Int32)) : Prop := match u with
  | fc0 => True
abbrev q_c_FontShelf_init_S (dC : Nat → ClassId) (dI : Nat → Nat → Nat) (h0 : Nat) (A : Nat → Prop) : Array Value → State → Outcome → State → Prop := va_Qv (po_c_FontShelf_init_S h0) (at_c_FontShelf_init_S dC dI h0 A) A
abbrev rm_c_FontShelf_init_S : Room := { frames := 5, cells := 10, slots := 19033, locals := 113 }
set_option maxHeartbeats 4000000 in
set_option maxRecDepth 100000 in
theorem c_FontShelf_init_S (l : Launch) (dC : Nat → ClassId) (dI : Nat → Nat → Nat) (tt : Nat → Nat) (h0 : Nat) (sz : Nat)  : Met l y_FontShelf_init w_FontShelf_init rm_c_FontShelf_init_S (va_Pc [.ref h0] (fun U => U.heap.size = sz ∧ va_P (dC, dI) vcl [(h0, .inr (3, [.null, .null, .null, .int 0, .null, .int 0, .null, .int 0, .null, .null, .int 0, .int 0, .null, .int 0, .null, .null]))] U.heap ∧ va_K (dC, dI) vcl [] U ∧ va_D (fun _ => True) [(h0, .inr (3, [.null, .null, .null, .int 0, .null, .int 0, .null, .int 0, .null, .null, .int 0, .int 0, .null, .int 0, .null, .null]))] ∧ SF tt (va_A [(h0, .inr (3, [.null, .null, .null, .int 0, .null, .int 0, .null, .int 0, .null, .null, .int 0, .int 0, .null, .int 0, .null, .null]))] sz) U U.heap)) (q_c_FontShelf_init_S dC dI h0 (va_A [(h0, .inr (3, [.null, .null, .null, .int 0, .null, .int 0, .null, .int 0, .null, .null, .int 0, .int 0, .null, .int 0, .null, .null]))] sz)) 10 19033 (va_A [(h0, .inr (3, [.null, .null, .null, .int 0, .null, .int 0, .null, .int 0, .null, .null, .int 0, .int 0, .null, .int 0, .null, .null]))] sz) := by
  refine Met.ofW (cc := b_FontShelf_init) (maxL := 1) (ret := none) (by decide) rfl ?_
  intro p e s m args below meth c s₁ B hml hv
  obtain ⟨rfl, hsz, hP, hK, hD0, hF⟩ := hv
  have hx := B.exec
  have hb := B.bytes
  have hr := B.returns
  have hwd : ∀ w ∈ gT, w.before _ s = true := fun w h => atoms_spec (ws := w_FontShelf_init) B.pre w (List.mem_cons_of_mem _ h)
  have hown : s.vm.findClass R_FontShelf = some m.cls := findClass_of_methodNamed B.named
  have hlocks := B.notSynchronized
  have hin : meth.name = "<init>" := (name_of_methodNamed B.named B.method).1
  subst hsz
  have hD := hD0.self (sz := s.heap.size)
  generalize hAe : va_A [(h0, .inr (3, [.null, .null, .null, .int 0, .null, .int 0, .null, .int 0, .null, .null, .int 0, .int 0, .null, .int 0, .null, .null]))] s.heap.size = A at hD hF ⊢
  have hA : ∀ q : Nat, s.heap.size ≤ q → A q := fun q h => by rw [← hAe]; exact Or.inr h
  have hS : va_S A s.heap s.heap [] := va_S.rf
  have hP : va_P (dC, dI) vcl [(h0, .inr (3, [.null, .null, .null, .int 0, .null, .int 0, .null, .int 0, .null, .null, .int 0, .int 0, .null, .int 0, .null, .null]))] s.heap := hP
  have hl := lv_entry ([.ref h0]) (n := 1) (Nat.le_of_ble_eq_true rfl)
  rw [lg_entry_eq]
  generalize (lg_sl ([.ref h0]) ++ List.replicate (1 - (lg_sl ([.ref h0])).length) Slot.unset).toArray = ls at hl ⊢
  have hl : lv_has ls 1 [(0, .ref h0)] := hl
  refine lv_aload_n hx hb d_FontShelf_init_0 rfl (lv_at hl 0 rfl) ?_
  refine W.objInit hx hb hown (hwd _ wd_2_11) (hwd _ wd_1_35) (hwd _ wd_1_36) rfl (by rw [hml]; exact hl.1) rfl d_FontShelf_init_1 (Nat.le_of_ble_eq_true rfl) (Nat.le_of_ble_eq_true rfl) ?_
  refine W.eq (g2 := F0 m 4 ls []) rfl ?_
  refine lv_aload_n hx hb d_FontShelf_init_4 rfl (lv_at hl 0 rfl) ?_
  refine lv_bipush (v := 32) hx hb d_FontShelf_init_5 (by decide) ?_
  refine va_newa (atype := .int) (N' := 32) (a0 := (32, .inl (fun _ => 0))) (ty := .int) (n := 32) hx hb (hwd _ wd_1_167) rfl hK hP hD hS hA (fun _ => rfl) (by decide) (by decide) (by decide) (Nat.le_of_ble_eq_true rfl) (Nat.le_of_ble_eq_true rfl) d_FontShelf_init_7 ?_
  clear hP hD hS hK
  intro q_1 cA_2 H hK hP hD hS
  replace hP : va_P (dC, dI) vcl [(h0, .inr (3, [.null, .null, .null, .int 0, .null, .int 0, .null, .int 0, .null, .null, .int 0, .int 0, .null, .int 0, .null, .null])), (q_1, .inl (cA_2, 32, .inl (fun _ => 0)))] H := hP
  replace hD : va_D A [(h0, .inr (3, [.null, .null, .null, .int 0, .null, .int 0, .null, .int 0, .null, .null, .int 0, .int 0, .null, .int 0, .null, .null])), (q_1, .inl (cA_2, 32, .inl (fun _ => 0)))] := hD
  replace hK : va_K (dC, dI) vcl [(cA_2, .int)] s := hK
  refine W.widen (k := 1) (n := 32) (by decide) (by decide) ?_
  refine va_putF (D := (dC, dI)) (ci := 3) (v := .ref q_1) (ty := (.array .int)) (C := R_FontShelf) (T := F_FontShelf) (N := 16) hx hb hwd i_FontShelf t_FontShelf to_FontShelf no_FontShelf hown hK hP hD hS 0 rfl rfl 0 (by decide) (hwd _ wd_2_98) (fun _ h9 => h9) rfl hin rfl (by decide +kernel) rfl rfl (Nat.le_of_ble_eq_true rfl) d_FontShelf_init_9 ?_
  clear hP hD hS
  intro H locs hP hD hS
  replace hP : va_P (dC, dI) vcl [(h0, .inr (3, [.ref q_1, .null, .null, .int 0, .null, .int 0, .null, .int 0, .null, .null, .int 0, .int 0, .null, .int 0, .null, .null])), (q_1, .inl (cA_2, 32, .inl (fun _ => 0)))] H := hP
  replace hD : va_D A [(h0, .inr (3, [.ref q_1, .null, .null, .int 0, .null, .int 0, .null, .int 0, .null, .null, .int 0, .int 0, .null, .int 0, .null, .null])), (q_1, .inl (cA_2, 32, .inl (fun _ => 0)))] := hD
  refine lv_aload_n hx hb d_FontShelf_init_12 rfl (lv_at hl 0 rfl) ?_
  refine lv_sipush (v := 224) hx hb d_FontShelf_init_13 (by decide) ?_
  refine va_newa (atype := .int) (N' := 224) (a0 := (224, .inl (fun _ => 0))) (ty := .int) (n := 224) hx hb (hwd _ wd_1_167) rfl hK hP hD hS hA (fun _ => rfl) (by decide) (by decide) (by decide) (Nat.le_of_ble_eq_true rfl) (Nat.le_of_ble_eq_true rfl) d_FontShelf_init_16 ?_
  clear hP hD hS hK
  intro q_3 cA_4 H hK hP hD hS
  replace hP : va_P (dC, dI) vcl [(h0, .inr (3, [.ref q_1, .null, .null, .int 0, .null, .int 0, .null, .int 0, .null, .null, .int 0, .int 0, .null, .int 0, .null, .null])), (q_1, .inl (cA_2, 32, .inl (fun _ => 0))), (q_3, .inl (cA_4, 224, .inl (fun _ => 0)))] H := hP
  replace hD : va_D A [(h0, .inr (3, [.ref q_1, .null, .null, .int 0, .null, .int 0, .null, .int 0, .null, .null, .int 0, .int 0, .null, .int 0, .null, .null])), (q_1, .inl (cA_2, 32, .inl (fun _ => 0))), (q_3, .inl (cA_4, 224, .inl (fun _ => 0)))] := hD
  replace hK : va_K (dC, dI) vcl [(cA_2, .int), (cA_4, .int)] s := hK
  refine W.widen (k := 2) (n := 256) (by decide) (by decide) ?_
  refine va_putF (D := (dC, dI)) (ci := 3) (v := .ref q_3) (ty := (.array .int)) (C := R_FontShelf) (T := F_FontShelf) (N := 16) hx hb hwd i_FontShelf t_FontShelf to_FontShelf no_FontShelf hown hK hP hD hS 0 rfl rfl 1 (by decide) (hwd _ wd_2_99) (fun _ h9 => h9) rfl hin rfl (by decide +kernel) rfl rfl (Nat.le_of_ble_eq_true rfl) d_FontShelf_init_18 ?_
  clear hP hD hS
  intro H locs hP hD hS
  replace hP : va_P (dC, dI) vcl [(h0, .inr (3, [.ref q_1, .ref q_3, .null, .int 0, .null, .int 0, .null, .int 0, .null, .null, .int 0, .int 0, .null, .int 0, .null, .null])), (q_1, .inl (cA_2, 32, .inl (fun _ => 0))), (q_3, .inl (cA_4, 224, .inl (fun _ => 0)))] H := hP
  replace hD : va_D A [(h0, .inr (3, [.ref q_1, .ref q_3, .null, .int 0, .null, .int 0, .null, .int 0, .null, .null, .int 0, .int 0, .null, .int 0, .null, .null])), (q_1, .inl (cA_2, 32, .inl (fun _ => 0))), (q_3, .inl (cA_4, 224, .inl (fun _ => 0)))] := hD
  refine lv_aload_n hx hb d_FontShelf_init_21 rfl (lv_at hl 0 rfl) ?_
  refine lv_bipush (v := 32) hx hb d_FontShelf_init_22 (by decide) ?_
  refine va_newa (atype := .boolean) (N' := 32) (a0 := (32, .inl (fun _ => 0))) (ty := .boolean) (n := 32) hx hb (hwd _ wd_2_150) rfl hK hP hD hS hA (fun _ => rfl) (by decide) (by decide) (by decide) (Nat.le_of_ble_eq_true rfl) (Nat.le_of_ble_eq_true rfl) d_FontShelf_init_24 ?_
  clear hP hD hS hK
  intro q_5 cA_6 H hK hP hD hS
  replace hP : va_P (dC, dI) vcl [(h0, .inr (3, [.ref q_1, .ref q_3, .null, .int 0, .null, .int 0, .null, .int 0, .null, .null, .int 0, .int 0, .null, .int 0, .null, .null])), (q_1, .inl (cA_2, 32, .inl (fun _ => 0))), (q_3, .inl (cA_4, 224, .inl (fun _ => 0))), (q_5, .inl (cA_6, 32, .inl (fun _ => 0)))] H := hP
  replace hD : va_D A [(h0, .inr (3, [.ref q_1, .ref q_3, .null, .int 0, .null, .int 0, .null, .int 0, .null, .null, .int 0, .int 0, .null, .int 0, .null, .null])), (q_1, .inl (cA_2, 32, .inl (fun _ => 0))), (q_3, .inl (cA_4, 224, .inl (fun _ => 0))), (q_5, .inl (cA_6, 32, .inl (fun _ => 0)))] := hD
  replace hK : va_K (dC, dI) vcl [(cA_2, .int), (cA_4, .int), (cA_6, .boolean)] s := hK
  refine W.widen (k := 3) (n := 288) (by decide) (by decide) ?_
  refine va_putF (D := (dC, dI)) (ci := 3) (v := .ref q_5) (ty := (.array .boolean)) (C := R_FontShelf) (T := F_FontShelf) (N := 16) hx hb hwd i_FontShelf t_FontShelf to_FontShelf no_FontShelf hown hK hP hD hS 0 rfl rfl 2 (by decide) (hwd _ wd_2_100) (fun _ h9 => h9) rfl hin rfl (by decide +kernel) rfl rfl (Nat.le_of_ble_eq_true rfl) d_FontShelf_init_26 ?_
  clear hP hD hS
  intro H locs hP hD hS
  replace hP : va_P (dC, dI) vcl [(h0, .inr (3, [.ref q_1, .ref q_3, .ref q_5, .int 0, .null, .int 0, .null, .int 0, .null, .null, .int 0, .int 0, .null, .int 0, .null, .null])), (q_1, .inl (cA_2, 32, .inl (fun _ => 0))), (q_3, .inl (cA_4, 224, .inl (fun _ => 0))), (q_5, .inl (cA_6, 32, .inl (fun _ => 0)))] H := hP
  replace hD : va_D A [(h0, .inr (3, [.ref q_1, .ref q_3, .ref q_5, .int 0, .null, .int 0, .null, .int 0, .null, .null, .int 0, .int 0, .null, .int 0, .null, .null])), (q_1, .inl (cA_2, 32, .inl (fun _ => 0))), (q_3, .inl (cA_4, 224, .inl (fun _ => 0))), (q_5, .inl (cA_6, 32, .inl (fun _ => 0)))] := hD
  refine lv_aload_n hx hb d_FontShelf_init_29 rfl (lv_at hl 0 rfl) ?_
  refine lv_sipush (v := 2304) hx hb d_FontShelf_init_30 (by decide) ?_
  refine va_newa (atype := .int) (N' := 2304) (a0 := (2304, .inl (fun _ => 0))) (ty := .int) (n := 2304) hx hb (hwd _ wd_1_167) rfl hK hP hD hS hA (fun _ => rfl) (by decide) (by decide) (by decide) (Nat.le_of_ble_eq_true rfl) (Nat.le_of_ble_eq_true rfl) d_FontShelf_init_33 ?_
  clear hP hD hS hK
  intro q_7 cA_8 H hK hP hD hS
  replace hP : va_P (dC, dI) vcl [(h0, .inr (3, [.ref q_1, .ref q_3, .ref q_5, .int 0, .null, .int 0, .null, .int 0, .null, .null, .int 0, .int 0, .null, .int 0, .null, .null])), (q_1, .inl (cA_2, 32, .inl (fun _ => 0))), (q_3, .inl (cA_4, 224, .inl (fun _ => 0))), (q_5, .inl (cA_6, 32, .inl (fun _ => 0))), (q_7, .inl (cA_8, 2304, .inl (fun _ => 0)))] H := hP
  replace hD : va_D A [(h0, .inr (3, [.ref q_1, .ref q_3, .ref q_5, .int 0, .null, .int 0, .null, .int 0, .null, .null, .int 0, .int 0, .null, .int 0, .null, .null])), (q_1, .inl (cA_2, 32, .inl (fun _ => 0))), (q_3, .inl (cA_4, 224, .inl (fun _ => 0))), (q_5, .inl (cA_6, 32, .inl (fun _ => 0))), (q_7, .inl (cA_8, 2304, .inl (fun _ => 0)))] := hD
  replace hK : va_K (dC, dI) vcl [(cA_2, .int), (cA_4, .int), (cA_6, .boolean), (cA_8, .int)] s := hK
  refine W.widen (k := 4) (n := 2592) (by decide) (by decide) ?_
  refine va_putF (D := (dC, dI)) (ci := 3) (v := .ref q_7) (ty := (.array .int)) (C := R_FontShelf) (T := F_FontShelf) (N := 16) hx hb hwd i_FontShelf t_FontShelf to_FontShelf no_FontShelf hown hK hP hD hS 0 rfl rfl 4 (by decide) (hwd _ wd_2_103) (fun _ h9 => h9) rfl hin rfl (by decide +kernel) rfl rfl (Nat.le_of_ble_eq_true rfl) d_FontShelf_init_35 ?_
  clear hP hD hS
  intro H locs hP hD hS
  replace hP : va_P (dC, dI) vcl [(h0, .inr (3, [.ref q_1, .ref q_3, .ref q_5, .int 0, .ref q_7, .int 0, .null, .int 0, .null, .null, .int 0, .int 0, .null, .int 0, .null, .null])), (q_1, .inl (cA_2, 32, .inl (fun _ => 0))), (q_3, .inl (cA_4, 224, .inl (fun _ => 0))), (q_5, .inl (cA_6, 32, .inl (fun _ => 0))), (q_7, .inl (cA_8, 2304, .inl (fun _ => 0)))] H := hP
  replace hD : va_D A [(h0, .inr (3, [.ref q_1, .ref q_3, .ref q_5, .int 0, .ref q_7, .int 0, .null, .int 0, .null, .null, .int 0, .int 0, .null, .int 0, .null, .null])), (q_1, .inl (cA_2, 32, .inl (fun _ => 0))), (q_3, .inl (cA_4, 224, .inl (fun _ => 0))), (q_5, .inl (cA_6, 32, .inl (fun _ => 0))), (q_7, .inl (cA_8, 2304, .inl (fun _ => 0)))] := hD
  refine lv_aload_n hx hb d_FontShelf_init_38 rfl (lv_at hl 0 rfl) ?_
  refine lv_sipush (v := 16384) hx hb d_FontShelf_init_39 (by decide) ?_
  refine va_newa (atype := .byte) (N' := 16384) (a0 := (16384, .inl (fun _ => 0))) (ty := .byte) (n := 16384) hx hb (hwd _ wd_1_166) rfl hK hP hD hS hA (fun _ => rfl) (by decide) (by decide) (by decide) (Nat.le_of_ble_eq_true rfl) (Nat.le_of_ble_eq_true rfl) d_FontShelf_init_42 ?_
  clear hP hD hS hK
  intro q_9 cA_10 H hK hP hD hS
  replace hP : va_P (dC, dI) vcl [(h0, .inr (3, [.ref q_1, .ref q_3, .ref q_5, .int 0, .ref q_7, .int 0, .null, .int 0, .null, .null, .int 0, .int 0, .null, .int 0, .null, .null])), (q_1, .inl (cA_2, 32, .inl (fun _ => 0))), (q_3, .inl (cA_4, 224, .inl (fun _ => 0))), (q_5, .inl (cA_6, 32, .inl (fun _ => 0))), (q_7, .inl (cA_8, 2304, .inl (fun _ => 0))), (q_9, .inl (cA_10, 16384, .inl (fun _ => 0)))] H := hP
  replace hD : va_D A [(h0, .inr (3, [.ref q_1, .ref q_3, .ref q_5, .int 0, .ref q_7, .int 0, .null, .int 0, .null, .null, .int 0, .int 0, .null, .int 0, .null, .null])), (q_1, .inl (cA_2, 32, .inl (fun _ => 0))), (q_3, .inl (cA_4, 224, .inl (fun _ => 0))), (q_5, .inl (cA_6, 32, .inl (fun _ => 0))), (q_7, .inl (cA_8, 2304, .inl (fun _ => 0))), (q_9, .inl (cA_10, 16384, .inl (fun _ => 0)))] := hD
  replace hK : va_K (dC, dI) vcl [(cA_2, .int), (cA_4, .int), (cA_6, .boolean), (cA_8, .int), (cA_10, .byte)] s := hK
  refine W.widen (k := 5) (n := 18976) (by decide) (by decide) ?_
  refine va_putF (D := (dC, dI)) (ci := 3) (v := .ref q_9) (ty := (.array .byte)) (C := R_FontShelf) (T := F_FontShelf) (N := 16) hx hb hwd i_FontShelf t_FontShelf to_FontShelf no_FontShelf hown hK hP hD hS 0 rfl rfl 6 (by decide) (hwd _ wd_2_106) (fun _ h9 => h9) rfl hin rfl (by decide +kernel) rfl rfl (Nat.le_of_ble_eq_true rfl) d_FontShelf_init_44 ?_
  clear hP hD hS
  intro H locs hP hD hS
  replace hP : va_P (dC, dI) vcl [(h0, .inr (3, [.ref q_1, .ref q_3, .ref q_5, .int 0, .ref q_7, .int 0, .ref q_9, .int 0, .null, .null, .int 0, .int 0, .null, .int 0, .null, .null])), (q_1, .inl (cA_2, 32, .inl (fun _ => 0))), (q_3, .inl (cA_4, 224, .inl (fun _ => 0))), (q_5, .inl (cA_6, 32, .inl (fun _ => 0))), (q_7, .inl (cA_8, 2304, .inl (fun _ => 0))), (q_9, .inl (cA_10, 16384, .inl (fun _ => 0)))] H := hP
  replace hD : va_D A [(h0, .inr (3, [.ref q_1, .ref q_3, .ref q_5, .int 0, .ref q_7, .int 0, .ref q_9, .int 0, .null, .null, .int 0, .int 0, .null, .int 0, .null, .null])), (q_1, .inl (cA_2, 32, .inl (fun _ => 0))), (q_3, .inl (cA_4, 224, .inl (fun _ => 0))), (q_5, .inl (cA_6, 32, .inl (fun _ => 0))), (q_7, .inl (cA_8, 2304, .inl (fun _ => 0))), (q_9, .inl (cA_10, 16384, .inl (fun _ => 0)))] := hD
  refine lv_aload_n hx hb d_FontShelf_init_47 rfl (lv_at hl 0 rfl) ?_
  refine lv_bipush (v := 14) hx hb d_FontShelf_init_48 (by decide) ?_
  refine va_newa (atype := .int) (N' := 14) (a0 := (14, .inl (fun _ => 0))) (ty := .int) (n := 14) hx hb (hwd _ wd_1_167) rfl hK hP hD hS hA (fun _ => rfl) (by decide) (by decide) (by decide) (Nat.le_of_ble_eq_true rfl) (Nat.le_of_ble_eq_true rfl) d_FontShelf_init_50 ?_
  clear hP hD hS hK
  intro q_11 cA_12 H hK hP hD hS
  replace hP : va_P (dC, dI) vcl [(h0, .inr (3, [.ref q_1, .ref q_3, .ref q_5, .int 0, .ref q_7, .int 0, .ref q_9, .int 0, .null, .null, .int 0, .int 0, .null, .int 0, .null, .null])), (q_1, .inl (cA_2, 32, .inl (fun _ => 0))), (q_3, .inl (cA_4, 224, .inl (fun _ => 0))), (q_5, .inl (cA_6, 32, .inl (fun _ => 0))), (q_7, .inl (cA_8, 2304, .inl (fun _ => 0))), (q_9, .inl (cA_10, 16384, .inl (fun _ => 0))), (q_11, .inl (cA_12, 14, .inl (fun _ => 0)))] H := hP
  replace hD : va_D A [(h0, .inr (3, [.ref q_1, .ref q_3, .ref q_5, .int 0, .ref q_7, .int 0, .ref q_9, .int 0, .null, .null, .int 0, .int 0, .null, .int 0, .null, .null])), (q_1, .inl (cA_2, 32, .inl (fun _ => 0))), (q_3, .inl (cA_4, 224, .inl (fun _ => 0))), (q_5, .inl (cA_6, 32, .inl (fun _ => 0))), (q_7, .inl (cA_8, 2304, .inl (fun _ => 0))), (q_9, .inl (cA_10, 16384, .inl (fun _ => 0))), (q_11, .inl (cA_12, 14, .inl (fun _ => 0)))] := hD
  replace hK : va_K (dC, dI) vcl [(cA_2, .int), (cA_4, .int), (cA_6, .boolean), (cA_8, .int), (cA_10, .byte), (cA_12, .int)] s := hK
  refine W.widen (k := 6) (n := 18990) (by decide) (by decide) ?_
  refine va_putF (D := (dC, dI)) (ci := 3) (v := .ref q_11) (ty := (.array .int)) (C := R_FontShelf) (T := F_FontShelf) (N := 16) hx hb hwd i_FontShelf t_FontShelf to_FontShelf no_FontShelf hown hK hP hD hS 0 rfl rfl 8 (by decide) (hwd _ wd_2_109) (fun _ h9 => h9) rfl hin rfl (by decide +kernel) rfl rfl (Nat.le_of_ble_eq_true rfl) d_FontShelf_init_52 ?_
  clear hP hD hS
  intro H locs hP hD hS
  replace hP : va_P (dC, dI) vcl [(h0, .inr (3, [.ref q_1, .ref q_3, .ref q_5, .int 0, .ref q_7, .int 0, .ref q_9, .int 0, .ref q_11, .null, .int 0, .int 0, .null, .int 0, .null, .null])), (q_1, .inl (cA_2, 32, .inl (fun _ => 0))), (q_3, .inl (cA_4, 224, .inl (fun _ => 0))), (q_5, .inl (cA_6, 32, .inl (fun _ => 0))), (q_7, .inl (cA_8, 2304, .inl (fun _ => 0))), (q_9, .inl (cA_10, 16384, .inl (fun _ => 0))), (q_11, .inl (cA_12, 14, .inl (fun _ => 0)))] H := hP
  replace hD : va_D A [(h0, .inr (3, [.ref q_1, .ref q_3, .ref q_5, .int 0, .ref q_7, .int 0, .ref q_9, .int 0, .ref q_11, .null, .int 0, .int 0, .null, .int 0, .null, .null])), (q_1, .inl (cA_2, 32, .inl (fun _ => 0))), (q_3, .inl (cA_4, 224, .inl (fun _ => 0))), (q_5, .inl (cA_6, 32, .inl (fun _ => 0))), (q_7, .inl (cA_8, 2304, .inl (fun _ => 0))), (q_9, .inl (cA_10, 16384, .inl (fun _ => 0))), (q_11, .inl (cA_12, 14, .inl (fun _ => 0)))] := hD
  refine lv_aload_n hx hb d_FontShelf_init_55 rfl (lv_at hl 0 rfl) ?_
  refine lv_iconst (v := 2) hx hb d_FontShelf_init_56 (by decide) ?_
  refine va_newa (atype := .int) (N' := 2) (a0 := (2, .inl (fun _ => 0))) (ty := .int) (n := 2) hx hb (hwd _ wd_1_167) rfl hK hP hD hS hA (fun _ => rfl) (by decide) (by decide) (by decide) (Nat.le_of_ble_eq_true rfl) (Nat.le_of_ble_eq_true rfl) d_FontShelf_init_57 ?_
  clear hP hD hS hK
  intro q_13 cA_14 H hK hP hD hS
  replace hP : va_P (dC, dI) vcl [(h0, .inr (3, [.ref q_1, .ref q_3, .ref q_5, .int 0, .ref q_7, .int 0, .ref q_9, .int 0, .ref q_11, .null, .int 0, .int 0, .null, .int 0, .null, .null])), (q_1, .inl (cA_2, 32, .inl (fun _ => 0))), (q_3, .inl (cA_4, 224, .inl (fun _ => 0))), (q_5, .inl (cA_6, 32, .inl (fun _ => 0))), (q_7, .inl (cA_8, 2304, .inl (fun _ => 0))), (q_9, .inl (cA_10, 16384, .inl (fun _ => 0))), (q_11, .inl (cA_12, 14, .inl (fun _ => 0))), (q_13, .inl (cA_14, 2, .inl (fun _ => 0)))] H := hP
  replace hD : va_D A [(h0, .inr (3, [.ref q_1, .ref q_3, .ref q_5, .int 0, .ref q_7, .int 0, .ref q_9, .int 0, .ref q_11, .null, .int 0, .int 0, .null, .int 0, .null, .null])), (q_1, .inl (cA_2, 32, .inl (fun _ => 0))), (q_3, .inl (cA_4, 224, .inl (fun _ => 0))), (q_5, .inl (cA_6, 32, .inl (fun _ => 0))), (q_7, .inl (cA_8, 2304, .inl (fun _ => 0))), (q_9, .inl (cA_10, 16384, .inl (fun _ => 0))), (q_11, .inl (cA_12, 14, .inl (fun _ => 0))), (q_13, .inl (cA_14, 2, .inl (fun _ => 0)))] := hD
  replace hK : va_K (dC, dI) vcl [(cA_2, .int), (cA_4, .int), (cA_6, .boolean), (cA_8, .int), (cA_10, .byte), (cA_12, .int), (cA_14, .int)] s := hK
  refine W.widen (k := 7) (n := 18992) (by decide) (by decide) ?_
  refine va_putF (D := (dC, dI)) (ci := 3) (v := .ref q_13) (ty := (.array .int)) (C := R_FontShelf) (T := F_FontShelf) (N := 16) hx hb hwd i_FontShelf t_FontShelf to_FontShelf no_FontShelf hown hK hP hD hS 0 rfl rfl 9 (by decide) (hwd _ wd_2_110) (fun _ h9 => h9) rfl hin rfl (by decide +kernel) rfl rfl (Nat.le_of_ble_eq_true rfl) d_FontShelf_init_59 ?_
  clear hP hD hS
  intro H locs hP hD hS
  replace hP : va_P (dC, dI) vcl [(h0, .inr (3, [.ref q_1, .ref q_3, .ref q_5, .int 0, .ref q_7, .int 0, .ref q_9, .int 0, .ref q_11, .ref q_13, .int 0, .int 0, .null, .int 0, .null, .null])), (q_1, .inl (cA_2, 32, .inl (fun _ => 0))), (q_3, .inl (cA_4, 224, .inl (fun _ => 0))), (q_5, .inl (cA_6, 32, .inl (fun _ => 0))), (q_7, .inl (cA_8, 2304, .inl (fun _ => 0))), (q_9, .inl (cA_10, 16384, .inl (fun _ => 0))), (q_11, .inl (cA_12, 14, .inl (fun _ => 0))), (q_13, .inl (cA_14, 2, .inl (fun _ => 0)))] H := hP
  replace hD : va_D A [(h0, .inr (3, [.ref q_1, .ref q_3, .ref q_5, .int 0, .ref q_7, .int 0, .ref q_9, .int 0, .ref q_11, .ref q_13, .int 0, .int 0, .null, .int 0, .null, .null])), (q_1, .inl (cA_2, 32, .inl (fun _ => 0))), (q_3, .inl (cA_4, 224, .inl (fun _ => 0))), (q_5, .inl (cA_6, 32, .inl (fun _ => 0))), (q_7, .inl (cA_8, 2304, .inl (fun _ => 0))), (q_9, .inl (cA_10, 16384, .inl (fun _ => 0))), (q_11, .inl (cA_12, 14, .inl (fun _ => 0))), (q_13, .inl (cA_14, 2, .inl (fun _ => 0)))] := hD
  refine lv_aload_n hx hb d_FontShelf_init_62 rfl (lv_at hl 0 rfl) ?_
  refine lv_iconst (v := 2) hx hb d_FontShelf_init_63 (by decide) ?_
  refine va_newa (atype := .int) (N' := 2) (a0 := (2, .inl (fun _ => 0))) (ty := .int) (n := 2) hx hb (hwd _ wd_1_167) rfl hK hP hD hS hA (fun _ => rfl) (by decide) (by decide) (by decide) (Nat.le_of_ble_eq_true rfl) (Nat.le_of_ble_eq_true rfl) d_FontShelf_init_64 ?_
  clear hP hD hS hK
  intro q_15 cA_16 H hK hP hD hS
  replace hP : va_P (dC, dI) vcl [(h0, .inr (3, [.ref q_1, .ref q_3, .ref q_5, .int 0, .ref q_7, .int 0, .ref q_9, .int 0, .ref q_11, .ref q_13, .int 0, .int 0, .null, .int 0, .null, .null])), (q_1, .inl (cA_2, 32, .inl (fun _ => 0))), (q_3, .inl (cA_4, 224, .inl (fun _ => 0))), (q_5, .inl (cA_6, 32, .inl (fun _ => 0))), (q_7, .inl (cA_8, 2304, .inl (fun _ => 0))), (q_9, .inl (cA_10, 16384, .inl (fun _ => 0))), (q_11, .inl (cA_12, 14, .inl (fun _ => 0))), (q_13, .inl (cA_14, 2, .inl (fun _ => 0))), (q_15, .inl (cA_16, 2, .inl (fun _ => 0)))] H := hP
  replace hD : va_D A [(h0, .inr (3, [.ref q_1, .ref q_3, .ref q_5, .int 0, .ref q_7, .int 0, .ref q_9, .int 0, .ref q_11, .ref q_13, .int 0, .int 0, .null, .int 0, .null, .null])), (q_1, .inl (cA_2, 32, .inl (fun _ => 0))), (q_3, .inl (cA_4, 224, .inl (fun _ => 0))), (q_5, .inl (cA_6, 32, .inl (fun _ => 0))), (q_7, .inl (cA_8, 2304, .inl (fun _ => 0))), (q_9, .inl (cA_10, 16384, .inl (fun _ => 0))), (q_11, .inl (cA_12, 14, .inl (fun _ => 0))), (q_13, .inl (cA_14, 2, .inl (fun _ => 0))), (q_15, .inl (cA_16, 2, .inl (fun _ => 0)))] := hD
  replace hK : va_K (dC, dI) vcl [(cA_2, .int), (cA_4, .int), (cA_6, .boolean), (cA_8, .int), (cA_10, .byte), (cA_12, .int), (cA_14, .int), (cA_16, .int)] s := hK
  refine W.widen (k := 8) (n := 18994) (by decide) (by decide) ?_
  refine va_putF (D := (dC, dI)) (ci := 3) (v := .ref q_15) (ty := (.array .int)) (C := R_FontShelf) (T := F_FontShelf) (N := 16) hx hb hwd i_FontShelf t_FontShelf to_FontShelf no_FontShelf hown hK hP hD hS 0 rfl rfl 12 (by decide) (hwd _ wd_2_113) (fun _ h9 => h9) rfl hin rfl (by decide +kernel) rfl rfl (Nat.le_of_ble_eq_true rfl) d_FontShelf_init_66 ?_
  clear hP hD hS
  intro H locs hP hD hS
  replace hP : va_P (dC, dI) vcl [(h0, .inr (3, [.ref q_1, .ref q_3, .ref q_5, .int 0, .ref q_7, .int 0, .ref q_9, .int 0, .ref q_11, .ref q_13, .int 0, .int 0, .ref q_15, .int 0, .null, .null])), (q_1, .inl (cA_2, 32, .inl (fun _ => 0))), (q_3, .inl (cA_4, 224, .inl (fun _ => 0))), (q_5, .inl (cA_6, 32, .inl (fun _ => 0))), (q_7, .inl (cA_8, 2304, .inl (fun _ => 0))), (q_9, .inl (cA_10, 16384, .inl (fun _ => 0))), (q_11, .inl (cA_12, 14, .inl (fun _ => 0))), (q_13, .inl (cA_14, 2, .inl (fun _ => 0))), (q_15, .inl (cA_16, 2, .inl (fun _ => 0)))] H := hP
  replace hD : va_D A [(h0, .inr (3, [.ref q_1, .ref q_3, .ref q_5, .int 0, .ref q_7, .int 0, .ref q_9, .int 0, .ref q_11, .ref q_13, .int 0, .int 0, .ref q_15, .int 0, .null, .null])), (q_1, .inl (cA_2, 32, .inl (fun _ => 0))), (q_3, .inl (cA_4, 224, .inl (fun _ => 0))), (q_5, .inl (cA_6, 32, .inl (fun _ => 0))), (q_7, .inl (cA_8, 2304, .inl (fun _ => 0))), (q_9, .inl (cA_10, 16384, .inl (fun _ => 0))), (q_11, .inl (cA_12, 14, .inl (fun _ => 0))), (q_13, .inl (cA_14, 2, .inl (fun _ => 0))), (q_15, .inl (cA_16, 2, .inl (fun _ => 0)))] := hD
  refine lv_aload_n hx hb d_FontShelf_init_69 rfl (lv_at hl 0 rfl) ?_
  refine lv_bipush (v := 32) hx hb d_FontShelf_init_70 (by decide) ?_
  refine va_newa (atype := .boolean) (N' := 32) (a0 := (32, .inl (fun _ => 0))) (ty := .boolean) (n := 32) hx hb (hwd _ wd_2_150) rfl hK hP hD hS hA (fun _ => rfl) (by decide) (by decide) (by decide) (Nat.le_of_ble_eq_true rfl) (Nat.le_of_ble_eq_true rfl) d_FontShelf_init_72 ?_
  clear hP hD hS hK
  intro q_17 cA_18 H hK hP hD hS
  replace hP : va_P (dC, dI) vcl [(h0, .inr (3, [.ref q_1, .ref q_3, .ref q_5, .int 0, .ref q_7, .int 0, .ref q_9, .int 0, .ref q_11, .ref q_13, .int 0, .int 0, .ref q_15, .int 0, .null, .null])), (q_1, .inl (cA_2, 32, .inl (fun _ => 0))), (q_3, .inl (cA_4, 224, .inl (fun _ => 0))), (q_5, .inl (cA_6, 32, .inl (fun _ => 0))), (q_7, .inl (cA_8, 2304, .inl (fun _ => 0))), (q_9, .inl (cA_10, 16384, .inl (fun _ => 0))), (q_11, .inl (cA_12, 14, .inl (fun _ => 0))), (q_13, .inl (cA_14, 2, .inl (fun _ => 0))), (q_15, .inl (cA_16, 2, .inl (fun _ => 0))), (q_17, .inl (cA_18, 32, .inl (fun _ => 0)))] H := hP
  replace hD : va_D A [(h0, .inr (3, [.ref q_1, .ref q_3, .ref q_5, .int 0, .ref q_7, .int 0, .ref q_9, .int 0, .ref q_11, .ref q_13, .int 0, .int 0, .ref q_15, .int 0, .null, .null])), (q_1, .inl (cA_2, 32, .inl (fun _ => 0))), (q_3, .inl (cA_4, 224, .inl (fun _ => 0))), (q_5, .inl (cA_6, 32, .inl (fun _ => 0))), (q_7, .inl (cA_8, 2304, .inl (fun _ => 0))), (q_9, .inl (cA_10, 16384, .inl (fun _ => 0))), (q_11, .inl (cA_12, 14, .inl (fun _ => 0))), (q_13, .inl (cA_14, 2, .inl (fun _ => 0))), (q_15, .inl (cA_16, 2, .inl (fun _ => 0))), (q_17, .inl (cA_18, 32, .inl (fun _ => 0)))] := hD
  replace hK : va_K (dC, dI) vcl [(cA_2, .int), (cA_4, .int), (cA_6, .boolean), (cA_8, .int), (cA_10, .byte), (cA_12, .int), (cA_14, .int), (cA_16, .int), (cA_18, .boolean)] s := hK
  refine W.widen (k := 9) (n := 19026) (by decide) (by decide) ?_
  refine va_putF (D := (dC, dI)) (ci := 3) (v := .ref q_17) (ty := (.array .boolean)) (C := R_FontShelf) (T := F_FontShelf) (N := 16) hx hb hwd i_FontShelf t_FontShelf to_FontShelf no_FontShelf hown hK hP hD hS 0 rfl rfl 14 (by decide) (hwd _ wd_2_115) (fun _ h9 => h9) rfl hin rfl (by decide +kernel) rfl rfl (Nat.le_of_ble_eq_true rfl) d_FontShelf_init_74 ?_
  clear hP hD hS
  intro H locs hP hD hS
  replace hP : va_P (dC, dI) vcl [(h0, .inr (3, [.ref q_1, .ref q_3, .ref q_5, .int 0, .ref q_7, .int 0, .ref q_9, .int 0, .ref q_11, .ref q_13, .int 0, .int 0, .ref q_15, .int 0, .ref q_17, .null])), (q_1, .inl (cA_2, 32, .inl (fun _ => 0))), (q_3, .inl (cA_4, 224, .inl (fun _ => 0))), (q_5, .inl (cA_6, 32, .inl (fun _ => 0))), (q_7, .inl (cA_8, 2304, .inl (fun _ => 0))), (q_9, .inl (cA_10, 16384, .inl (fun _ => 0))), (q_11, .inl (cA_12, 14, .inl (fun _ => 0))), (q_13, .inl (cA_14, 2, .inl (fun _ => 0))), (q_15, .inl (cA_16, 2, .inl (fun _ => 0))), (q_17, .inl (cA_18, 32, .inl (fun _ => 0)))] H := hP
  replace hD : va_D A [(h0, .inr (3, [.ref q_1, .ref q_3, .ref q_5, .int 0, .ref q_7, .int 0, .ref q_9, .int 0, .ref q_11, .ref q_13, .int 0, .int 0, .ref q_15, .int 0, .ref q_17, .null])), (q_1, .inl (cA_2, 32, .inl (fun _ => 0))), (q_3, .inl (cA_4, 224, .inl (fun _ => 0))), (q_5, .inl (cA_6, 32, .inl (fun _ => 0))), (q_7, .inl (cA_8, 2304, .inl (fun _ => 0))), (q_9, .inl (cA_10, 16384, .inl (fun _ => 0))), (q_11, .inl (cA_12, 14, .inl (fun _ => 0))), (q_13, .inl (cA_14, 2, .inl (fun _ => 0))), (q_15, .inl (cA_16, 2, .inl (fun _ => 0))), (q_17, .inl (cA_18, 32, .inl (fun _ => 0)))] := hD
  refine lv_aload_n hx hb d_FontShelf_init_77 rfl (lv_at hl 0 rfl) ?_
  refine lv_bipush (v := 7) hx hb d_FontShelf_init_78 (by decide) ?_
  refine va_newa (atype := .int) (N' := 7) (a0 := (7, .inl (fun _ => 0))) (ty := .int) (n := 7) hx hb (hwd _ wd_1_167) rfl hK hP hD hS hA (fun _ => rfl) (by decide) (by decide) (by decide) (Nat.le_of_ble_eq_true rfl) (Nat.le_of_ble_eq_true rfl) d_FontShelf_init_80 ?_
  clear hP hD hS hK
  intro q_19 cA_20 H hK hP hD hS
  replace hP : va_P (dC, dI) vcl [(h0, .inr (3, [.ref q_1, .ref q_3, .ref q_5, .int 0, .ref q_7, .int 0, .ref q_9, .int 0, .ref q_11, .ref q_13, .int 0, .int 0, .ref q_15, .int 0, .ref q_17, .null])), (q_1, .inl (cA_2, 32, .inl (fun _ => 0))), (q_3, .inl (cA_4, 224, .inl (fun _ => 0))), (q_5, .inl (cA_6, 32, .inl (fun _ => 0))), (q_7, .inl (cA_8, 2304, .inl (fun _ => 0))), (q_9, .inl (cA_10, 16384, .inl (fun _ => 0))), (q_11, .inl (cA_12, 14, .inl (fun _ => 0))), (q_13, .inl (cA_14, 2, .inl (fun _ => 0))), (q_15, .inl (cA_16, 2, .inl (fun _ => 0))), (q_17, .inl (cA_18, 32, .inl (fun _ => 0))), (q_19, .inl (cA_20, 7, .inl (fun _ => 0)))] H := hP
  replace hD : va_D A [(h0, .inr (3, [.ref q_1, .ref q_3, .ref q_5, .int 0, .ref q_7, .int 0, .ref q_9, .int 0, .ref q_11, .ref q_13, .int 0, .int 0, .ref q_15, .int 0, .ref q_17, .null])), (q_1, .inl (cA_2, 32, .inl (fun _ => 0))), (q_3, .inl (cA_4, 224, .inl (fun _ => 0))), (q_5, .inl (cA_6, 32, .inl (fun _ => 0))), (q_7, .inl (cA_8, 2304, .inl (fun _ => 0))), (q_9, .inl (cA_10, 16384, .inl (fun _ => 0))), (q_11, .inl (cA_12, 14, .inl (fun _ => 0))), (q_13, .inl (cA_14, 2, .inl (fun _ => 0))), (q_15, .inl (cA_16, 2, .inl (fun _ => 0))), (q_17, .inl (cA_18, 32, .inl (fun _ => 0))), (q_19, .inl (cA_20, 7, .inl (fun _ => 0)))] := hD
  replace hK : va_K (dC, dI) vcl [(cA_2, .int), (cA_4, .int), (cA_6, .boolean), (cA_8, .int), (cA_10, .byte), (cA_12, .int), (cA_14, .int), (cA_16, .int), (cA_18, .boolean), (cA_20, .int)] s := hK
  refine W.widen (k := 10) (n := 19033) (by decide) (by decide) ?_
  refine va_putF (D := (dC, dI)) (ci := 3) (v := .ref q_19) (ty := (.array .int)) (C := R_FontShelf) (T := F_FontShelf) (N := 16) hx hb hwd i_FontShelf t_FontShelf to_FontShelf no_FontShelf hown hK hP hD hS 0 rfl rfl 15 (by decide) (hwd _ wd_2_116) (fun _ h9 => h9) rfl hin rfl (by decide +kernel) rfl rfl (Nat.le_of_ble_eq_true rfl) d_FontShelf_init_82 ?_
  clear hP hD hS
  intro H locs hP hD hS
  replace hP : va_P (dC, dI) vcl [(h0, .inr (3, [.ref q_1, .ref q_3, .ref q_5, .int 0, .ref q_7, .int 0, .ref q_9, .int 0, .ref q_11, .ref q_13, .int 0, .int 0, .ref q_15, .int 0, .ref q_17, .ref q_19])), (q_1, .inl (cA_2, 32, .inl (fun _ => 0))), (q_3, .inl (cA_4, 224, .inl (fun _ => 0))), (q_5, .inl (cA_6, 32, .inl (fun _ => 0))), (q_7, .inl (cA_8, 2304, .inl (fun _ => 0))), (q_9, .inl (cA_10, 16384, .inl (fun _ => 0))), (q_11, .inl (cA_12, 14, .inl (fun _ => 0))), (q_13, .inl (cA_14, 2, .inl (fun _ => 0))), (q_15, .inl (cA_16, 2, .inl (fun _ => 0))), (q_17, .inl (cA_18, 32, .inl (fun _ => 0))), (q_19, .inl (cA_20, 7, .inl (fun _ => 0)))] H := hP
  replace hD : va_D A [(h0, .inr (3, [.ref q_1, .ref q_3, .ref q_5, .int 0, .ref q_7, .int 0, .ref q_9, .int 0, .ref q_11, .ref q_13, .int 0, .int 0, .ref q_15, .int 0, .ref q_17, .ref q_19])), (q_1, .inl (cA_2, 32, .inl (fun _ => 0))), (q_3, .inl (cA_4, 224, .inl (fun _ => 0))), (q_5, .inl (cA_6, 32, .inl (fun _ => 0))), (q_7, .inl (cA_8, 2304, .inl (fun _ => 0))), (q_9, .inl (cA_10, 16384, .inl (fun _ => 0))), (q_11, .inl (cA_12, 14, .inl (fun _ => 0))), (q_13, .inl (cA_14, 2, .inl (fun _ => 0))), (q_15, .inl (cA_16, 2, .inl (fun _ => 0))), (q_17, .inl (cA_18, 32, .inl (fun _ => 0))), (q_19, .inl (cA_20, 7, .inl (fun _ => 0)))] := hD
  refine lv_aload_n hx hb d_FontShelf_init_85 rfl (lv_at hl 0 rfl) ?_
  have hPc := hP.sub (ws' := [(h0, .inr (3, [.ref q_1, .ref q_3, .ref q_5, .int 0, .ref q_7, .int 0, .ref q_9, .int 0, .ref q_11, .ref q_13, .int 0, .int 0, .ref q_15, .int 0, .ref q_17, .ref q_19])), (q_13, .inl (cA_14, 2, .inl (fun _ => 0))), (q_17, .inl (cA_18, 32, .inl (fun _ => 0))), (q_11, .inl (cA_12, 14, .inl (fun _ => 0))), (q_15, .inl (cA_16, 2, .inl (fun _ => 0)))]) [0, 7, 9, 6, 8] rfl
  have hDc := hD.sub (ws' := [(h0, .inr (3, [.ref q_1, .ref q_3, .ref q_5, .int 0, .ref q_7, .int 0, .ref q_9, .int 0, .ref q_11, .ref q_13, .int 0, .int 0, .ref q_15, .int 0, .ref q_17, .ref q_19])), (q_13, .inl (cA_14, 2, .inl (fun _ => 0))), (q_17, .inl (cA_18, 32, .inl (fun _ => 0))), (q_11, .inl (cA_12, 14, .inl (fun _ => 0))), (q_15, .inl (cA_16, 2, .inl (fun _ => 0)))]) [0, 7, 9, 6, 8] (by decide) rfl
  have hKc := hK.sub (tys' := [(cA_14, .int), (cA_18, .boolean), (cA_12, .int), (cA_16, .int)]) [6, 8, 5, 7] rfl
  have hFc := va_free (wc := [(h0, .inr (3, [.ref q_1, .ref q_3, .ref q_5, .int 0, .ref q_7, .int 0, .ref q_9, .int 0, .ref q_11, .ref q_13, .int 0, .int 0, .ref q_15, .int 0, .ref q_17, .ref q_19])), (q_13, .inl (cA_14, 2, .inl (fun _ => 0))), (q_17, .inl (cA_18, 32, .inl (fun _ => 0))), (q_11, .inl (cA_12, 14, .inl (fun _ => 0))), (q_15, .inl (cA_16, 2, .inl (fun _ => 0)))]) hD hS hA [0, 7, 9, 6, 8] rfl
  refine va_callv (va_runV (As := []) (rest := []) ⟨hx, hb, hml, hown, hwd⟩ (c_Shelf_endJob_S l dC dI tt h0 q_1 q_3 q_5 q_7 0 q_9 0 q_11 q_13 0 0 q_15 0 q_17 q_19 cA_14 (fun _ => 0) cA_18 (fun _ => 0) cA_12 (fun _ => 0) cA_16 (fun _ => 0) H.size ) (cwV 0 hwd (gV gd_FontShelf_endJob wd_2_12 wd_2_13 wd_2_14 wd_1_5) rfl rfl rfl (by decide +kernel) ⟨Nat.le_of_ble_eq_true rfl, Nat.le_of_ble_eq_true rfl⟩) ⟨fun a U g mk q => by obtain ⟨q0, q1, qP, qK, qD, qF⟩ := q; exact ⟨q0, q1, qP, va_K.moved (u := U) (U := U.calling g mk a) (Vm.Alike.refl U.vm) qK, qD, SF.same (u := U) (U := U.calling g mk a) rfl qF⟩, va_recv hKc hPc (ci := 3) (q0 := 0) rfl rfl, fun U hU hW => ⟨rfl, by rw [hU], by rw [hU]; exact hPc, va_K.moved hW.alike hKc, hDc.weaken (fun _ _ _ _ => trivial), by rw [hU]; exact SF.narrow (SF.moved hW (SF.kept hF (fun a h1 h2 => hS.2.1 a h1 h2))) hFc⟩⟩ rfl rfl hl.1 rfl (lv_room (Nat.le_of_ble_eq_true rfl)) d_FontShelf_init_86 ⟨Nat.le_of_ble_eq_true rfl, Nat.le_of_ble_eq_true rfl⟩) hS (fun q _ h => hFc q h) hFc ?_
  clear hPc hDc hKc hS
  intro u_22 t H1 locs ht hvm hw hB hz1 hk1 hS
  obtain ⟨fc0_23, rfl⟩ : ∃ z, z = u_22 := ⟨_, rfl⟩
  obtain ⟨hP1, hK1, hD1⟩ := hB
  rw [ht] at hP1
  have hK1 := va_K.moved hvm.symm hK1
  try dsimp only at hw
  have hJ := va_join (wr := [(q_1, .inl (cA_2, 32, .inl (fun _ => 0))), (q_3, .inl (cA_4, 224, .inl (fun _ => 0))), (q_5, .inl (cA_6, 32, .inl (fun _ => 0))), (q_7, .inl (cA_8, 2304, .inl (fun _ => 0))), (q_9, .inl (cA_10, 16384, .inl (fun _ => 0))), (q_19, .inl (cA_20, 7, .inl (fun _ => 0)))]) (w1 := [(q_15, .inl (cA_16, 2, .inl (upd (upd (fun _ => 0) 0 (-1)) 1 (-1)))), (h0, .inr (3, [.ref q_1, .ref q_3, .ref q_5, .int 0, .ref q_7, .int 0, .ref q_9, .int 0, .ref q_11, .ref q_13, .int 0, .int 0, .ref q_15, .int 1, .ref q_17, .ref q_19])), (q_13, .inl (cA_14, 2, .inl (upd (upd (fun _ => 0) 0 ((-1) : Int32)) 1 ((-1) : Int32)))), (q_17, .inl (cA_18, 32, .inl fc0_23)), (q_11, .inl (cA_12, 14, .inl (upd (upd (upd (upd (upd (upd (upd (upd (upd (upd (upd (upd (upd (upd (fun _ => 0) 0 277) 1 0) 2 1000) 3 1200) 4 0) 5 0) 6 3) 7 277) 8 0) 9 1000) 10 1200) 11 0) 12 0) 13 3)))]) hP hD [0, 7, 9, 6, 8] [1, 2, 3, 4, 5, 10] rfl rfl (by decide) (by decide) hk1 hFc hP1 hD1
  clear hP hD hk1 hFc hP1 hD1 hz1
  obtain ⟨hP, hD⟩ := hJ
  clear hK1 ht hvm
  generalize H1 = H at hP hS ⊢
  replace hP : va_P (dC, dI) vcl [(q_1, .inl (cA_2, 32, .inl (fun _ => 0))), (q_3, .inl (cA_4, 224, .inl (fun _ => 0))), (q_5, .inl (cA_6, 32, .inl (fun _ => 0))), (q_7, .inl (cA_8, 2304, .inl (fun _ => 0))), (q_9, .inl (cA_10, 16384, .inl (fun _ => 0))), (q_19, .inl (cA_20, 7, .inl (fun _ => 0))), (q_15, .inl (cA_16, 2, .inl (upd (upd (fun _ => 0) 0 (-1)) 1 (-1)))), (h0, .inr (3, [.ref q_1, .ref q_3, .ref q_5, .int 0, .ref q_7, .int 0, .ref q_9, .int 0, .ref q_11, .ref q_13, .int 0, .int 0, .ref q_15, .int 1, .ref q_17, .ref q_19])), (q_13, .inl (cA_14, 2, .inl (upd (upd (fun _ => 0) 0 ((-1) : Int32)) 1 ((-1) : Int32)))), (q_17, .inl (cA_18, 32, .inl fc0_23)), (q_11, .inl (cA_12, 14, .inl (upd (upd (upd (upd (upd (upd (upd (upd (upd (upd (upd (upd (upd (upd (fun _ => 0) 0 277) 1 0) 2 1000) 3 1200) 4 0) 5 0) 6 3) 7 277) 8 0) 9 1000) 10 1200) 11 0) 12 0) 13 3)))] H := hP
  replace hD : va_D A [(q_1, .inl (cA_2, 32, .inl (fun _ => 0))), (q_3, .inl (cA_4, 224, .inl (fun _ => 0))), (q_5, .inl (cA_6, 32, .inl (fun _ => 0))), (q_7, .inl (cA_8, 2304, .inl (fun _ => 0))), (q_9, .inl (cA_10, 16384, .inl (fun _ => 0))), (q_19, .inl (cA_20, 7, .inl (fun _ => 0))), (q_15, .inl (cA_16, 2, .inl (upd (upd (fun _ => 0) 0 (-1)) 1 (-1)))), (h0, .inr (3, [.ref q_1, .ref q_3, .ref q_5, .int 0, .ref q_7, .int 0, .ref q_9, .int 0, .ref q_11, .ref q_13, .int 0, .int 0, .ref q_15, .int 1, .ref q_17, .ref q_19])), (q_13, .inl (cA_14, 2, .inl (upd (upd (fun _ => 0) 0 ((-1) : Int32)) 1 ((-1) : Int32)))), (q_17, .inl (cA_18, 32, .inl fc0_23)), (q_11, .inl (cA_12, 14, .inl (upd (upd (upd (upd (upd (upd (upd (upd (upd (upd (upd (upd (upd (upd (fun _ => 0) 0 277) 1 0) 2 1000) 3 1200) 4 0) 5 0) 6 3) 7 277) 8 0) 9 1000) 10 1200) 11 0) 12 0) 13 3)))] := hD
  have hP9 := hP.sub (ws' := [(h0, .inr (3, [.ref q_1, .ref q_3, .ref q_5, .int 0, .ref q_7, .int 0, .ref q_9, .int 0, .ref q_11, .ref q_13, .int 0, .int 0, .ref q_15, .int 1, .ref q_17, .ref q_19])), (q_1, .inl (cA_2, 32, .inl (fun _ => 0))), (q_3, .inl (cA_4, 224, .inl (fun _ => 0))), (q_5, .inl (cA_6, 32, .inl (fun _ => 0))), (q_7, .inl (cA_8, 2304, .inl (fun _ => 0))), (q_9, .inl (cA_10, 16384, .inl (fun _ => 0))), (q_19, .inl (cA_20, 7, .inl (fun _ => 0))), (q_15, .inl (cA_16, 2, .inl (upd (upd (fun _ => 0) 0 (-1)) 1 (-1)))), (q_13, .inl (cA_14, 2, .inl (upd (upd (fun _ => 0) 0 ((-1) : Int32)) 1 ((-1) : Int32)))), (q_17, .inl (cA_18, 32, .inl fc0_23)), (q_11, .inl (cA_12, 14, .inl (upd (upd (upd (upd (upd (upd (upd (upd (upd (upd (upd (upd (upd (upd (fun _ => 0) 0 277) 1 0) 2 1000) 3 1200) 4 0) 5 0) 6 3) 7 277) 8 0) 9 1000) 10 1200) 11 0) 12 0) 13 3)))]) [7, 0, 1, 2, 3, 4, 5, 6, 8, 9, 10] rfl
  have hD9 := hD.sub (ws' := [(h0, .inr (3, [.ref q_1, .ref q_3, .ref q_5, .int 0, .ref q_7, .int 0, .ref q_9, .int 0, .ref q_11, .ref q_13, .int 0, .int 0, .ref q_15, .int 1, .ref q_17, .ref q_19])), (q_1, .inl (cA_2, 32, .inl (fun _ => 0))), (q_3, .inl (cA_4, 224, .inl (fun _ => 0))), (q_5, .inl (cA_6, 32, .inl (fun _ => 0))), (q_7, .inl (cA_8, 2304, .inl (fun _ => 0))), (q_9, .inl (cA_10, 16384, .inl (fun _ => 0))), (q_19, .inl (cA_20, 7, .inl (fun _ => 0))), (q_15, .inl (cA_16, 2, .inl (upd (upd (fun _ => 0) 0 (-1)) 1 (-1)))), (q_13, .inl (cA_14, 2, .inl (upd (upd (fun _ => 0) 0 ((-1) : Int32)) 1 ((-1) : Int32)))), (q_17, .inl (cA_18, 32, .inl fc0_23)), (q_11, .inl (cA_12, 14, .inl (upd (upd (upd (upd (upd (upd (upd (upd (upd (upd (upd (upd (upd (upd (fun _ => 0) 0 277) 1 0) 2 1000) 3 1200) 4 0) 5 0) 6 3) 7 277) 8 0) 9 1000) 10 1200) 11 0) 12 0) 13 3)))]) [7, 0, 1, 2, 3, 4, 5, 6, 8, 9, 10] (by decide) rfl
  have hK9 := hK.sub (tys' := [(cA_2, .int), (cA_4, .int), (cA_6, .boolean), (cA_8, .int), (cA_10, .byte), (cA_20, .int), (cA_16, .int), (cA_14, .int), (cA_18, .boolean), (cA_12, .int)]) [0, 1, 2, 3, 4, 9, 7, 6, 8, 5] rfl
  exact W.vret hx hb hr (fun t ht hW => ⟨⟨(fc0_23), rfl, (trivial), q_1, q_3, q_5, q_7, q_9, q_19, q_15, q_13, q_17, q_11, cA_2, cA_4, cA_6, cA_8, cA_10, cA_20, cA_16, cA_14, cA_18, cA_12, by rw [ht]; exact hP9, va_K.moved hW.alike hK9, hD9⟩, hS.F ht⟩) hS.2.2 d_FontShelf_init_89
