section MX8
variable {e : Env} {s : State} {f : JFrame} {a : Addr}
/-- the first row covers, but its class is another; the second row's is the thing's -/
theorem XFinds.link2 {meth : Method} {code : Code} (hm : s.vm.method? f.method = some meth) (hc : meth.code = some code) {x y : ExceptionTableEntry} {rest : List ExceptionTableEntry} (hsplit : code.exceptionTable.toList = x :: y :: rest)
    (hx : covers x f.pc = true) (h0 : x.catchType ≠ 0) (hy : covers y f.pc = true) (k0 : y.catchType ≠ 0) {cX cY : ClassId} {cell : Cell} (hl : s.vm.ClassLinks e.platform f.method.cls x.catchType cX) (hl2 : (s.vm.noted f.method.cls x.catchType (.cls cX)).ClassLinks e.platform f.method.cls y.catchType cY) (hcell : s.heap[a]? = some cell) (hobj : cell.vm = .none)
    (hk : ∃ k, s.vm.classes[cell.cls]? = some k) (hcl : ∃ k, s.vm.classes[cX]? = some k) (hcl2 : ∃ k, s.vm.classes[cY]? = some k) (hno : s.vm.assignable cell.cls cX = false) (hfit : s.vm.assignable cell.cls cY = true) : XFinds e s f a y.handlerPc ((s.vm.noted f.method.cls x.catchType (.cls cX)).noted f.method.cls y.catchType (.cls cY)) := by
  intro Q E d acts
  rw [W.findHandler_eq hm hc, hsplit]
  obtain ⟨ha, ht⟩ := (resolveClass_links e.toSetting hl).op (op := VmOp.resolveClass f.method.cls x.catchType) rfl
  obtain ⟨ha2, ht2⟩ := (resolveClass_links e.toSetting hl2).op (op := VmOp.resolveClass f.method.cls y.catchType) rfl
  have hal : s.vm.Alike (s.vm.noted f.method.cls x.catchType (.cls cX)) := (Vm.Alike.refl s.vm).noted _ _ _
  have hal2 : s.vm.Alike ((s.vm.noted f.method.cls x.catchType (.cls cX)).noted f.method.cls y.catchType (.cls cY)) := hal.noted _ _ _
  obtain ⟨k1, hk1⟩ := hk
  obtain ⟨k2, hk2⟩ := hcl
  obtain ⟨k3, hk3⟩ := hcl2
  obtain ⟨k1', hk1', -⟩ := hal.2.2 _ _ hk1
  obtain ⟨k2', hk2', -⟩ := hal.2.2 _ _ hk2
  obtain ⟨k1'', hk1'', -⟩ := hal2.2.2 _ _ hk1
  obtain ⟨k3'', hk3'', -⟩ := hal2.2.2 _ _ hk3
  have hno' : (s.vm.noted f.method.cls x.catchType (.cls cX)).assignable cell.cls cX = false := by rw [hal.assignable]; exact hno
  have hfit' : ((s.vm.noted f.method.cls x.catchType (.cls cX)).noted f.method.cls y.catchType (.cls cY)).assignable cell.cls cY = true := by rw [hal2.assignable]; exact hfit
  simp only [covers] at hx hy
  simp [findHandler.go, hx, hy, h0, k0, ha, ht, ha2, ht2, hcell, hobj, hk1', hk2', hk1'', hk3'', hno', hfit', VmOp.dirties, VmOp.acts]
  exact Iff.rfl
end MX8
section MX9
variable {p : Program} {l : Launch} {e : Env} {R : Room} {s : State} {m : MethodId} {args : Array Value} {below : List Frame} {meth : Method} {c : Code} {T : State} {H : Heap} {locs : List Loc} {cells slots : Nat} {Q : State → Prop}
theorem x_catch2 (X : Stand p l e R s m args below meth c T locs cells slots) (a : Addr) {g : JFrame} (hg : g.method = m) {own name name1 : String} (hown : s.vm.findClass own = some m.cls) {x y : ExceptionTableEntry} {rest : List ExceptionTableEntry} (hsplit : c.exceptionTable.toList = x :: y :: rest)
    (hx : covers x g.pc = true) (h0 : x.catchType ≠ 0) (hlink1 : (Cond.classLink own x.catchType name1).before args s = true) (hy : covers y g.pc = true) (k0 : y.catchType ≠ 0) (hlink : (Cond.classLink own y.catchType name).before args s = true) {cell : Cell} (hcell : T.heap[a]? = some cell) (hobj : cell.vm = .none) (hcls : s.vm.findClass name = some cell.cls) (hself : s.vm.assignable cell.cls cell.cls = true) (hno : ∀ cX, s.vm.findClass name1 = some cX → s.vm.assignable cell.cls cX = false) :
    ∃ vm', Stand p l e R s m args below meth c (T.setVm vm') locs cells slots ∧ ∀ target, Steps p.tables e below ((T.setVm vm').setTop { g with pc := y.handlerPc, stack := [.ref a] }) target → Steps p.tables e below ((T.setTop g).pushFrame (.throwing a)) target := by
  have hpl : e.platform.magicAccessors = ({} : Platform).magicAccessors := by rw [X.admits.platform]
  obtain ⟨cX, hcX, hcl⟩ := Cond.classLink_spec hown hlink1 e.platform hpl
  obtain ⟨cY, hcY, hclY⟩ := Cond.classLink_spec hown hlink e.platform hpl
  cases hcls.symm.trans hcY
  obtain ⟨dk, _, _, kt, hd, _, _, _, _, hkt, _, hopen⟩ := id hcl.here
  obtain ⟨dk2, _, _, kt2, hd2, _, _, _, _, hkt2, _, hopen2⟩ := id hclY.here
  have hW : s.WarmedH (T.vm.noted m.cls x.catchType (.cls cX)) := X.warmed.noted hd hopen (State.rightAt_cls hcl)
  have hW2 : s.WarmedH ((T.vm.noted m.cls x.catchType (.cls cX)).noted m.cls y.catchType (.cls cell.cls)) := hW.noted hd2 hopen2 (State.rightAt_cls hclY)
  obtain ⟨k2, hk2, -⟩ := X.warmed.alike.2.2 _ _ hkt
  obtain ⟨k3, hk3, -⟩ := X.warmed.alike.2.2 _ _ hkt2
  have hfit : T.vm.assignable cell.cls cell.cls = true := by rw [X.warmed.alike.assignable]; exact hself
  have hno' : T.vm.assignable cell.cls cX = false := by rw [X.warmed.alike.assignable]; exact hno cX hcX
  refine ⟨_, X.noted hW2, fun target hrest => ?_⟩
  subst hg
  refine x_caughtTo X.here (vm' := (T.vm.noted g.method.cls x.catchType (.cls cX)).noted g.method.cls y.catchType (.cls cell.cls)) (pc := y.handlerPc) ?_ hrest
  have h1 := Stand.throwing_vm T g a
  have h2 := Stand.throwing_heap T g a
  have := XFinds.link2 (e := e) (s := (T.setTop g).pushFrame (.throwing a)) (f := g) (a := a) (meth := meth) (code := c) (by rw [h1]; exact X.method') X.code hsplit hx h0 hy k0 (cX := cX) (cY := cell.cls) (cell := cell) (by rw [h1]; exact X.warmed.classLinks hcl) (by rw [h1]; exact hW.classLinks hclY) (by rw [h2]; exact hcell) hobj (by rw [h1]; exact ⟨k3, hk3⟩) (by rw [h1]; exact ⟨k2, hk2⟩) (by rw [h1]; exact ⟨k3, hk3⟩) (by rw [h1]; exact hno') (by rw [h1]; exact hfit)
  rw [h1] at this
  exact this
/-- a virtual call of a method that throws, and the caller's second handler that catches it -/
theorem w_callX2 {cc : ByteArray} (hexec : p.tables.exec = Jvm.exec) (hb : c.code = cc) {own C name name1 : String} {index : Nat} {y : MethodName} {bytes : ByteArray} {maxL mc ms n : Nat} {ret : Option FieldType} {ws ws' Ts : List Cond} {rm : Room} {Pc : Array Value → State → Prop} {b : Addr} {As : List Value}
    (hM : MetX l y ws rm Pc (xQ name) mc ms (fun _ => False)) (hw : ws = Cond.code y bytes maxL ret :: ws') (hts : ∀ w ∈ Ts, w.before args s = true) (hG : GoodIn Ts (wsV own index C y ws)) (hrc : rm.cells = mc) (hrs : rm.slots = ms) (hR : rm.frames + 1 ≤ R.frames ∧ 8 + (maxL + 11) + rm.locals ≤ R.locals)
    (hd : y.cls = C ∧ y.cls ≠ "java/lang/invoke/MethodHandle" ∧ y.cls ≠ "java/lang/invoke/VarHandle" ∧ (parseMethodDescriptor y.desc).map (fun d => d.parameters.length) = some n) (hn : As.length = n) (hown : s.vm.findClass own = some m.cls)
    (hp : PreV s H C b Pc As) {pc : Nat} {ls : Array Slot} (hsize : ls.size = c.maxLocals) {rest : List Value} (hW : 2 * (F0 m pc ls rest).monitorRoom + (rest.map fun v => v.category).sum ≤ 8) (hdg : decode cc pc = .ok (.invokevirtual index, 3)) (hf : cells + mc ≤ R.cells ∧ slots + ms ≤ R.slots)
    {x z : ExceptionTableEntry} {tl : List ExceptionTableEntry} (hsplit : c.exceptionTable.toList = x :: z :: tl) (hx : covers x pc = true) (h0 : x.catchType ≠ 0) (hlink1 : (Cond.classLink own x.catchType name1).before args s = true) (hz9 : covers z pc = true) (k0 : z.catchType ≠ 0) (hlink : (Cond.classLink own z.catchType name).before args s = true)
    (hno : ∀ cX cY, s.vm.findClass name1 = some cX → s.vm.findClass name = some cY → s.vm.assignable cY cX = false) {hpc : Nat} (hpcx : z.handlerPc = hpc)
    (kk : ∀ (a : Addr) (H1 : Heap), H.size ≤ H1.size → (∀ q : Nat, q < H.size → H1[q]? = H[q]?) → W p l e R s m args below meth c H1 locs (cells + mc) (slots + ms) Q (F0 m hpc ls [.ref a])) :
    W p l e R s m args below meth c H locs cells slots Q (F0 m pc ls (As.reverse ++ .ref b :: rest)) := by
  obtain ⟨hC, hy1, hy2, hlen⟩ := hd
  subst hC
  have ok : ∀ w ∈ wsV own index y.cls y ws, w.before args s = true := fun w h => hts w (hG w h).1
  have hgw : GoodIn Ts ws := fun w h => hG w (by unfold wsV; exact List.mem_append_right _ h)
  have hcm : Cond.code y bytes maxL ret ∈ ws := by rw [hw]; exact List.mem_cons_self
  have hini := ok (.initialized y.cls) (by simp [wsV])
  obtain ⟨hbl, ⟨cellB, hcB, hoB, hclB⟩, hPc⟩ := hp
  intro T hT X
  obtain ⟨xa, vm1, g', mk, t, T', L, hW1, X', hL, e1, e2, ⟨⟨hz, hk⟩, ce, c1, c2, c3, c4⟩, st⟩ := callXV X hexec hM hbl hrc hrs hR.1 hR.2 (pay_in hts hgw) hcm (fun a' U hU => word_at hU (Or.inl rfl) hini) hown (ok (.methodLink own index y) (by simp [wsV])) (ok (.instanceMethod y) (by simp [wsV])) (ok (.selects y.cls y y) (by simp [wsV])) (hts _ (hgw _ hcm).1) ⟨hy1, hy2⟩
    (by rw [hT]; exact hcB) hoB hclB (g := F0 m pc ls (As.reverse ++ .ref b :: rest)) rfl hsize (argsL := As) (rest := rest) (fun sig hs => by rw [hs] at hlen; exact hn.trans (Option.some.inj hlen).symm) rfl hW (by rw [hb]; exact hdg) hf.1 hf.2 (fun vm1 hW1 => hPc (T.setVm vm1) hT hW1)
  have hL0 : L = [] := List.eq_nil_iff_forall_not_mem.mpr fun q hq => hL q hq
  subst hL0
  rw [List.append_nil] at X'
  have hh : ((T.setVm vm1).calling g' mk (Value.ref b :: As).toArray).heap = H := hT
  rw [hh] at hz hk
  have hal : s.vm.Alike vm1 := hW1.alike
  have c3' : vm1.findClass name = some ce.cls := c3
  have c4' : vm1.assignable ce.cls ce.cls = true := c4
  rw [hal.findClass] at c3'
  rw [hal.assignable] at c4'
  obtain ⟨vm', XV, stc⟩ := x_catch2 X' xa (g := F0 m pc ls rest) rfl hown hsplit hx h0 hlink1 hz9 k0 hlink (cell := ce) (by rw [e1]; exact c1) c2 c3' c4' (fun cX h => hno cX ce.cls h c3')
  obtain ⟨t2, a1, b1⟩ := kk xa T'.heap (by rw [e1]; exact hz) (fun q hq => by rw [e1]; exact hk q hq (fun z => z)) (T'.setVm vm') rfl XV
  refine ⟨t2, st _ (stc _ ?_), b1⟩
  rw [hpcx]
  exact a1
end MX9
theorem x_rows2 {s : State} {m : MethodId} {meth : Method} {c : Code} {y : MethodName} {bytes : ByteArray} {maxL : Nat} {ret : Option FieldType} {q q2 : Nat × Nat × Nat × Nat} {tl : List (Nat × Nat × Nat × Nat)} {args : Array Value} (hn : s.methodNamed? y = some m) (hm : s.vm.method? m = some meth) (hc : meth.code = some c)
    (h : (Cond.codeWith y bytes maxL ret (q :: q2 :: tl)).before args s = true) : ∃ x z t, c.exceptionTable.toList = x :: z :: t ∧ (x.startPc = q.1 ∧ x.endPc = q.2.1 ∧ x.handlerPc = q.2.2.1 ∧ x.catchType = q.2.2.2) ∧ z.startPc = q2.1 ∧ z.endPc = q2.2.1 ∧ z.handlerPc = q2.2.2.1 ∧ z.catchType = q2.2.2.2 := by
  obtain ⟨m9, meth9, c9, h1, h2, h3, -, -, h4, -⟩ := Cond.codeWith_spec h
  cases hn.symm.trans h1
  cases hm.symm.trans h2
  cases hc.symm.trans h3
  cases hL : c.exceptionTable.toList with
  | nil => rw [hL] at h4; cases h4
  | cons x t =>
    rw [hL] at h4
    have h5 := (List.cons.inj h4).1
    have h6 := (List.cons.inj h4).2
    cases t with
    | nil => cases h6
    | cons z t =>
      have h7 := (List.cons.inj h6).1
      exact ⟨x, z, t, rfl, ⟨by rw [← h5], by rw [← h5], by rw [← h5], by rw [← h5]⟩, by rw [← h7], by rw [← h7], by rw [← h7], by rw [← h7]⟩
/-- an exception of state is no exception of argument -/
def XN (U : State) : Prop := ∀ cX cY, U.vm.findClass "java/lang/IllegalArgumentException" = some cX → U.vm.findClass "java/lang/IllegalStateException" = some cY → U.vm.assignable cY cX = false
theorem XN.same {u U : State} (h : u.vm = U.vm) (k : XN u) : XN U := by unfold XN; rw [← h]; exact k
theorem XN.moved {u U : State} (h : u.WarmedH U.vm) (k : XN u) : XN U := by
  unfold XN
  rw [h.alike.findClass, h.alike.findClass]
  intro cX cY h1 h2
  rw [h.alike.assignable]
  exact k cX cY h1 h2
