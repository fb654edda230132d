section MX4
variable {p : Program} {l : Launch} {e : Env} {R : Room} {s : State} {m : MethodId} {args : Array Value} {below : List Frame} {meth : Method} {c : Code} {H : Heap} {locs : List Loc} {cells slots : Nat} {Q : State → Prop}
theorem x_kept {u t : State} {n k : Nat} (h : u.sameButNew t [] n k) {q : Nat} (hq : q < u.heap.size) : t.heap[q]? = u.heap[q]? := by
  obtain ⟨-, -, -, -, -, h6⟩ := h
  have h7 : u.heap[q]? = some u.heap[q] := Array.getElem?_eq_getElem hq
  obtain ⟨ce, g1, g2, g3, g4⟩ := h6 q _ h7
  have g5 : ce.slots = u.heap[q].slots := Array.ext_getElem? fun i => g4 i (by simp)
  rw [g5] at g2
  rw [g1, h7]
  exact congrArg some g2
theorem w_adm {g : JFrame} (k : l.admits e → W p l e R s m args below meth c H locs cells slots Q g) : W p l e R s m args below meth c H locs cells slots Q g := fun T hT X => k X.admits T hT X
theorem x_htr (h : l.admits e) (hl : l.stackTraces = false) : e.platform.stackTraces = false := by rw [h.platform]; exact hl
theorem w_ldcS {cc : ByteArray} {pc : Nat} {ls : Array Slot} {rest : List Value} (hexec : p.tables.exec = Jvm.exec) (hb : c.code = cc) {own text : String} {index : Nat} (hown : s.vm.findClass own = some m.cls) (hconst : (Cond.stringRef own index text).before args s = true) (hdg : decode cc pc = .ok (.ldc index, 2))
    (kk : ∀ a : Addr, W p l e R s m args below meth c H locs cells slots Q (F0 m (pc + 2) ls (.ref a :: rest))) : W p l e R s m args below meth c H locs cells slots Q (F0 m pc ls rest) := by
  intro T hT X
  obtain ⟨k, cf, i, a, -, -, -, -, -, hev⟩ := Cond.stringRef_spec hown hconst
  obtain ⟨t, st, q⟩ := kk a T hT X
  exact ⟨t, X.ldcString hexec hown hconst hev (g := F0 m pc ls rest) rfl (by rw [hb]; exact hdg) t st, q⟩
/-- what a throwing call leaves: nothing that was there has changed; the object thrown is of the class cls -/
def xQ (cls : String) : Array Value → State → Addr → State → Prop := fun _ st x t => va_F (fun _ => False) st t ∧ ∃ ce : Cell, t.heap[x]? = some ce ∧ ce.vm = .none ∧ st.vm.findClass cls = some ce.cls ∧ st.vm.assignable ce.cls ce.cls = true
/-- throw new cls("text"), nothing having been written before -/
theorem w_throwNew {cc : ByteArray} {free : Addr → Prop} (hexec : p.tables.exec = Jvm.exec) (hb : c.code = cc) (hlt : l.stackTraces = false) {own cls text : String} {names : List String} {ia ib ic : Nat}
    (hown : s.vm.findClass own = some m.cls) (hcls : Bundle.fit cls = true) (hnames : ∀ n ∈ names, Bundle.fit n = true) (h : ∀ a ∈ Bundle.ownAtoms own ic cls names, a.before args s = true)
    (hcl : (Cond.classLink own ia cls).before args s = true) (hini : (Cond.initialized cls).before args s = true) (hstr : (Cond.stringRef own ib text).before args s = true)
    {pc : Nat} {ls : Array Slot} (hsize : ls.size = c.maxLocals) (d0 : decode cc pc = .ok (.new ia, 3)) (d3 : decode cc (pc + 3) = .ok (.dup, 1)) (d4 : decode cc (pc + 3 + 1) = .ok (.ldc ib, 2)) (d6 : decode cc (pc + 3 + 1 + 2) = .ok (.invokespecial ic, 3)) (d9 : decode cc (pc + 3 + 1 + 2 + 3) = .ok (.athrow, 1))
    (hout : ∀ x ∈ c.exceptionTable.toList, covers x (pc + 3 + 1 + 2 + 3) = false) (hRc : cells + 1 ≤ R.cells) (hRs : slots + 6 ≤ R.slots) (hRframes : names.length + 3 < R.frames) (hRlocals : 1 + (13 * (names.length + 1) + 42) ≤ R.locals) (hlocks : meth.locks = false) :
    W p l e R s m args below meth c s.heap [] cells slots (MQX below (xQ cls) args s (cells + 1) (slots + 6) free) (F0 m pc ls []) := by
  refine w_adm fun hadm => ?_
  have hi := h (.instantiable cls 6) (by simp [Bundle.ownAtoms])
  obtain ⟨cX, kX, f1, f2, -, -, -, -⟩ := Cond.instantiable_spec hi
  refine W.newcK hexec hb hown hcl hi hini rfl d0 hRc hRs f1 rfl fun H' kC g1 g2 g3 g4 => ?_
  refine lv_dup hexec hb d3 rfl ?_
  refine w_ldcS hexec hb hown hstr d4 fun sa => ?_
  refine w_throwS hexec hb (x_htr hadm hlt) hown hcls hnames h (fun x hx => by cases hx) f1 g1 g2 (Nat.le_refl _) rfl hsize d6 d9 hout hRframes hRlocals hlocks (fun t hW hsame hce => ?_) (fun q hq => by cases hq)
  obtain ⟨ce, k1, k2⟩ := hce
  exact ⟨⟨hsame.2.1, fun q h1 _ => x_kept hsame h1⟩, ce, k1, k2.vm, k2.cls, k2.self⟩
end MX4
section MX5
variable {e : Env} {s : State} {f : JFrame} {a : Addr}
/-- the search ends in a handler, and the tables have come to know its class -/
def XFinds (e : Env) (s : State) (f : JFrame) (a : Addr) (pc : Nat) (vm' : Vm) : Prop :=
  ∀ (Q : Handler → Pre) (E : CtlPost) (d : Bool) (acts : List Action), wp (findHandler f a) Q E e d acts s ↔ Q (.found pc) d acts (s.setVm vm')
theorem XFinds.link {meth : Method} {code : Code} (hm : s.vm.method? f.method = some meth) (hc : meth.code = some code) {x : ExceptionTableEntry} {rest : List ExceptionTableEntry} (hsplit : code.exceptionTable.toList = x :: rest)
    (hx : covers x f.pc = true) (h0 : x.catchType ≠ 0) {cX : ClassId} {cell : Cell} (hl : s.vm.ClassLinks e.platform f.method.cls x.catchType cX) (hcell : s.heap[a]? = some cell) (hobj : cell.vm = .none)
    (hk : ∃ k, s.vm.classes[cell.cls]? = some k) (hcl : ∃ k, s.vm.classes[cX]? = some k) (hfit : s.vm.assignable cell.cls cX = true) : XFinds e s f a x.handlerPc (s.vm.noted f.method.cls x.catchType (.cls cX)) := by
  intro Q E d acts
  rw [W.findHandler_eq hm hc, hsplit]
  obtain ⟨ha, ht⟩ := (resolveClass_links e.toSetting hl).op (op := VmOp.resolveClass f.method.cls x.catchType) rfl
  have hal : s.vm.Alike (s.vm.noted f.method.cls x.catchType (.cls cX)) := (Vm.Alike.refl s.vm).noted _ _ _
  obtain ⟨k1, hk1⟩ := hk
  obtain ⟨k2, hk2⟩ := hcl
  obtain ⟨k1', hk1', -⟩ := hal.2.2 _ _ hk1
  obtain ⟨k2', hk2', -⟩ := hal.2.2 _ _ hk2
  have hfit' : (s.vm.noted f.method.cls x.catchType (.cls cX)).assignable cell.cls cX = true := by rw [hal.assignable]; exact hfit
  simp only [covers] at hx
  simp [findHandler.go, hx, h0, ha, ht, hcell, hobj, hk1', hk2', hfit', VmOp.dirties, VmOp.acts]
theorem x_stepTo {r : List Frame} {pc : Nat} {vm' : Vm} (hfind : XFinds e s f a pc vm') : (stepThrowing e s a (.java f :: r)).Is ((s.setVm vm').setFrames (.java { f with pc := pc, stack := [.ref a] } :: r)) [] := by
  simp only [stepThrowing, searchFrame, vmDo]
  generalize hr : Sem.go _ e false [] s = res
  obtain ⟨as, rfl, ha⟩ := Sem.eq_ok_of hr (a := Handler.found pc) (s' := s.setVm vm') (acts' := []) (by simp [hfind _ _ _ _])
  exact ⟨rfl, ha⟩
theorem x_caughtTo {tb : Tables} {target : State} {g : JFrame} {c : Code} {below : List Frame} (h : At s g.method c below) {pc : Nat} {vm' : Vm} (hfind : XFinds e ((s.setTop g).pushFrame (.throwing a)) g a pc vm')
    (hrest : Steps tb e below ((s.setVm vm').setTop { g with pc := pc, stack := [.ref a] }) target) : Steps tb e below ((s.setTop g).pushFrame (.throwing a)) target := by
  obtain ⟨hgo, hw⟩ := h.throwing a
  refine Steps.head hgo hw ?_
  rw [stepThread_throwing (frames_entered h.top _), (x_stepTo (s := (s.setTop g).pushFrame (.throwing a)) hfind).1]
  obtain ⟨g0, hg⟩ := Option.isSome_iff_exists.mp h.top
  obtain ⟨r, hr⟩ := State.topJava?_eq_some.mp hg
  have hr' : (s.setVm vm').frames = .java g0 :: r := hr
  rw [State.setTop_of_frames _ hr'] at hrest
  rw [State.pushFrame, State.setTop_of_frames _ hr, State.setFrames_setFrames]
  show Steps tb e below (((s.setVm vm').setFrames _).setFrames _) target
  rw [State.setFrames_setFrames, hr]
  exact hrest
end MX5
section MX6
variable {p : Program} {l : Launch} {e : Env} {R : Room} {s : State} {m : MethodId} {args : Array Value} {below : List Frame} {meth : Method} {c : Code} {T : State} {H : Heap} {locs : List Loc} {cells slots : Nat} {Q : State → Prop}
theorem x_catch (X : Stand p l e R s m args below meth c T locs cells slots) (a : Addr) {g : JFrame} (hg : g.method = m) {own name : String} (hown : s.vm.findClass own = some m.cls) {x : ExceptionTableEntry} {rest : List ExceptionTableEntry} (hsplit : c.exceptionTable.toList = x :: rest)
    (hx : covers x g.pc = true) (h0 : x.catchType ≠ 0) (hlink : (Cond.classLink own x.catchType name).before args s = true) {cell : Cell} (hcell : T.heap[a]? = some cell) (hobj : cell.vm = .none) (hcls : s.vm.findClass name = some cell.cls) (hself : s.vm.assignable cell.cls cell.cls = true) :
    ∃ vm', Stand p l e R s m args below meth c (T.setVm vm') locs cells slots ∧ ∀ target, Steps p.tables e below ((T.setVm vm').setTop { g with pc := x.handlerPc, stack := [.ref a] }) target → Steps p.tables e below ((T.setTop g).pushFrame (.throwing a)) target := by
  have hpl : e.platform.magicAccessors = ({} : Platform).magicAccessors := by rw [X.admits.platform]
  obtain ⟨cX, hcX, hcl⟩ := Cond.classLink_spec hown hlink e.platform hpl
  cases hcls.symm.trans hcX
  obtain ⟨dk, _, _, kt, hd, _, _, _, _, hkt, _, hopen⟩ := hcl.here
  have hW : s.WarmedH (T.vm.noted m.cls x.catchType (.cls cell.cls)) := X.warmed.noted hd hopen (State.rightAt_cls hcl)
  obtain ⟨k2, hk2, -⟩ := X.warmed.alike.2.2 _ _ hkt
  have hfit : T.vm.assignable cell.cls cell.cls = true := by rw [X.warmed.alike.assignable]; exact hself
  refine ⟨_, X.noted hW, fun target hrest => ?_⟩
  subst hg
  refine x_caughtTo X.here (vm' := T.vm.noted g.method.cls x.catchType (.cls cell.cls)) (pc := x.handlerPc) ?_ hrest
  have h1 := Stand.throwing_vm T g a
  have h2 := Stand.throwing_heap T g a
  have := XFinds.link (e := e) (s := (T.setTop g).pushFrame (.throwing a)) (f := g) (a := a) (meth := meth) (code := c) (by rw [h1]; exact X.method') X.code hsplit hx h0 (cX := cell.cls) (cell := cell) (by rw [h1]; exact X.warmed.classLinks hcl) (by rw [h2]; exact hcell) hobj (by rw [h1]; exact ⟨k2, hk2⟩) (by rw [h1]; exact ⟨k2, hk2⟩) (by rw [h1]; exact hfit)
  rw [h1] at this
  exact this
/-- a virtual call of a method that throws, and the handler of the caller's own that catches it -/
theorem w_callX {cc : ByteArray} (hexec : p.tables.exec = Jvm.exec) (hb : c.code = cc) {own C name : String} {index : Nat} {y : MethodName} {bytes : ByteArray} {maxL mc ms n : Nat} {ret : Option FieldType} {ws ws' Ts : List Cond} {rm : Room} {Pc : Array Value → State → Prop} {b : Addr} {As : List Value}
    (hM : MetX l y ws rm Pc (xQ name) mc ms (fun _ => False)) (hw : ws = Cond.code y bytes maxL ret :: ws') (hts : ∀ w ∈ Ts, w.before args s = true) (hG : GoodIn Ts (wsV own index C y ws)) (hrc : rm.cells = mc) (hrs : rm.slots = ms) (hR : rm.frames + 1 ≤ R.frames ∧ 8 + (maxL + 11) + rm.locals ≤ R.locals)
    (hd : y.cls = C ∧ y.cls ≠ "java/lang/invoke/MethodHandle" ∧ y.cls ≠ "java/lang/invoke/VarHandle" ∧ (parseMethodDescriptor y.desc).map (fun d => d.parameters.length) = some n) (hn : As.length = n) (hown : s.vm.findClass own = some m.cls)
    (hp : PreV s H C b Pc As) {pc : Nat} {ls : Array Slot} (hsize : ls.size = c.maxLocals) {rest : List Value} (hW : 2 * (F0 m pc ls rest).monitorRoom + (rest.map fun v => v.category).sum ≤ 8) (hdg : decode cc pc = .ok (.invokevirtual index, 3)) (hf : cells + mc ≤ R.cells ∧ slots + ms ≤ R.slots)
    {x : ExceptionTableEntry} {tl : List ExceptionTableEntry} (hsplit : c.exceptionTable.toList = x :: tl) (hx : covers x pc = true) (h0 : x.catchType ≠ 0) (hlink : (Cond.classLink own x.catchType name).before args s = true) {hpc : Nat} (hpcx : x.handlerPc = hpc)
    (kk : ∀ (a : Addr) (H1 : Heap), H.size ≤ H1.size → (∀ q : Nat, q < H.size → H1[q]? = H[q]?) → W p l e R s m args below meth c H1 locs (cells + mc) (slots + ms) Q (F0 m hpc ls [.ref a])) :
    W p l e R s m args below meth c H locs cells slots Q (F0 m pc ls (As.reverse ++ .ref b :: rest)) := by
  obtain ⟨hC, hy1, hy2, hlen⟩ := hd
  subst hC
  have ok : ∀ w ∈ wsV own index y.cls y ws, w.before args s = true := fun w h => hts w (hG w h).1
  have hgw : GoodIn Ts ws := fun w h => hG w (by unfold wsV; exact List.mem_append_right _ h)
  have hcm : Cond.code y bytes maxL ret ∈ ws := by rw [hw]; exact List.mem_cons_self
  have hini := ok (.initialized y.cls) (by simp [wsV])
  obtain ⟨hbl, ⟨cellB, hcB, hoB, hclB⟩, hPc⟩ := hp
  intro T hT X
  obtain ⟨xa, vm1, g', mk, t, T', L, hW1, X', hL, e1, e2, ⟨⟨hz, hk⟩, ce, c1, c2, c3, c4⟩, st⟩ := callXV X hexec hM hbl hrc hrs hR.1 hR.2 (pay_in hts hgw) hcm (fun a' U hU => word_at hU (Or.inl rfl) hini) hown (ok (.methodLink own index y) (by simp [wsV])) (ok (.instanceMethod y) (by simp [wsV])) (ok (.selects y.cls y y) (by simp [wsV])) (hts _ (hgw _ hcm).1) ⟨hy1, hy2⟩
    (by rw [hT]; exact hcB) hoB hclB (g := F0 m pc ls (As.reverse ++ .ref b :: rest)) rfl hsize (argsL := As) (rest := rest) (fun sig hs => by rw [hs] at hlen; exact hn.trans (Option.some.inj hlen).symm) rfl hW (by rw [hb]; exact hdg) hf.1 hf.2 (fun vm1 hW1 => hPc (T.setVm vm1) hT hW1)
  have hL0 : L = [] := List.eq_nil_iff_forall_not_mem.mpr fun q hq => hL q hq
  subst hL0
  rw [List.append_nil] at X'
  have hh : ((T.setVm vm1).calling g' mk (Value.ref b :: As).toArray).heap = H := hT
  rw [hh] at hz hk
  have hal : s.vm.Alike vm1 := hW1.alike
  have c3' : vm1.findClass name = some ce.cls := c3
  have c4' : vm1.assignable ce.cls ce.cls = true := c4
  rw [hal.findClass] at c3'
  rw [hal.assignable] at c4'
  obtain ⟨vm', XV, stc⟩ := x_catch X' xa (g := F0 m pc ls rest) rfl hown hsplit hx h0 hlink (cell := ce) (by rw [e1]; exact c1) c2 c3' c4'
  obtain ⟨t2, a1, b1⟩ := kk xa T'.heap (by rw [e1]; exact hz) (fun q hq => by rw [e1]; exact hk q hq (fun z => z)) (T'.setVm vm') rfl XV
  refine ⟨t2, st _ (stc _ ?_), b1⟩
  rw [hpcx]
  exact a1
end MX6
section MX7
variable {p : Program} {l : Launch} {e : Env} {R : Room} {s : State} {m : MethodId} {args : Array Value} {below : List Frame} {meth : Method} {c : Code} {T : State} {H : Heap} {locs : List Loc} {cells slots : Nat}
/-- a static call of a method with handlers of its own -/
theorem x_callS (X : Stand p l e R s m args below meth c T locs cells slots) (hexec : p.tables.exec = Jvm.exec) {own : String} {index : Nat} {y : MethodName} {bytes : ByteArray} {maxL : Nat} {ret : Option FieldType} {hh : List (Nat × Nat × Nat × Nat)}
    (hown : s.vm.findClass own = some m.cls) (hlink : (Cond.methodLink own index y).before args s = true) (hstat : (Cond.static y).before args s = true) (hinit : (Cond.initialized y.cls).before args s = true)
    (hcode : (Cond.codeWith y bytes maxL ret hh).before args s = true) (hy : y.cls ≠ "java/lang/invoke/MethodHandle" ∧ y.cls ≠ "java/lang/invoke/VarHandle")
    {WW : Nat} {Pre : Pt → Array Value → Prop} {Post : Pt → Array Value → Option Value → Pt → Prop} (hK : Back l R p e below s args y 3 WW Pre Post)
    {g : JFrame} (hg : g.method = m) (hsize : g.locals.size = c.maxLocals) {argsL rest : List Value} (hlen : ∀ sig, parseMethodDescriptor y.desc = some sig → argsL.length = sig.parameters.length)
    (hstack : g.stack = argsL.reverse ++ rest) (hW : 2 * g.monitorRoom + (rest.map fun v => v.category).sum ≤ WW) (hdg : decode c.code g.pc = .ok (.invokestatic index, 3))
    (hpre : ∀ vm1, s.WarmedH vm1 → Pre ⟨T.setVm vm1, locs, cells, slots⟩ argsL.toArray) :
    ∃ (v : Option Value) (vm1 : Vm) (B : Pt), s.WarmedH vm1 ∧ Stand p l e R s m args below meth c B.U B.locs B.cells B.slots ∧ Post ⟨T.setVm vm1, locs, cells, slots⟩ argsL.toArray v B ∧
      ∀ target, Steps p.tables e below (B.U.setTop { g with pc := g.pc + 3, stack := v.toList ++ rest }) target → Steps p.tables e below (T.setTop g) target := by
  obtain ⟨mk, methM, cM, hnamed, hmethM, -, -, -, -, -, -, hsigM⟩ := Cond.codeWith_spec hcode
  have hstatic : methM.isStatic = true := Cond.static_spec hnamed hmethM hstat
  obtain ⟨kP, hkP, -⟩ := className_of_methodNamed hnamed
  have hinitP : kP.init = .initialized := Cond.initialized_spec (findClass_of_methodNamed hnamed) hkP hinit
  obtain ⟨vm1, X1, hstep1⟩ := X.invokestatic hexec hown hlink hnamed hmethM hstatic hkP hinitP hy (g := g) hg (argsL := argsL) (rest := rest) (hlen _ hsigM) hstack hdg
  obtain ⟨v, B, X', hpost, hsteps⟩ := hK m meth c ⟨T.setVm vm1, locs, cells, slots⟩ { g with stack := rest } (.invokestatic index) mk argsL.toArray X1 hg hsize hdg hW (X1.named hnamed) (hpre vm1 X1.warmed)
  exact ⟨v, vm1, B, X1.warmed, X', hpost, fun target h => hstep1 _ fun acts => by rw [doInvoke_state]; exact hsteps.trans h⟩
theorem x_runS {y : MethodName} {bytes cc : ByteArray} {maxL nL mc ms n index : Nat} {ret : Option FieldType} {hh : List (Nat × Nat × Nat × Nat)} {ws ws' : List Cond} {rm : Room} {Pc : Array Value → State → Prop} {Qc : Array Value → State → Outcome → State → Prop} {free : Addr → Prop} {Ts : List Cond} {own : String} {As rest : List Value} {g : JFrame}
    (S : CallFix p m c cc nL s args Ts own) (hM : Met l y ws rm Pc Qc mc ms free) (hw : ws = Cond.codeWith y bytes maxL ret hh :: ws') (hG : GoodIn Ts (va_wsS own index y ws)) (hrc : rm.cells = mc) (hrs : rm.slots = ms)
    (hd : y.cls ≠ "java/lang/invoke/MethodHandle" ∧ y.cls ≠ "java/lang/invoke/VarHandle" ∧ (parseMethodDescriptor y.desc).map (fun d => d.parameters.length) = some n) (hR : rm.frames + 1 ≤ R.frames ∧ 8 + (maxL + 11) + rm.locals ≤ R.locals) (hp : PreS s H Pc As)
    (hg : g.method = m) (hn : As.length = n) (hsize : g.locals.size = nL) (hstack : g.stack = As.reverse ++ rest) (hW : 2 * g.monitorRoom + (rest.map fun v => v.category).sum ≤ 8) (hdg : decode cc g.pc = .ok (.invokestatic index, 3)) (hf : cells + mc ≤ R.cells ∧ slots + ms ≤ R.slots) :
    va_Run p l e R s m args below meth c H locs cells slots mc ms g rest (Qc As.toArray) (free) := by
  obtain ⟨hx, hb, hml, ho, hts⟩ := S
  have ok : ∀ w ∈ va_wsS own index y ws, w.before args s = true := fun w h => hts w (hG w h).1
  have hgw : GoodIn Ts ws := fun w h => hG w (by unfold va_wsS; exact List.mem_append_right _ h)
  have hcm : Cond.codeWith y bytes maxL ret hh ∈ ws := by rw [hw]; exact List.mem_cons_self
  have hini : (Cond.initialized y.cls).before args s = true := ok _ (by simp [va_wsS])
  have hK : Back l R p e below s args y 3 8 (PreOf R mc ms Pc) (PostOf Qc mc ms free) := va_backW (hh := hh) hM hp.1 hrc hrs hR.1 hR.2 (pay_in hts hgw) hcm (fun a' U hU => word_at hU (Or.inl rfl) hini)
  intro T hT X
  obtain ⟨v, vm1, ⟨U', l2, c2, s2⟩, hW1, X', ⟨g', mk, t, L, e1, e2, hq, h1, hL, h2, h3⟩, st⟩ := x_callS X hx (bytes := bytes) (maxL := maxL) (ret := ret) (hh := hh) ho (ok (.methodLink own index y) (by simp [va_wsS])) (ok (.static y) (by simp [va_wsS])) hini (hts _ (hgw _ hcm).1) ⟨hd.1, hd.2.1⟩ hK hg (hsize.trans hml.symm) (argsL := As) (rest := rest)
    (fun sig h => by have h9 := hd.2.2; rw [h] at h9; exact hn.trans (Option.some.inj h9).symm) hstack hW (by rw [hb]; exact hdg) (fun vm1 hW1 => ⟨hf.1, hf.2, hp.2 (T.setVm vm1) hT hW1⟩)
  dsimp only [Pt.U, Pt.locs, Pt.cells, Pt.slots] at X' e1 e2 h1 h2 h3 st
  subst h1; subst h2; subst h3
  exact ⟨v, (T.setVm vm1).calling g' mk As.toArray, t, U', L, hT, X', hL, e1, e2, hq, st⟩
end MX7
theorem x_rows {s : State} {m : MethodId} {meth : Method} {c : Code} {y : MethodName} {bytes : ByteArray} {maxL : Nat} {ret : Option FieldType} {q : Nat × Nat × Nat × Nat} {tl : List (Nat × Nat × Nat × Nat)} {args : Array Value} (hn : s.methodNamed? y = some m) (hm : s.vm.method? m = some meth) (hc : meth.code = some c)
    (h : (Cond.codeWith y bytes maxL ret (q :: tl)).before args s = true) : ∃ x t, c.exceptionTable.toList = x :: t ∧ x.startPc = q.1 ∧ x.endPc = q.2.1 ∧ x.handlerPc = q.2.2.1 ∧ x.catchType = q.2.2.2 := by
  obtain ⟨m9, meth9, c9, h1, h2, h3, -, -, h4, -⟩ := Cond.codeWith_spec h
  cases hn.symm.trans h1
  cases hm.symm.trans h2
  cases hc.symm.trans h3
  cases hL : c.exceptionTable.toList with
  | nil => rw [hL] at h4; cases h4
  | cons x t =>
    rw [hL] at h4
    have h5 := (List.cons.inj h4).1
    exact ⟨x, t, rfl, by rw [← h5], by rw [← h5], by rw [← h5], by rw [← h5]⟩
