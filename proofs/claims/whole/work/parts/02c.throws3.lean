section MX3
variable {p : Program} {l : Launch} {e : Env} {R : Room} {s : State} {m : MethodId} {args : Array Value} {below : List Frame} {meth : Method} {c : Code}
/-- where the walk of a method that throws ends -/
def MQX (below : List Frame) (Qx : Array Value → State → Addr → State → Prop) (a : Array Value) (s : State) (mc ms : Nat) (free : Addr → Prop) : State → Prop := fun t =>
  ∃ x L, t.status = .running ∧ Ended t below (.threw x) ∧ Qx a s x t ∧ FramedT s (.threw x) t L mc ms ∧ ∀ q ∈ L, free q.base
theorem MetX.ofW {y : MethodName} {ws ws' : List Cond} {rm : Room} {Pc : Array Value → State → Prop} {Qx : Array Value → State → Addr → State → Prop} {mc ms : Nat} {free : Addr → Prop} {cc : ByteArray} {maxL : Nat} {ret : Option FieldType}
    (hy : plainName y.cls = true) (hw : ws = Cond.code y cc maxL ret :: ws')
    (body : ∀ p e s m args below meth c s₁, BodyLoose p l y (headSpec ws rm) cc maxL ret e s m args below meth c s₁ → c.maxLocals = maxL → Pc args s →
      W p l e (headSpec ws rm).room s m args below meth c s.heap [] 0 0 (MQX below Qx args s mc ms free) (entryFrame m args maxL)) : MetX l y ws rm Pc Qx mc ms free := by
  refine MetFree.of_bodyS (code := cc) (maxLocals := maxL) (ret := ret) hy ?_ ?_
  · intro args s m h hn
    obtain ⟨meth, c, h1, h2, h3, h4, h5, h6, -, -⟩ := Cond.code_spec hn (atoms_spec (ws := ws) h _ (by rw [hw]; exact List.mem_cons_self))
    exact ⟨meth, c, h1, h2, h3, h4, h5, h6⟩
  · intro p e s m args below meth c s₁ B hml hP _
    have hh0 : s₁.heap = s.heap := by rw [B.state]; rfl
    obtain ⟨t, a1, x, L, b1, b2, hq, hf, hl⟩ := body p e s m args below meth c s₁ B hml hP s₁ hh0 (Stand.of_body B)
    exact ⟨t, .threw x, a1, b1, b2, x, L, rfl, hq, hf, hl⟩
/-- the end of such a walk: the constructor's call and the athrow behind it -/
theorem w_throwS {H : Heap} {locs : List Loc} {cells slots : Nat} {cc : ByteArray} {Qx : Array Value → State → Addr → State → Prop} {free : Addr → Prop} (hexec : p.tables.exec = Jvm.exec) (hb : c.code = cc) (htr : e.platform.stackTraces = false) {own cls : String} {names : List String} {ic : Nat}
    (hown : s.vm.findClass own = some m.cls) (hcls : Bundle.fit cls = true) (hnames : ∀ n ∈ names, Bundle.fit n = true) (h : ∀ a ∈ Bundle.ownAtoms own ic cls names, a.before args s = true)
    (hlocs : ∀ x ∈ locs, ∀ cell, s.heap[x.base]? = some cell → cell.vm.isStatics = false) {a : Addr} {cX : ClassId} {kX : Class} (hfoundX : s.vm.findClass cls = some cX) (hkX : s.vm.classes[cX]? = some kX) (hcell : H[a]? = some (freshCell cX kX)) (hnew : s.heap.size ≤ a)
    {msg : Value} (hmsg : msg.isRef = true) {pc : Nat} {ls : Array Slot} (hsize : ls.size = c.maxLocals) (hd6 : decode cc pc = .ok (.invokespecial ic, 3)) (hd9 : decode cc (pc + 3) = .ok (.athrow, 1)) (hout : ∀ x ∈ c.exceptionTable.toList, covers x (pc + 3) = false)
    (hRframes : names.length + 3 < R.frames) (hRlocals : 1 + (13 * (names.length + 1) + 42) ≤ R.locals) (hlocks : meth.locks = false)
    (hq : ∀ t : State, s.WarmedH t.vm → s.sameButNew ({ t with vm := s.vm } : State) locs cells slots → (∃ ce, t.heap[a]? = some ce ∧ Bundle.OwnCell args s cls a msg ce) → Qx args s a t) (hf : ∀ q ∈ locs, free q.base) :
    W p l e R s m args below meth c H locs cells slots (MQX below Qx args s cells slots free) (F0 m pc ls [msg, .ref a, .ref a]) := by
  intro T hT X
  obtain ⟨U, hst, hrun, hend, hW, hsame, hce⟩ := X.ctorThrowS hexec htr hown hcls hnames h hlocs hfoundX hkX (by rw [hT]; exact hcell) hnew hmsg (g := F0 m pc ls [msg, .ref a, .ref a]) rfl hsize rfl rfl (rest := []) rfl (by rw [hb]; exact hd6) (by rw [hb]; exact hd9) hout hRframes (by have h9 : (Value.ref a).category = 1 := rfl; simpa [h9] using hRlocals) hlocks
  exact ⟨U, hst, a, locs, hrun, hend, hq U hW hsame hce, ⟨⟨_, rfl⟩, hW, hsame⟩, hf⟩
end MX3
