/-! Throwing and catching, as rows of the judgement W: a method that only throws (MetT), its end (tx_throw), a call of it inside a try (tx_callT). Mine. -/
section TXA
variable {e : Env} {S : State} {f : JFrame} {a : Addr}
/-- what the search for a handler gives, and the tables that it leaves -/
def tx_F (e : Env) (S : State) (f : JFrame) (a : Addr) (pc : Nat) (vm' : Vm) : Prop :=
  ∀ (Q : Handler → Pre) (E : CtlPost) (d : Bool) (acts : List Action), wp (findHandler f a) Q E e d acts S ↔ Q (.found pc) d acts (S.setVm vm')
theorem tx_go {Q : Handler → Pre} {E : CtlPost} {d : Bool} {acts : List Action} {x : ExceptionTableEntry} {t : List ExceptionTableEntry} {ct : ClassId} {cell : Cell} (hx : covers x f.pc = true) (h0 : x.catchType ≠ 0)
    (hl : S.vm.ClassLinks e.platform f.method.cls x.catchType ct) (hcell : S.heap[a]? = some cell) (hobj : ∀ k, cell.vm ≠ .statics k) (hk : ∃ k, S.vm.classes[cell.cls]? = some k) (hc : ∃ k, S.vm.classes[ct]? = some k) (b : Bool) (hfit : S.vm.assignable cell.cls ct = b) :
    wp (findHandler.go f a (x :: t)) Q E e d acts S ↔ if b = true then Q (.found x.handlerPc) d acts (S.setVm (S.vm.noted f.method.cls x.catchType (.cls ct))) else wp (findHandler.go f a t) Q E e d acts (S.setVm (S.vm.noted f.method.cls x.catchType (.cls ct))) := by
  simp only [covers] at hx
  obtain ⟨ha, ht⟩ := (resolveClass_links e.toSetting hl).op (op := VmOp.resolveClass f.method.cls x.catchType) rfl
  have hal : S.vm.Alike (S.vm.noted f.method.cls x.catchType (.cls ct)) := (Vm.Alike.refl S.vm).noted _ _ _
  obtain ⟨k1, hk1⟩ := hk
  obtain ⟨k2, hk2⟩ := hc
  obtain ⟨k1', hk1', -⟩ := hal.2.2 _ _ hk1
  obtain ⟨k2', hk2', -⟩ := hal.2.2 _ _ hk2
  have hf' : (S.vm.noted f.method.cls x.catchType (.cls ct)).assignable cell.cls ct = b := by rw [hal.assignable]; exact hfit
  cases b <;> simp [findHandler.go, hx, h0, ha, ht, hcell, hobj, hk1', hk2', hf', VmOp.dirties, VmOp.acts]
theorem tx_caught {tb : Tables} {T target : State} {g : JFrame} {c : Code} {below : List Frame} (h : At T g.method c below) {pc : Nat} {vm' : Vm} (hfind : tx_F e ((T.setTop g).pushFrame (.throwing a)) g a pc vm')
    (hrest : Steps tb e below ((T.setVm vm').setTop { g with pc := pc, stack := [.ref a] }) target) : Steps tb e below ((T.setTop g).pushFrame (.throwing a)) target := by
  obtain ⟨hgo, hw⟩ := h.throwing a
  refine Steps.head hgo hw ?_
  have hst : (stepThrowing e ((T.setTop g).pushFrame (.throwing a)) a (.java g :: T.frames.tail)).Is ((((T.setTop g).pushFrame (.throwing a)).setVm vm').setFrames (.java { g with pc := pc, stack := [.ref a] } :: T.frames.tail)) [] := by
    simp only [stepThrowing, searchFrame, vmDo]
    generalize hr : Sem.go _ e false [] _ = res
    obtain ⟨as, rfl, ha⟩ := Sem.eq_ok_of hr (a := Handler.found pc) (s' := ((T.setTop g).pushFrame (.throwing a)).setVm vm') (acts' := []) (by simp [hfind _ _ _ _])
    exact ⟨rfl, ha⟩
  rw [stepThread_throwing (frames_entered h.top _), hst.1]
  obtain ⟨g₀, hg⟩ := Option.isSome_iff_exists.mp h.top
  obtain ⟨r, hr⟩ := State.topJava?_eq_some.mp hg
  have hr' : (T.setVm vm').frames = .java g₀ :: r := hr
  have hz : ∀ (u : State) (F G : List Frame), ((u.setFrames F).setVm vm').setFrames G = (u.setVm vm').setFrames G := fun u F G => by
    have h1 : (u.setFrames F).setVm vm' = (u.setVm vm').setFrames F := rfl
    rw [h1, State.setFrames_setFrames]
  rw [State.setTop_of_frames _ hr'] at hrest
  rw [hr, List.tail_cons, State.pushFrame, hz, State.setTop_of_frames _ hr, hz]
  exact hrest
end TXA
/-- the class of an object, told by its name -/
def tx_Is (cls : String) (s : State) (H : Heap) (x : Addr) : Prop := ∃ ce : Cell, H[x]? = some ce ∧ ce.vm.isStatics = false ∧ s.vm.findClass cls = some ce.cls
/-- a method that throws a new object of the class cls, and has written nothing that was there -/
def tx_T (cls : String) (st : State) (o : Outcome) (t : State) (mc ms : Nat) : Prop :=
  ∃ x : Addr, o = .threw x ∧ tx_Is cls st t.heap x ∧ (∀ q : Nat, q < st.heap.size → t.heap[q]? = st.heap[q]?) ∧ st.WarmedH t.vm ∧ st.sameButNew ({ t with vm := st.vm } : State) [] mc ms
def MetT (l : Launch) (y : MethodName) (ws : List Cond) (rm : Room) (Pc : Array Value → State → Prop) (cls : String) (mc ms : Nat) : Prop :=
  MetFree l y (headSpec ws rm) Pc (fun _ _ _ _ _ => True) (fun _ st o t => tx_T cls st o t mc ms)
def tx_Q (below : List Frame) (cls : String) (s : State) (mc ms : Nat) : State → Prop := fun t => ∃ o, t.status = .running ∧ Ended t below o ∧ tx_T cls s o t mc ms
section TXB
variable {p : Program} {l : Launch} {e : Env} {R : Room} {s : State} {m : MethodId} {args : Array Value} {below : List Frame} {meth : Method} {c : Code} {H : Heap} {locs : List Loc} {cells slots : Nat} {Q : State → Prop}
theorem MetT.ofW {y : MethodName} {ws ws' : List Cond} {rm : Room} {Pc : Array Value → State → Prop} {cls : String} {mc ms : Nat} {cc : ByteArray} {maxL : Nat} {ret : Option FieldType}
    (hy : plainName y.cls = true) (hw : ws = Cond.code y cc maxL ret :: ws')
    (body : ∀ p e s m args below meth c s₁, BodyLoose p l y (headSpec ws rm) cc maxL ret e s m args below meth c s₁ → c.maxLocals = maxL → Pc args s →
      W p l e (headSpec ws rm).room s m args below meth c s.heap [] 0 0 (tx_Q below cls s mc ms) (entryFrame m args maxL)) : MetT l y ws rm Pc cls mc ms := by
  refine MetFree.of_bodyS (code := cc) (maxLocals := maxL) (ret := ret) hy ?_ ?_
  · intro args s m h hn
    obtain ⟨meth, c, h1, h2, h3, h4, h5, h6, -, -⟩ := Cond.code_spec hn (atoms_spec (ws := ws) h _ (by rw [hw]; exact List.mem_cons_self))
    exact ⟨meth, c, h1, h2, h3, h4, h5, h6⟩
  · intro p e s m args below meth c s₁ B hml hP _
    have hh0 : s₁.heap = s.heap := by rw [B.state]; rfl
    obtain ⟨t, a1, o, b1, b2, b3⟩ := body p e s m args below meth c s₁ B hml hP s₁ hh0 (Stand.of_body B)
    exact ⟨t, o, a1, b1, b2, b3⟩
/-- 'invokespecial X.<init>; athrow' over a fresh X: the method ends, X thrown -/
theorem tx_throw {cc : ByteArray} {pc ic : Nat} {ls : Array Slot} {rest : List Value} {own cls : String} {names : List String} (hexec : p.tables.exec = Jvm.exec) (hb : c.code = cc) (hno : c.exceptionTable.isEmpty = true) (hfl : l.flags = pinnedFlags ++ [noTraceFlag]) (hlocks : meth.locks = false)
    (hown : s.vm.findClass own = some m.cls) (hcls : Bundle.fit cls = true) (hnames : ∀ n ∈ names, Bundle.fit n = true) (hat : ∀ w ∈ Bundle.ownAtoms0 own ic cls names, w.before args s = true)
    {a : Addr} {cX : ClassId} {kX : Class} (hf : s.vm.findClass cls = some cX) (hkX : s.vm.classes[cX]? = some kX) (hcell : H[a]? = some (freshCell cX kX)) (hnew : s.heap.size ≤ a)
    (hsz : ls.size = c.maxLocals) (hd6 : decode cc pc = .ok (.invokespecial ic, 3)) (hd9 : decode cc (pc + 3) = .ok (.athrow, 1)) (hR : names.length + 3 < R.frames) (hR2 : ((Value.ref a :: rest).map fun v => v.category).sum + (13 * (names.length + 1) + 41) ≤ R.locals) :
    W p l e R s m args below meth c H [] cells slots (tx_Q below cls s cells slots) (F0 m pc ls (.ref a :: .ref a :: rest)) := by
  intro T hT X
  have hout : ∀ x ∈ c.exceptionTable.toList, covers x (pc + 3) = false := by
    have h0 : c.exceptionTable.size = 0 := by simpa [Array.isEmpty] using hno
    have h1 : c.exceptionTable.toList = [] := List.eq_nil_of_length_eq_zero (by simpa using h0)
    intro y hy
    rw [h1] at hy
    cases hy
  obtain ⟨U, h1, h2, h3, h4, h5, ce, h6, h7⟩ := X.ctorThrow0 hexec (Launch.traces_off hfl X.admits) hown hcls hnames hat (fun x hx => by cases hx) hf hkX (by rw [hT]; exact hcell) hnew (g := F0 m pc ls (.ref a :: .ref a :: rest)) rfl hsz rfl rfl rfl
    (by rw [hb]; exact hd6) (by rw [hb]; exact hd9) hout hR (by show 2 * 0 + _ + _ ≤ _; omega) hlocks
  refine ⟨U, h1, .threw a, h2, h3, a, rfl, ⟨ce, h6, by rw [h7.vm]; rfl, h7.cls⟩, fun q hq => ?_, h4, h5⟩
  obtain ⟨c0, hc0⟩ : ∃ c0, s.heap[q]? = some c0 := ⟨_, Array.getElem?_eq_getElem hq⟩
  obtain ⟨c1, g1, g2, g3, g4⟩ := h5.2.2.2.2.2 q c0 hc0
  have g1' : U.heap[q]? = some c1 := g1
  rw [g1', hc0, g2]
  have hs : c1.slots = c0.slots := by
    apply Array.ext_getElem?
    intro i
    exact g4 i (by simp)
  rw [hs]
end TXB
section TXC
variable {p : Program} {l : Launch} {e : Env} {R : Room} {s : State} {m : MethodId} {args : Array Value} {below : List Frame} {meth : Method} {c : Code} {H : Heap} {locs : List Loc} {cells slots : Nat} {Q : State → Prop}
/-- the call of a method that throws: the machine comes to stand with the note 'throwing' over the caller's frame -/
theorem tx_back {y : MethodName} {ws : List Cond} {rm : Room} {Pc : Array Value → State → Prop} {cls : String} {mc ms len W9 : Nat} {bytes : ByteArray} {maxL : Nat} {ret : Option FieldType}
    (hM : MetT l y ws rm Pc cls mc ms) (hblind : FrameBlind Pc) (hrc : rm.cells = mc) (hrs : rm.slots = ms) (hframes : rm.frames + 1 ≤ R.frames) (hlocals : W9 + (maxL + 11) + rm.locals ≤ R.locals)
    (hws : ∀ w ∈ ws, ∀ (a' : Array Value) (U : State), s.WarmedH U.vm → w.before a' U = true) (hcode : Cond.code y bytes maxL ret ∈ ws) (hinit : ∀ (a' : Array Value) (U : State), s.WarmedH U.vm → (Cond.initialized y.cls).before a' U = true)
    {U : State} (X : Stand p l e R s m args below meth c U locs cells slots) {g : JFrame} {ig : Instr} {mk : MethodId} {a : Array Value} (hg : g.method = m) (hsize : g.locals.size = c.maxLocals) (hdg : decode c.code g.pc = .ok (ig, len))
    (hW : 2 * g.monitorRoom + (g.stack.map fun v => v.category).sum ≤ W9) (hn : U.methodNamed? y = some mk) (hc1 : cells + mc ≤ R.cells) (hc2 : slots + ms ≤ R.slots) (hPc : Pc a U) :
    ∃ (x : Addr) (V : State), Stand p l e R s m args below meth c V locs (cells + mc) (slots + ms) ∧ tx_Is cls s V.heap x ∧ U.heap.size ≤ V.heap.size ∧ (∀ q : Nat, q < U.heap.size → V.heap[q]? = U.heap[q]?) ∧
      Steps p.tables e below (doInvoke e (U.setTop g) [] mk a).1 ((V.setTop g).pushFrame (.throwing x)) := by
  have h1 : (headSpec ws rm).pre.before a U = true := atoms_intro fun w hw => hws w hw _ _ X.warmed
  have h2 := hws _ hcode a U X.warmed
  have h3 := hinit a U X.warmed
  obtain ⟨methY, cY, hmY, hcY, -, hlY, -, -, -, -⟩ := Cond.code_spec hn h2
  obtain ⟨kY, hkY, -⟩ := className_of_methodNamed hn
  have hinitY : kY.init = .initialized := Cond.initialized_spec (findClass_of_methodNamed hn) hkY h3
  have h : At U g.method c below := by rw [hg]; exact X.here
  have happ : (headSpec ws rm).appliesLoose y e.platform (U.calling g mk a) = true :=
    Spec.appliesLoose_calling (g := g) h hdg hn hkY hinitY
      (X.room_calling (g := g) (R' := (headSpec ws rm).room) hsize hmY hcY hframes (by rw [hlY]; show _ + _ + rm.locals ≤ _; omega) (by show _ + rm.cells ≤ _; omega) (by show _ + rm.slots ≤ _; omega)) h1
  obtain ⟨mid, hmid⟩ := h.above
  have hfr : (U.setTop g).frames = (.java g :: mid) ++ below := by rw [State.frames_setTop' g h.top, hmid]; rfl
  obtain ⟨o, s₂, hsteps, -, hend, hq⟩ := Steps.callFree hM p X.admits X.cas X.clock (acts := []) hfr happ (hblind _ _ _ _ hPc) trivial
  rw [State.frames_setTop' g h.top] at hend
  have hq' : tx_T cls (U.calling g mk a) o s₂ mc ms := hq
  obtain ⟨x, rfl, ⟨ce, i1, i2, i3⟩, hkeep, hW₂, e2, q2, q3, q4, q5, q6⟩ := hq'
  have e3 : s₂ = ({ (U.calling g mk a).setFrames s₂.frames with heap := s₂.heap, slotsUsed := s₂.slotsUsed } : State).setVm s₂.vm := by
    have : s₂ = ({ s₂ with vm := (U.calling g mk a).vm } : State).setVm s₂.vm := rfl
    rw [e2] at this
    exact this
  have hf₂ : s₂.frames = .throwing x :: .java g :: U.frames.tail := hend
  have hW' : U.WarmedH s₂.vm := hW₂
  obtain ⟨g₀, hg0⟩ := Option.isSome_iff_exists.mp h.top
  obtain ⟨r, hr⟩ := State.topJava?_eq_some.mp hg0
  have hs₂ : s₂ = ((({ U with heap := s₂.heap, slotsUsed := s₂.slotsUsed } : State).setVm s₂.vm).setTop g).pushFrame (.throwing x) := by
    have hr' : (({ U with heap := s₂.heap, slotsUsed := s₂.slotsUsed } : State).setVm s₂.vm).frames = .java g₀ :: r := hr
    refine e3.trans ?_
    rw [hf₂, State.calling_eq h.top, State.setFrames_setFrames, State.pushFrame, State.frames_setTop _ hr', State.setTop_of_frames _ hr', State.setFrames_setFrames, hr]
    rfl
  have hsame : U.sameButNew ({ U with heap := s₂.heap, slotsUsed := s₂.slotsUsed } : State) [] mc ms := by
    refine ⟨?_, q2, q3, q4, q5, q6⟩
    obtain ⟨t, ht, -⟩ := State.frames_cons hr
    show ({ U with heap := s₂.heap, slotsUsed := s₂.slotsUsed } : State) = { U.setFrames U.frames with heap := s₂.heap, slotsUsed := s₂.slotsUsed }
    rw [State.setFrames_self ht]
  have hXX := X.same.trans (hsame.setVm s.vm)
  rw [List.append_nil] at hXX
  subst hg
  refine ⟨x, ({ U with heap := s₂.heap, slotsUsed := s₂.slotsUsed } : State).setVm s₂.vm,
    ⟨X.admits, X.cas, X.clock, X.frames, X.room, X.hears, X.method, X.code, (X.here.setHeapUsed s₂.heap s₂.slotsUsed).setVm hW'.alike, X.tail, State.WarmedH.trans X.warmed hW', X.limits, X.bytes, hXX⟩, ⟨ce, i1, i2, ?_⟩, q2, hkeep, ?_⟩
  · rw [← X.warmed.alike.findClass]
    exact i3
  · rw [← hs₂]
    exact hsteps
/-- the handler at hpc takes an object of the class cls thrown at pc: the first row of the table, or the second behind one that names a class that it isn't of -/
def tx_H (own : String) (c : Code) (s : State) (args : Array Value) (cls : String) (pc hpc : Nat) : Prop :=
  (∃ (x : ExceptionTableEntry) (r : List ExceptionTableEntry), c.exceptionTable.toList = x :: r ∧ covers x pc = true ∧ x.catchType ≠ 0 ∧ x.handlerPc = hpc ∧ (Cond.classLink own x.catchType cls).before args s = true) ∨
  (∃ (w x : ExceptionTableEntry) (r : List ExceptionTableEntry) (other : String), c.exceptionTable.toList = w :: x :: r ∧ covers w pc = true ∧ w.catchType ≠ 0 ∧ (Cond.classLink own w.catchType other).before args s = true ∧ va_Nc cls other s ∧
    covers x pc = true ∧ x.catchType ≠ 0 ∧ x.handlerPc = hpc ∧ (Cond.classLink own x.catchType cls).before args s = true)
theorem tx_self (vm : Vm) (k : ClassId) : vm.assignable k k = true := by
  show vm.assignableAux (255 + 1) k k = true
  rw [Vm.assignableAux]
  simp
theorem tx_catch {own cls : String} {pc hpc : Nat} {ls : Array Slot} {st : List Value} {x : Addr} {V : State} (hown : s.vm.findClass own = some m.cls) (hcat : tx_H own c s args cls pc hpc) (X : Stand p l e R s m args below meth c V locs cells slots) (hx : tx_Is cls s V.heap x) :
    ∃ vm', Stand p l e R s m args below meth c (V.setVm vm') locs cells slots ∧ ∀ target, Steps p.tables e below ((V.setVm vm').setTop (F0 m hpc ls [.ref x])) target → Steps p.tables e below ((V.setTop (F0 m pc ls st)).pushFrame (.throwing x)) target := by
  have hpl : e.platform.magicAccessors = ({} : Platform).magicAccessors := by rw [X.admits.platform]
  obtain ⟨ce, i1, i2, i3⟩ := hx
  obtain ⟨k0, hk0⟩ := Vm.classAt_of_findClass i3
  have hobj := VmData.ne_statics_of i2
  rcases hcat with ⟨x1, r, hs, hc, h0, rfl, hl⟩ | ⟨w, x1, r, other, hs, hcw, h0w, hlw, hno, hc, h0, rfl, hl⟩
  · obtain ⟨c', hc', hcl⟩ := Cond.classLink_spec hown hl e.platform hpl
    cases i3.symm.trans hc'
    obtain ⟨dk, _, _, kt, hd, _, _, _, _, hkt, _, hopen⟩ := hcl.here
    obtain ⟨k0', hk0', -⟩ := X.warmed.alike.2.2 _ _ hk0
    refine ⟨_, X.noted (X.warmed.noted hd hopen (State.rightAt_cls hcl)), fun target hrest => tx_caught (g := F0 m pc ls st) X.here (fun Q E d acts => ?_) hrest⟩
    rw [W.findHandler_eq (s := (V.setTop (F0 m pc ls st)).pushFrame (.throwing x)) (f := F0 m pc ls st) X.method' X.code, hs]
    rw [tx_go (S := (V.setTop (F0 m pc ls st)).pushFrame (.throwing x)) (f := F0 m pc ls st) hc h0 (X.warmed.classLinks hcl) i1 hobj ⟨k0', hk0'⟩ ⟨k0', hk0'⟩ true (tx_self _ _), if_pos rfl]
    rfl
  · obtain ⟨cN, tN9, hn1, hn2, hn3⟩ := hno
    cases i3.symm.trans hn1
    obtain ⟨c', hc', hcl⟩ := Cond.classLink_spec hown hl e.platform hpl
    cases i3.symm.trans hc'
    obtain ⟨c2, hc2, hclw⟩ := Cond.classLink_spec hown hlw e.platform hpl
    cases hn2.symm.trans hc2
    obtain ⟨dk, _, _, kt, hd, _, _, _, _, hkt, _, hopen⟩ := hcl.here
    obtain ⟨dk2, _, _, kt2, hd2, _, _, _, _, hkt2, _, hopen2⟩ := hclw.here
    obtain ⟨k0', hk0', -⟩ := X.warmed.alike.2.2 _ _ hk0
    obtain ⟨kt2', hkt2', -⟩ := X.warmed.alike.2.2 _ _ hkt2
    have X2 := X.noted (X.warmed.noted hd2 hopen2 (State.rightAt_cls hclw))
    obtain ⟨k0'', hk0'', -⟩ := X2.warmed.alike.2.2 _ _ hk0
    refine ⟨_, X.noted (X2.warmed.noted hd hopen (State.rightAt_cls hcl)), fun target hrest => tx_caught (g := F0 m pc ls st) X.here (fun Q E d acts => ?_) hrest⟩
    rw [W.findHandler_eq (s := (V.setTop (F0 m pc ls st)).pushFrame (.throwing x)) (f := F0 m pc ls st) X.method' X.code, hs]
    rw [tx_go (S := (V.setTop (F0 m pc ls st)).pushFrame (.throwing x)) (f := F0 m pc ls st) hcw h0w (X.warmed.classLinks hclw) i1 hobj ⟨k0', hk0'⟩ ⟨kt2', hkt2'⟩ false (by rw [← hn3]; exact X.warmed.alike.assignable _ _), if_neg (by decide)]
    refine (tx_go (S := ((V.setTop (F0 m pc ls st)).pushFrame (.throwing x)).setVm (V.vm.noted m.cls w.catchType (.cls tN9))) (f := F0 m pc ls st) hc h0 (X2.warmed.classLinks hcl) i1 hobj ⟨k0'', hk0''⟩ ⟨k0'', hk0''⟩ true (tx_self _ _)).trans ?_
    rw [if_pos rfl]
    rfl
/-- a call of a method that throws, caught in the caller -/
theorem tx_callT {y : MethodName} {ws : List Cond} {rm : Room} {Pc : Array Value → State → Prop} {cls : String} {mc ms nL maxL n index pc hpc : Nat} {bytes cc : ByteArray} {ret : Option FieldType} {Ts : List Cond} {own C : String} {b : Addr} {As rest st : List Value} {ls : Array Slot}
    (S : CallFix p m c cc nL s args Ts own) (hM : MetT l y ws rm Pc cls mc ms) (cw : CallW R s args own C index y bytes maxL ret ws rm mc ms n) (hp : PreV s H C b Pc As) (hst : st = As.reverse ++ .ref b :: rest)
    (hn : As.length = n) (hsize : ls.size = nL) (hW : (rest.map fun v => v.category).sum ≤ 8) (hdg : decode cc pc = .ok (.invokevirtual index, 3)) (hf : cells + mc ≤ R.cells ∧ slots + ms ≤ R.slots) (hcat : tx_H own c s args cls pc hpc)
    (kk : ∀ (x : Addr) (H1 : Heap), H.size ≤ H1.size → (∀ q : Nat, q < H.size → H1[q]? = H[q]?) → W p l e R s m args below meth c H1 locs (cells + mc) (slots + ms) Q (F0 m hpc ls [.ref x])) :
    W p l e R s m args below meth c H locs cells slots Q (F0 m pc ls st) := by
  obtain ⟨⟨hrc, hrs, hfr, hlo, hws, hcw, hcode, hini, hy, hlen, hl⟩, hin, hse⟩ := cw
  obtain ⟨hx, hb, hml, ho, -⟩ := S
  obtain ⟨hbl, ⟨cellB, hcB, hoB, hclB⟩, hPc⟩ := hp
  subst hst
  intro T hT X
  obtain ⟨mk, methM, hnamed, hmethM, hstM, habM⟩ := Cond.instanceMethod_spec hin
  obtain ⟨methM', cM, hmethM', -, -, -, -, -, -, hsigM⟩ := Cond.code_spec hnamed hcode
  cases hmethM.symm.trans hmethM'
  obtain ⟨c2, r2, m2, q1, q2, q3, q4, kP, hkP, hkPi⟩ := Cond.selects_spec hse
  cases hclB.symm.trans q1
  cases (State.methodFound?_of_named hnamed hy).symm.trans q2
  cases hnamed.symm.trans q3
  have hselP : selectMethod e.platform s.vm cellB.cls mk = .method mk := by rw [Launch.admits_selectMethod X.admits]; exact q4
  obtain ⟨vm₁, X₁, hstep₁⟩ := X.invokevirtual hx ho hl hnamed hmethM hstM hkP hkPi hy (a := b) (cell := cellB) (by rw [hT]; exact hcB)
    (fun z h => by rw [h] at hoB; cases hoB) hselP hmethM habM hkP hkPi (g := F0 m pc ls (As.reverse ++ .ref b :: rest)) rfl (argsL := As) (rest := rest) (hn.trans (hlen _ hsigM)) rfl (by rw [hb]; exact hdg)
  obtain ⟨x, V, X2, hIs, hz, hk, hsteps⟩ := tx_back (W9 := 8) hM hbl hrc hrs hfr hlo hws hcw (fun a' U hW => word_at hW (Or.inl (by first | rfl | simp [Cond.onTables, Cond.keeps, Cond.steady])) hini) X₁
    (g := F0 m pc ls rest) (ig := .invokevirtual index) (mk := mk) (a := (Value.ref b :: As).toArray) rfl (hsize.trans hml.symm) (by rw [hb]; exact hdg) (by show 2 * 0 + (rest.map fun v => v.category).sum ≤ 8; omega) (X₁.named hnamed) hf.1 hf.2 (hPc _ hT X₁.warmed)
  obtain ⟨vm2, X3, hcome⟩ := tx_catch (ls := ls) (st := rest) ho hcat X2 hIs
  have hz' : H.size ≤ V.heap.size := by rw [← hT]; exact hz
  have hk' : ∀ q : Nat, q < H.size → V.heap[q]? = H[q]? := fun q hq => by rw [← hT] at hq ⊢; exact hk q hq
  obtain ⟨t, a1, b1⟩ := kk x V.heap hz' hk' (V.setVm vm2) rfl X3
  refine ⟨t, hstep₁ _ fun acts => ?_, b1⟩
  rw [doInvoke_state]
  exact hsteps.trans (hcome t a1)
end TXC
