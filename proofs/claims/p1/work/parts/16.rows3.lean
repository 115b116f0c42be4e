section TXD
variable {p : Program} {l : Launch} {e : Env} {R : Room} {s : State} {m : MethodId} {args : Array Value} {below : List Frame} {meth : Method} {c : Code} {H : Heap} {locs : List Loc} {cells slots : Nat} {Q : State → Prop}
/-- 'throw new X()': new, dup, invokespecial, athrow -/
theorem tx_throwNew {cc : ByteArray} {pc ic icl n : Nat} {ls : Array Slot} {rest : List Value} {own cls : String} {names : List String} (hexec : p.tables.exec = Jvm.exec) (hb : c.code = cc) (hno : c.exceptionTable.isEmpty = true) (hfl : l.flags = pinnedFlags ++ [noTraceFlag]) (hlocks : meth.locks = false)
    (hown : s.vm.findClass own = some m.cls) (hcls : Bundle.fit cls = true) (hnames : ∀ n ∈ names, Bundle.fit n = true) (hat : ∀ w ∈ Bundle.ownAtoms0 own ic cls names, w.before args s = true)
    (hclink : (Cond.classLink own icl cls).before args s = true) (hins : (Cond.instantiable cls n).before args s = true) (hinit : (Cond.initialized cls).before args s = true)
    (hsz : ls.size = c.maxLocals) (d0 : decode cc pc = .ok (.new icl, 3)) (d3 : decode cc (pc + 3) = .ok (.dup, 1)) (d4 : decode cc (pc + 4) = .ok (.invokespecial ic, 3)) (d7 : decode cc (pc + 7) = .ok (.athrow, 1))
    (hR : names.length + 3 < R.frames) (hR2 : 1 + (rest.map fun v => v.category).sum + (13 * (names.length + 1) + 41) ≤ R.locals) (hcells : cells + 1 ≤ R.cells) (hslots : slots + n ≤ R.slots) (hH : s.heap.size ≤ H.size) :
    W p l e R s m args below meth c H [] cells slots (tx_Q below cls s (cells + 1) (slots + n)) (F0 m pc ls rest) := by
  refine W.newc hexec hb hown hclink hins hinit rfl d0 hcells hslots (fun cC kC h1 h2 h3 h4 => ?_)
  refine W.eq (g2 := F0 m (pc + 3) ls (.ref H.size :: rest)) rfl ?_
  refine lv_dup hexec hb d3 rfl ?_
  exact tx_throw hexec hb hno hfl hlocks hown hcls hnames hat h1 h2 (by rw [Array.getElem?_push_size]) hH hsz d4 d7 hR (by
    simp only [List.map_cons, List.sum_cons]
    show 1 + _ + _ ≤ _
    exact hR2)
end TXD
/-- what 'area' asks of its arguments -/
def okA (k ce h : Int32) : Prop := (k = 0 ∨ k = 1) ∧ (h = -1 ∨ (0 ≤ h ∧ h < 4)) ∧ (¬ ce = 0 → ¬ k = 1) ∧ (ce = 0 → h = -1)
