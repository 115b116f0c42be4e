/-! What is said of the tables beside TB, and the two statics of Throwable: one bundle that a method hands to its callees. Mine. -/
def tx_iae : String := "java/lang/IllegalArgumentException"
def tx_ise : String := "java/lang/IllegalStateException"
def tx_L : List Cond := [.declares (Bundle.init0 "java/lang/RuntimeException"), .declares (Bundle.init0 "java/lang/Exception"), .declares (Bundle.init0 "java/lang/Throwable"), .castable tx_iae tx_iae, .castable tx_ise tx_ise]
def y_in : MethodName := ⟨"SheetWar", "in", "(II)Z"⟩
def y_bit : MethodName := ⟨"SheetWar", "bit", "(I)I"⟩
def y_wmi : MethodName := ⟨"SheetWar$WarMap", "<init>", "()V"⟩
def tx_st (n d : String) (a : Nat) (cell : Cell) (U : State) : Prop :=
  ∃ (c : ClassId) (k : Class) (i : Nat) (f : Field) (v : Value), U.vm.findClass Bundle.tN = some c ∧ U.fieldFound? Bundle.tN n d = some (c, k, i, f) ∧ f.isStatic = true ∧ k.statics = some a ∧ cell.vm.isStatics = true ∧ cell.cls = c ∧ f.slot < cell.slots.size ∧ k.staticTypes[f.slot]? = some f.type ∧ cell.slots[f.slot]? = some v ∧ v.isRef = true
theorem tx_st.moved {n d : String} {a : Nat} {cell : Cell} {s U : State} (hvm : s.vm.Alike U.vm) (h : tx_st n d a cell s) : tx_st n d a cell U := by
  obtain ⟨c, k, i, f, v, h1, h2, h3, h4, h5, h6, h7, h8, h9, h10⟩ := h
  obtain ⟨k', hi', he⟩ := State.fieldFound?_setVm hvm h2
  exact ⟨c, k', i, f, v, by rw [hvm.findClass]; exact h1, hi', h3, by rw [he]; exact h4, h5, h6, h7, by rw [he]; exact h8, h9, h10⟩
theorem tx_st.lays {n d : String} {a : Nat} {cell : Cell} {s : State} {args : Array Value} (h : tx_st n d a cell s) (hc : s.heap[a]? = some cell) : (Cond.laysStatic Bundle.tN n d).before args s = true := by
  obtain ⟨c, k, i, f, v, h1, h2, h3, h4, h5, h6, h7, h8, h9, h10⟩ := h
  exact Cond.laysStatic_of h1 h2 h3 h4 hc h5 h6 h7 h8
theorem tx_st.ref {n d : String} {a : Nat} {cell : Cell} {s : State} {args : Array Value} (h : tx_st n d a cell s) (hc : s.heap[a]? = some cell) : (Cond.isRef (.static Bundle.tN n d)).before args s = true := by
  obtain ⟨c, k, i, f, v, h1, h2, h3, h4, h5, h6, h7, h8, h9, h10⟩ := h
  have he : (Term.static Bundle.tN n d).eval args s none [] s = some v := by
    simp [Term.eval, State.fieldNamed?, h2, h3, h4, hc, h5, h9]
  simp only [Cond.before, Cond.holds, Cond.value, he]
  cases v <;> simp [Value.isRef] at h10 ⊢
theorem tx_st.of {n d : String} {s : State} {args : Array Value} (hl : (Cond.laysStatic Bundle.tN n d).before args s = true) (hr : (Cond.isRef (.static Bundle.tN n d)).before args s = true) : ∃ (a : Nat) (cell : Cell), s.heap[a]? = some cell ∧ tx_st n d a cell s ∧ ∀ c k, s.vm.findClass Bundle.tN = some c → s.vm.classes[c]? = some k → k.statics = some a := by
  obtain ⟨c, k, i, f, a, cell, hc, hi, hst, ha, hcell, hs, hcls, hlt, hty⟩ := Cond.laysStatic_spec hl
  have hv : cell.slots[f.slot]? = some cell.slots[f.slot] := Array.getElem?_eq_getElem hlt
  have he : (Term.static Bundle.tN n d).eval args s none [] s = some cell.slots[f.slot] := by
    simp [Term.eval, State.fieldNamed?, hi, hst, ha, hcell, hs, hv]
  refine ⟨a, cell, hcell, ⟨c, k, i, f, cell.slots[f.slot], hc, hi, hst, ha, hs, hcls, hlt, hty, hv, ?_⟩, fun c' k' h1 h2 => ?_⟩
  · simp only [Cond.before, Cond.holds, Cond.value, he] at hr
    cases hz : cell.slots[f.slot] <;> simp [hz] at hr <;> rfl
  · cases hc.symm.trans h1
    cases ((State.fieldFound?_spec hi).1).symm.trans h2
    exact ha
def tx_K (aT : Nat) (ceT : Cell) (U : State) : Prop :=
  U.heap[aT]? = some ceT ∧ tx_st "UNASSIGNED_STACK" Bundle.steD aT ceT U ∧ tx_st "SUPPRESSED_SENTINEL" Bundle.listD aT ceT U ∧ (∀ w ∈ tx_L, w.before #[] U = true) ∧
  va_Nw (.methodLinkNest "SheetWar" 9 y_wmi "SheetWar") U ∧ va_Nw (.methodLinkNest "SheetWar$WarMap" 32 y_in "SheetWar") U ∧ va_Nw (.methodLinkNest "SheetWar$WarMap" 25 y_bit "SheetWar") U ∧ va_Nw (.methodLinkNest "SheetWar$Settling" 83 y_in "SheetWar") U ∧ va_Nw (.methodLinkNest "SheetWar$Settling" 131 y_bit "SheetWar") U ∧
  va_AO "SheetWar$Sheet" U ∧ va_Nc tx_ise tx_iae U
theorem tx_K.moved {aT : Nat} {ceT : Cell} {s U : State} (hW : s.WarmedH U.vm) (hh : U.heap[aT]? = s.heap[aT]?) (h : tx_K aT ceT s) : tx_K aT ceT U := by
  obtain ⟨h1, h2, h3, h4, h5, h6, h7, h8, h9, h10, h11⟩ := h
  refine ⟨hh.trans h1, h2.moved hW.alike, h3.moved hW.alike, fun w hw => ?_, va_Nw.warmM hW h5, va_Nw.warmM hW h6, va_Nw.warmM hW h7, va_Nw.warmM hW h8, va_Nw.warmM hW h9, va_AO.moved hW.alike h10, va_Nc.moved hW.alike h11⟩
  have h0 := h4 w hw
  simp only [tx_L, List.mem_cons, List.not_mem_nil, or_false] at hw
  rcases hw with rfl | rfl | rfl | rfl | rfl <;> exact va_tabs rfl (rfl : (s.setVm U.vm).vm = U.vm) (Cond.before_warmed hW _ trivial h0)
theorem tx_K.calling {aT : Nat} {ceT : Cell} {U : State} {g : JFrame} {mk : MethodId} {a : Array Value} (h : tx_K aT ceT U) : tx_K aT ceT (U.calling g mk a) := tx_K.moved (State.WarmedH.refl U) rfl h
def tx_N : List Cond := [.isRef (.static Bundle.tN "UNASSIGNED_STACK" Bundle.steD), .isRef (.static Bundle.tN "SUPPRESSED_SENTINEL" Bundle.listD), .laysStatic Bundle.tN "UNASSIGNED_STACK" Bundle.steD, .laysStatic Bundle.tN "SUPPRESSED_SENTINEL" Bundle.listD]
theorem tx_K.words {aT : Nat} {ceT : Cell} {s : State} {args : Array Value} (h : tx_K aT ceT s) : ∀ w ∈ tx_N ++ tx_L, w.before args s = true := by
  obtain ⟨h1, h2, h3, h4, -⟩ := h
  intro w hw
  rcases List.mem_append.mp hw with hw | hw
  · simp only [tx_N, List.mem_cons, List.not_mem_nil, or_false] at hw
    rcases hw with rfl | rfl | rfl | rfl
    · exact h2.ref h1
    · exact h3.ref h1
    · exact h2.lays h1
    · exact h3.lays h1
  · have h0 := h4 w hw
    simp only [tx_L, List.mem_cons, List.not_mem_nil, or_false] at hw
    rcases hw with rfl | rfl | rfl | rfl | rfl <;> exact va_tabs rfl rfl h0
def tx_up : List String := ["java/lang/RuntimeException", "java/lang/Exception"]
theorem tx_all1 : ((Bundle.ownAtoms0 "SheetWar" 52 tx_iae tx_up).all (fun w => decide (w ∈ TB) || decide (w ∈ tx_N ++ tx_L))) = true := by decide +kernel
theorem tx_all2 : ((Bundle.ownAtoms0 "SheetWar" 62 tx_ise tx_up).all (fun w => decide (w ∈ TB) || decide (w ∈ tx_N ++ tx_L))) = true := by decide +kernel
theorem tx_own1 {aT : Nat} {ceT : Cell} {s : State} {args : Array Value} (hts : ∀ w ∈ TB, w.before args s = true) (h : tx_K aT ceT s) : ∀ w ∈ Bundle.ownAtoms0 "SheetWar" 52 tx_iae tx_up, w.before args s = true := fun w hw => by
  have h1 := List.all_eq_true.mp tx_all1 w hw
  simp only [Bool.or_eq_true, decide_eq_true_eq] at h1
  exact h1.elim (hts w) (h.words w)
theorem tx_own2 {aT : Nat} {ceT : Cell} {s : State} {args : Array Value} (hts : ∀ w ∈ TB, w.before args s = true) (h : tx_K aT ceT s) : ∀ w ∈ Bundle.ownAtoms0 "SheetWar" 62 tx_ise tx_up, w.before args s = true := fun w hw => by
  have h1 := List.all_eq_true.mp tx_all2 w hw
  simp only [Bool.or_eq_true, decide_eq_true_eq] at h1
  exact h1.elim (hts w) (h.words w)
