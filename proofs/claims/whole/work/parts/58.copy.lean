/-! System.arraycopy of a whole array of 12; an array of references read at a number. Mine. -/
section TC
variable {p : Program} {l : Launch} {e : Env} {R : Room} {s : State} {m : MethodId} {args : Array Value} {below : List Frame} {meth : Method} {c : Code} {H : Heap} {locs : List Loc} {cells slots : Nat} {Q : State → Prop}
variable {cc : ByteArray} {pc : Nat} {ls : Array Slot} {rest : List Value} {D : va_G} {cl : List vw_C} {A : Nat → Prop} {tys : List (ClassId × FieldType)} {ws : va_W} {H0 : Heap} {a a0 : Nat}
theorem tc_all (f g : Nat → Int32) (cA : ClassId) : vp_cell cA (12, .inl (va_cpy f g (0 : Int32).toNatClampNeg (0 : Int32).toNatClampNeg (12 : Int32).toNatClampNeg)) = vp_cell cA (12, .inl f) := tn_congr (fun j hj => by
  show (if 0 ≤ j ∧ j < 0 + 12 then f (0 + (j - 0)) else g j) = f j
  rw [if_pos ⟨Nat.zero_le _, by omega⟩]
  congr 1
  omega)
theorem tc_P {q1 : Nat} {cA : ClassId} {f g h : Nat → Int32} (hl : q1 < ws.length) (e : vp_cell cA (12, .inl g) = vp_cell cA (12, .inl f)) (hP : va_P D cl (ws.set q1 (a, .inl (cA, 12, .inl g))) H) : va_P D cl (ws.set q1 (a, .inl (cA, 12, .inl f))) H := by
  intro k q hk
  by_cases h1 : k = q1
  · subst h1
    rw [List.getElem?_set_self hl] at hk
    cases hk
    have h2 := hP k _ (List.getElem?_set_self hl)
    show H[a]? = some (vp_cell cA (12, .inl f))
    rw [← e]
    exact h2
  · rw [List.getElem?_set_ne (fun h => h1 h.symm)] at hk
    exact hP k q (by rw [List.getElem?_set_ne (fun h => h1 h.symm)]; exact hk)
theorem tr_cpy (hexec : p.tables.exec = Jvm.exec) (hb : c.code = cc) (hml : c.maxLocals = ls.size) {own : String} {index : Nat} (hown : s.vm.findClass own = some m.cls) (hlink : (Cond.methodLink own index arraycopyName).before args s = true) (hnat : (Cond.native arraycopyName).before args s = true) (hstat : (Cond.static arraycopyName).before args s = true) (hini : (Cond.initialized "java/lang/System").before args s = true)
    (hK : va_K D cl tys s) (hP : va_P D cl ws H) (hD : va_D A ws) (hS : va_S A H0 H locs) (q0 q1 t0 : Nat) {cA : ClassId} {f g : Nat → Int32} (ha0 : ws[q0]? = some (a0, .inl (cA, 12, .inl f))) (ha1 : ws[q1]? = some (a, .inl (cA, 12, .inl g))) (ht0 : tys[t0]? = some (cA, .int))
    (hframes : 1 ≤ R.frames) (hlocals : (rest.map fun v => v.category).sum + (nativeFrameWords "java/lang/System" "arraycopy" 5 + 11) ≤ R.locals) (hdg : decode cc pc = .ok (.invokestatic index, 3))
    (kk : ∀ (H1 : Heap) (locs1 : List Loc), va_P D cl (ws.set q1 (a, .inl (cA, 12, .inl f))) H1 → va_D A (ws.set q1 (a, .inl (cA, 12, .inl f))) → va_S A H0 H1 locs1 → W p l e R s m args below meth c H1 locs1 cells slots Q (F0 m (pc + 3) ls rest)) : W p l e R s m args below meth c H locs cells slots Q (F0 m pc ls (.int 12 :: .int 0 :: .ref a :: .int 0 :: .ref a0 :: rest)) :=
  va_copyi hexec hb hml hown hlink hnat hstat hini hK hP hD hS q0 q1 t0 t0 ha0 ha1 ht0 ht0 rfl (by decide) (by decide) (by decide) (by decide) (by decide) (fun _ _ => rfl) hframes hlocals hdg
    (fun H1 locs1 hP1 _ hS1 => kk H1 locs1 (tc_P (h := f) (List.getElem?_eq_some_iff.mp ha1).1 (tc_all f g cA) hP1) (hD.set ha1) hS1)
theorem tr_aald (hexec : p.tables.exec = Jvm.exec) (hb : c.code = cc) (hK : va_K D cl tys s) (hP : va_P D cl ws H) (q0 t0 : Nat) {cA : ClassId} {C : String} {n : Nat} {f : Nat → Option Nat} (ha : ws[q0]? = some (a, .inl (cA, n, .inr (.inr (.inr (.inr f)))))) (ht : tys[t0]? = some (cA, .object C)) (k : Nat) (hlt : k < n) (hn : n < 2 ^ 31) {q : Nat} (hv : f k = some q) (hdg : decode cc pc = .ok (.aaload, 1))
    (kk : W p l e R s m args below meth c H locs cells slots Q (F0 m (pc + 1) ls (.ref q :: rest))) : W p l e R s m args below meth c H locs cells slots Q (F0 m pc ls (.int (nI k) :: .ref a :: rest)) := by
  refine va_aldq hexec hb hK hP q0 t0 ha ht (vp_in_nI hlt hn) hdg ?_
  rw [nI_clamp (Nat.lt_trans hlt hn), hv]
  exact kk
end TC
theorem nI_pre {k : Nat} (h : ¬ k = 0) : nI k - 1 = nI (k - 1) := by
  obtain ⟨j, rfl⟩ : ∃ j, k = j + 1 := ⟨k - 1, by omega⟩
  rw [← nI_1 j, Nat.add_sub_cancel]
  generalize nI j = x
  exact Int32.add_sub_cancel x 1
