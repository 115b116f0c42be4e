/-! The start of a method, in one form for all; what a call of it asks. Mine. -/
abbrev tTy (cI cZ cJ cS : ClassId) : List (ClassId × FieldType) := [(cI, .int), (cZ, .boolean), (cJ, .long), (cS, .object "SheetWar$Sheet")]
/-- a method that only reads -/
def tP (D : va_G) (cI cZ cJ cS : ClassId) (aT : Nat) (ceT : Cell) (av : List Value) (ws : va_W) : Array Value → State → Prop := va_Pc av (fun U => va_P D vwCl ws U.heap ∧ va_K D vwCl (tTy cI cZ cJ cS) U ∧ tx_K aT ceT U)
/-- a method that writes or makes -/
def tH (D : va_G) (cI cZ cJ cS : ClassId) (aT : Nat) (ceT : Cell) (av : List Value) (sz : Nat) (ws : va_W) : Array Value → State → Prop := va_Pc av (fun U => U.heap.size = sz ∧ va_P D vwCl ws U.heap ∧ va_K D vwCl (tTy cI cZ cJ cS) U ∧ va_D (fun _ => True) ws ∧ tx_K aT ceT U)
abbrev tB (D : va_G) (A : Nat → Prop) (ws : va_W) (t : State) : Prop := va_P D vwCl ws t.heap ∧ va_D A ws
section TC
variable {D : va_G} {cI cZ cJ cS : ClassId} {aT : Nat} {ceT : Cell} {av As : List Value} {ws : va_W} {s : State} {H : Heap} {sz : Nat} {A : Nat → Prop} {b : Nat}
theorem tP_bl : FrameBlind (tP D cI cZ cJ cS aT ceT av ws) := fun a U g mk q => by
  obtain ⟨q0, q1, q2, q3⟩ := q
  exact ⟨q0, q1, va_K.moved (u := U) (U := U.calling g mk a) (Vm.Alike.refl U.vm) q2, q3.calling⟩
theorem tH_bl : FrameBlind (tH D cI cZ cJ cS aT ceT av sz ws) := fun a U g mk q => by
  obtain ⟨q0, q1, q2, q3, q4, q5⟩ := q
  exact ⟨q0, q1, q2, va_K.moved (u := U) (U := U.calling g mk a) (Vm.Alike.refl U.vm) q3, q4, q5.calling⟩
theorem tP_U (hK : va_K D vwCl (tTy cI cZ cJ cS) s) (hX : tx_K aT ceT s) (hXH : H[aT]? = s.heap[aT]?) (hP : va_P D vwCl ws H) (U : State) (hU : U.heap = H) (hW : s.WarmedH U.vm) : tP D cI cZ cJ cS aT ceT av ws av.toArray U :=
  ⟨rfl, by rw [hU]; exact hP, va_K.moved hW.alike hK, hX.moved hW (by rw [hU]; exact hXH)⟩
theorem tH_U (hK : va_K D vwCl (tTy cI cZ cJ cS) s) (hX : tx_K aT ceT s) (hXH : H[aT]? = s.heap[aT]?) (hP : va_P D vwCl ws H) (hD : va_D A ws) (U : State) (hU : U.heap = H) (hW : s.WarmedH U.vm) : tH D cI cZ cJ cS aT ceT av H.size ws av.toArray U :=
  ⟨rfl, by rw [hU], by rw [hU]; exact hP, va_K.moved hW.alike hK, hD.weaken (fun _ _ _ _ => trivial), hX.moved hW (by rw [hU]; exact hXH)⟩
theorem tP_V {q ci : Nat} {fs : List Value} {r : vw_C} (hK : va_K D vwCl (tTy cI cZ cJ cS) s) (hX : tx_K aT ceT s) (hXH : H[aT]? = s.heap[aT]?) (hP : va_P D vwCl ws H) (he : ws[q]? = some (b, .inr (ci, fs))) (hc : vwCl[ci]? = some r) : PreV s H r.1 b (tP D cI cZ cJ cS aT ceT (.ref b :: As) ws) As :=
  ⟨tP_bl, va_recv hK hP hc he, fun U hU hW => tP_U hK hX hXH hP U hU hW⟩
theorem tH_V {q ci : Nat} {fs : List Value} {r : vw_C} (hK : va_K D vwCl (tTy cI cZ cJ cS) s) (hX : tx_K aT ceT s) (hXH : H[aT]? = s.heap[aT]?) (hP : va_P D vwCl ws H) (hD : va_D A ws) (he : ws[q]? = some (b, .inr (ci, fs))) (hc : vwCl[ci]? = some r) : PreV s H r.1 b (tH D cI cZ cJ cS aT ceT (.ref b :: As) H.size ws) As :=
  ⟨tH_bl, va_recv hK hP hc he, fun U hU hW => tH_U hK hX hXH hP hD U hU hW⟩
theorem tP_S (hK : va_K D vwCl (tTy cI cZ cJ cS) s) (hX : tx_K aT ceT s) (hXH : H[aT]? = s.heap[aT]?) (hP : va_P D vwCl ws H) : PreS s H (tP D cI cZ cJ cS aT ceT As ws) As :=
  ⟨tP_bl, fun U hU hW => tP_U hK hX hXH hP U hU hW⟩
theorem tH_S (hK : va_K D vwCl (tTy cI cZ cJ cS) s) (hX : tx_K aT ceT s) (hXH : H[aT]? = s.heap[aT]?) (hP : va_P D vwCl ws H) (hD : va_D A ws) : PreS s H (tH D cI cZ cJ cS aT ceT As H.size ws) As :=
  ⟨tH_bl, fun U hU hW => tH_U hK hX hXH hP hD U hU hW⟩
theorem tx_far (hP : va_P D vwCl ws s.heap) (hX : tx_K aT ceT s) : ¬ va_A ws s.heap.size aT := by
  obtain ⟨hc, ⟨c, k, i, f, v, -, -, -, -, hs, -⟩, -⟩ := hX
  rintro (⟨k, e, hk⟩ | h)
  · have h1 := hP k (aT, e) hk
    cases e with
    | inl x =>
      have h2 : s.heap[aT]? = some (vp_cell x.1 x.2) := h1
      rw [hc] at h2
      cases h2
      have h3 : (vp_cell x.1 x.2).vm = .none := by
        unfold vp_cell
        split <;> rfl
      rw [h3] at hs
      cases hs
    | inr o =>
      obtain ⟨r, h2, cell, g1, g2, g3, g4⟩ := h1
      rw [hc] at g1
      cases g1
      rw [g3] at hs
      cases hs
  · have h1 := (Array.getElem?_eq_some_iff.mp hc).1
    omega
theorem tx_lt (hX : tx_K aT ceT s) : aT < s.heap.size := (Array.getElem?_eq_some_iff.mp hX.1).1
theorem tn_congr {cA : ClassId} {n : Nat} {f g : Nat → Int32} (h : ∀ j, j < n → f j = g j) : vp_cell cA (n, .inl f) = vp_cell cA (n, .inl g) := by
  rw [vp_cell_i, vp_cell_i]
  unfold arrV
  congr 2
  funext j
  show Value.int (f j.val) = Value.int (g j.val)
  rw [h j.val j.isLt]
end TC
theorem i32_m1 : (-1 : Int32).toInt = -1 := by decide
