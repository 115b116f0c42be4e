/-! What is known at the law's entry. Mine. -/
theorem tk_known {s : State} {args : Array Value} (hts : ∀ w ∈ TB, w.before args s = true) (hao : va_AO "SheetWar$Sheet" s) (i0 : Cond.instantiable R_As 4 ∈ TB) (i1 : Cond.instantiable R_Pa 3 ∈ TB) (i2 : Cond.instantiable R_Se 17 ∈ TB) (i3 : Cond.instantiable R_Sh 7 ∈ TB) (i4 : Cond.instantiable R_Wm 5 ∈ TB) (i5 : Cond.instantiable R_Sw 6 ∈ TB) (i6 : Cond.instantiable R_Mo 24 ∈ TB)
    (aI : Cond.arrayClass .int ∈ TB) (aZ : Cond.arrayClass .boolean ∈ TB) (aJ : Cond.arrayClass .long ∈ TB) : ∃ (D : va_G) (cI cZ cJ cS : ClassId), va_K D vwCl (tTy cI cZ cJ cS) s := by
  obtain ⟨c0, s0, h0⟩ := u_known hts hin_As (hts _ i0)
  obtain ⟨c1, s1, h1⟩ := u_known hts hin_Pa (hts _ i1)
  obtain ⟨c2, s2, h2⟩ := u_known hts hin_Se (hts _ i2)
  obtain ⟨c3, s3, h3⟩ := u_known hts hin_Sh (hts _ i3)
  obtain ⟨c4, s4, h4⟩ := u_known hts hin_Wm (hts _ i4)
  obtain ⟨c5, s5, h5⟩ := u_known hts hin_Sw (hts _ i5)
  obtain ⟨c6, s6, h6⟩ := u_known hts hin_Mo (hts _ i6)
  obtain ⟨cI, kI, mI, a1, a2, a3⟩ := Cond.arrayClass_spec (hts _ aI)
  obtain ⟨cZ, kZ, mZ, b1, b2, b3⟩ := Cond.arrayClass_spec (hts _ aZ)
  obtain ⟨cJ, kJ, mJ, d1, d2, d3⟩ := Cond.arrayClass_spec (hts _ aJ)
  obtain ⟨mS, cS, kS, e1, e2, e3, e4, e5⟩ := Cond.arrayOver_spec hao
  refine ⟨(fun k => match k with | 0 => c0 | 1 => c1 | 2 => c2 | 3 => c3 | 4 => c4 | 5 => c5 | _ => c6, fun k => match k with | 0 => s0 | 1 => s1 | 2 => s2 | 3 => s3 | 4 => s4 | 5 => s5 | _ => s6), cI, cZ, cJ, cS, fun k q hk => ?_, fun k q hk => ?_⟩
  · match k, hk with
    | 0, hk => cases hk; exact h0
    | 1, hk => cases hk; exact h1
    | 2, hk => cases hk; exact h2
    | 3, hk => cases hk; exact h3
    | 4, hk => cases hk; exact h4
    | 5, hk => cases hk; exact h5
    | 6, hk => cases hk; exact h6
    | k + 7, hk => cases hk
  · match k, hk with
    | 0, hk => cases hk; exact ⟨fun n z => ⟨fun k h => (by cases h), kI, a2, mI, a3⟩, a1⟩
    | 1, hk => cases hk; exact ⟨fun n z => ⟨fun k h => (by cases h), kZ, b2, mZ, b3⟩, b1⟩
    | 2, hk => cases hk; exact ⟨fun n z => ⟨fun k h => (by cases h), kJ, d2, mJ, d3⟩, d1⟩
    | 3, hk => cases hk; exact ⟨fun n z => ⟨fun k h => (by cases h), kS, e3, mS, e4⟩, kS, mS, e3, e4, e1, e5⟩
    | k + 4, hk => cases hk
theorem tk_X {s : State} {args : Array Value} (hts : ∀ w ∈ lw_tbl, w.before args s = true) (hgv : (Jvm.Cond.and given_1 narrow_1).before args s = true) : ∃ (aT : Nat) (ceT : Cell), tx_K aT ceT s := by
  have hg := flat_of_before _ hgv
  obtain ⟨a, ce, h1, h2, h3⟩ := tx_st.of (n := "UNASSIGNED_STACK") (d := Bundle.steD) (hts _ (by decide +kernel)) (hg _ (by decide +kernel))
  obtain ⟨a', ce', g1, g2, g3⟩ := tx_st.of (n := "SUPPRESSED_SENTINEL") (d := Bundle.listD) (hts _ (by decide +kernel)) (hg _ (by decide +kernel))
  have h2' := h2
  obtain ⟨c, k, i, f, v, q1, q2, q3, q4, -⟩ := h2'
  have e1 : some a = some a' := q4.symm.trans (g3 c k q1 (State.fieldFound?_spec q2).1)
  cases e1
  cases h1.symm.trans g1
  refine ⟨a, ce, h1, h2, g2, fun w hw => ?_, va_Nw.of rfl (hts _ (by decide +kernel)), va_Nw.of rfl (hts _ (by decide +kernel)), va_Nw.of rfl (hts _ (by decide +kernel)), va_Nw.of rfl (hts _ (by decide +kernel)), va_Nw.of rfl (hts _ (by decide +kernel)), va_AO.of (hts _ (by decide +kernel)), va_Nc.of (hg _ (by decide +kernel))⟩
  have hm : ∀ w ∈ tx_L, w ∈ lw_tbl := by decide +kernel
  have h0 := hts w (hm w hw)
  simp only [tx_L, List.mem_cons, List.not_mem_nil, or_false] at hw
  rcases hw with rfl | rfl | rfl | rfl | rfl <;> exact va_tabs rfl rfl h0
theorem tk_cnt : ∀ (k : Nat) (p : Int32), 0 ≤ p → cnt (fun _ => (-1)) p k = 0 ∧ cntU (fun _ => (-1)) p k = 0
  | 0, _, _ => ⟨rfl, rfl⟩
  | k + 1, p, h => by
    obtain ⟨h1, h2⟩ := tk_cnt k p h
    refine ⟨?_, ?_⟩
    · rw [cnt, h1, if_neg (fun e => ?_)]
      subst e
      exact absurd h (by decide)
    · rw [cntU, h2, if_neg (fun e => e.1 rfl)]
theorem tk_count0 (p w : Int32) : (if 0 ≤ p ∧ p < 4 then (if w = 0 then nI (cnt (fun _ => (-1)) p 12) else if w = 1 then nI (cntU (fun _ => (-1)) p 12) else 0) else 0) = (0 : Int32) := by
  by_cases h : 0 ≤ p ∧ p < 4
  · rw [if_pos h, (tk_cnt 12 p h.1).1, (tk_cnt 12 p h.1).2]
    split
    · rfl
    · split <;> rfl
  · rw [if_neg h]
