theorem d_Ar_fill_0 : decode b_Ar_fill 0 = .ok (.iconst 0, 1) := by decide +kernel
theorem d_Ar_fill_1 : decode b_Ar_fill 1 = .ok (.istore_n 2, 1) := by decide +kernel
theorem d_Ar_fill_2 : decode b_Ar_fill 2 = .ok (.aload_n 0, 1) := by decide +kernel
theorem d_Ar_fill_3 : decode b_Ar_fill 3 = .ok (.arraylength, 1) := by decide +kernel
theorem d_Ar_fill_4 : decode b_Ar_fill 4 = .ok (.istore_n 3, 1) := by decide +kernel
theorem d_Ar_fill_5 : decode b_Ar_fill 5 = .ok (.iload_n 2, 1) := by decide +kernel
theorem d_Ar_fill_6 : decode b_Ar_fill 6 = .ok (.iload_n 3, 1) := by decide +kernel
theorem d_Ar_fill_7 : decode b_Ar_fill 7 = .ok (.if_icmp .ge 13, 3) := by decide +kernel
theorem d_Ar_fill_10 : decode b_Ar_fill 10 = .ok (.aload_n 0, 1) := by decide +kernel
theorem d_Ar_fill_11 : decode b_Ar_fill 11 = .ok (.iload_n 2, 1) := by decide +kernel
theorem d_Ar_fill_12 : decode b_Ar_fill 12 = .ok (.iload_n 1, 1) := by decide +kernel
theorem d_Ar_fill_13 : decode b_Ar_fill 13 = .ok (.iastore, 1) := by decide +kernel
theorem d_Ar_fill_14 : decode b_Ar_fill 14 = .ok (.iinc 2 1, 3) := by decide +kernel
theorem d_Ar_fill_17 : decode b_Ar_fill 17 = .ok (.goto (-12), 3) := by decide +kernel
theorem d_Ar_fill_20 : decode b_Ar_fill 20 = .ok (.return_, 1) := by decide +kernel

set_option maxHeartbeats 4000000 in
set_option maxRecDepth 100000 in
theorem c_Ar_fill (l : Launch) (D : va_G) (cI cZ cJ cS : ClassId) (aT : Nat) (ceT : Cell) (sz : Nat) (h0 n : Nat) (f : Nat → Int32) (v : Int32) (hn : n < 2 ^ 31) : Met l y_Ar_fill w_Ar_fill ({ frames := 0, cells := 0, slots := 0, locals := 0 }) (tH D cI cZ cJ cS aT ceT [.ref h0, .int v] sz [(h0, .inl (cI, n, .inl f))]) (va_Qv (fun _ : Unit => True) (fun _ t => tB D (va_A [(h0, .inl (cI, n, .inl f))] sz) [(h0, .inl (cI, n, .inl (fun _ => v)))] t) (va_A [(h0, .inl (cI, n, .inl f))] sz)) 0 0 (va_A [(h0, .inl (cI, n, .inl f))] sz) := by
  refine Met.ofW (cc := b_Ar_fill) (maxL := 4) (ret := none) (by decide) rfl ?_
  intro p e s m args below meth c s₁ B hml hv
  obtain ⟨rfl, hsz, hP, hK, hD0, hX⟩ := hv
  have hx := B.exec
  have hb := B.bytes
  have hr := B.returns
  have hts0 := atoms_spec (ws := w_Ar_fill) B.pre
  have hts : ∀ w ∈ TB, w.before _ s = true := fun w h => hts0 w (List.mem_cons_of_mem _ h)
  have hown : s.vm.findClass "java/util/Arrays" = some m.cls := findClass_of_methodNamed B.named
  have hlocks := B.notSynchronized
  subst hsz
  have hXl := tx_lt hX
  have hXn := tx_far hP hX
  have hD := hD0.self (sz := s.heap.size)
  generalize hAe : va_A [(h0, .inl (cI, n, .inl f))] s.heap.size = A at hD hXn ⊢
  have hA : ∀ q : Nat, s.heap.size ≤ q → A q := fun q h => by rw [← hAe]; exact Or.inr h
  have hS : va_S A s.heap s.heap [] := va_S.rf
  have hXH : s.heap[aT]? = s.heap[aT]? := rfl
  have hl := lv_entry ([.ref h0, .int v]) (n := 4) (Nat.le_of_ble_eq_true rfl)
  rw [lg_entry_eq]
  generalize (lg_sl ([.ref h0, .int v]) ++ List.replicate (4 - (lg_sl ([.ref h0, .int v])).length) Slot.unset).toArray = ls at hl ⊢
  have hl : lv_has ls 4 [(0, .ref h0), (1, .int v)] := hl
  refine lv_iconst (v := 0) hx hb d_Ar_fill_0 (by decide) ?_
  refine lv_istore_n (lv' := [(2, .int 0), (0, .ref h0), (1, .int v)]) hx hb d_Ar_fill_1 rfl hl (by decide) rfl (fun ls hl => ?_)
  refine lv_aload_n hx hb d_Ar_fill_2 rfl (lv_at hl 1 rfl) ?_
  refine va_alen hx hb hK hP 0 0 rfl rfl (v := nI n) rfl d_Ar_fill_3 ?_
  refine lv_istore_n (lv' := [(3, .int (nI n)), (2, .int 0), (0, .ref h0), (1, .int v)]) hx hb d_Ar_fill_4 rfl hl (by decide) rfl (fun ls hl => ?_)
  have loop : ∀ (k i : Nat) (g : Nat → Int32) (ls : Array Slot) (H : Heap) (locs : List Loc), i + k = n → lv_has ls 4 [(3, .int (nI n)), (2, .int (nI i)), (0, .ref h0), (1, .int v)] → va_P D vwCl [(h0, .inl (cI, n, .inl g))] H → va_D A [(h0, .inl (cI, n, .inl g))] → va_S A s.heap H locs → (∀ j, j < i → g j = v) → W p l e (headSpec w_Ar_fill ({ frames := 0, cells := 0, slots := 0, locals := 0 })).room s m ([.ref h0, .int v]).toArray below meth c H locs 0 0 (MQ below (va_Qv (fun _ : Unit => True) (fun _ t => tB D A [(h0, .inl (cI, n, .inl (fun _ => v)))] t) A) ([.ref h0, .int v]).toArray s 0 0 A) (F0 m 5 ls []) := by
    intro k
    induction k with
    | zero =>
      intro i g ls H locs hi hl hP hD hS hg
      obtain rfl : i = n := by omega
      refine lv_iload_n hx hb d_Ar_fill_5 rfl (lv_at hl 1 rfl) ?_
      refine lv_iload_n hx hb d_Ar_fill_6 rfl (lv_at hl 0 rfl) ?_
      refine lv_icmp_ge (tgt := 20) hx hb d_Ar_fill_7 (by decide) (fun _ => ?_) (fun h => absurd (nI_le (Nat.le_refl _) hn) h)
      have hP9 : va_P D vwCl [(h0, .inl (cI, i, .inl (fun _ => v)))] H := fun k q hk => by
        have h1 := hP 0 _ rfl
        cases k with
        | zero => cases hk; show H[h0]? = some (vp_cell cI (i, .inl (fun _ => v))); rw [tn_congr (f := fun _ => v) (g := g) (fun j hj => (hg j hj).symm)]; exact h1
        | succ k => cases hk
      have hD9 : va_D A [(h0, .inl (cI, i, .inl (fun _ => v)))] := hD.set (p := 0) (e := .inl (cI, i, .inl (fun _ => v))) rfl
      exact W.vret hx hb hr (fun t ht hW => ⟨⟨(), rfl, trivial, by rw [ht]; exact hP9, hD9⟩, hS.F ht⟩) hS.2.2 d_Ar_fill_20
    | succ k ih =>
      intro i g ls H locs hi hl hP hD hS hg
      have hin : i < n := by omega
      refine lv_iload_n hx hb d_Ar_fill_5 rfl (lv_at hl 1 rfl) ?_
      refine lv_iload_n hx hb d_Ar_fill_6 rfl (lv_at hl 0 rfl) ?_
      refine lv_icmp_ge (tgt := 20) hx hb d_Ar_fill_7 (by decide) (fun h => absurd h (nI_ge hin hn)) (fun _ => ?_)
      refine lv_aload_n hx hb d_Ar_fill_10 rfl (lv_at hl 2 rfl) ?_
      refine lv_iload_n hx hb d_Ar_fill_11 rfl (lv_at hl 1 rfl) ?_
      refine lv_iload_n hx hb d_Ar_fill_12 rfl (lv_at hl 3 rfl) ?_
      refine va_iast hx hb hK hP hD hS 0 0 rfl rfl (vp_in_nI hin hn) d_Ar_fill_13 (fun H locs hP hD hS => ?_)
      refine lv_iinc (lv' := [(2, .int (nI i + 1)), (3, .int (nI n)), (0, .ref h0), (1, .int v)]) hx hb d_Ar_fill_14 hl (k := 1) rfl rfl (by decide) rfl (fun ls hl => ?_)
      refine lv_goto (tgt := 5) hx hb d_Ar_fill_17 (by decide) ?_
      rw [nI_1] at hl
      refine ih (i + 1) (upd g (nI i).toNatClampNeg v) ls H locs (by omega) (lv_sub hl [1, 0, 2, 3] rfl) hP hD hS (fun j hj => ?_)
      rw [nI_clamp (Nat.lt_trans hin hn)]
      by_cases hji : j = i
      · subst hji; exact pk_us
      · rw [pk_un hji]; exact hg j (by omega)
  exact loop n 0 f ls s.heap [] (Nat.zero_add n) hl hP hD hS (fun j hj => absurd hj (Nat.not_lt_zero j))
