theorem d_Se_clear_0 : decode b_Se_clear 0 = .ok (.aload_n 0, 1) := by decide +kernel
theorem d_Se_clear_1 : decode b_Se_clear 1 = .ok (.iconst 0, 1) := by decide +kernel
theorem d_Se_clear_2 : decode b_Se_clear 2 = .ok (.putfield 80, 3) := by decide +kernel
theorem d_Se_clear_5 : decode b_Se_clear 5 = .ok (.aload_n 0, 1) := by decide +kernel
theorem d_Se_clear_6 : decode b_Se_clear 6 = .ok (.iconst 0, 1) := by decide +kernel
theorem d_Se_clear_7 : decode b_Se_clear 7 = .ok (.putfield 66, 3) := by decide +kernel
theorem d_Se_clear_10 : decode b_Se_clear 10 = .ok (.aload_n 0, 1) := by decide +kernel
theorem d_Se_clear_11 : decode b_Se_clear 11 = .ok (.iconst 0, 1) := by decide +kernel
theorem d_Se_clear_12 : decode b_Se_clear 12 = .ok (.putfield 111, 3) := by decide +kernel
theorem d_Se_clear_15 : decode b_Se_clear 15 = .ok (.aload_n 0, 1) := by decide +kernel
theorem d_Se_clear_16 : decode b_Se_clear 16 = .ok (.iconst 0, 1) := by decide +kernel
theorem d_Se_clear_17 : decode b_Se_clear 17 = .ok (.putfield 134, 3) := by decide +kernel
theorem d_Se_clear_20 : decode b_Se_clear 20 = .ok (.aload_n 0, 1) := by decide +kernel
theorem d_Se_clear_21 : decode b_Se_clear 21 = .ok (.iconst 0, 1) := by decide +kernel
theorem d_Se_clear_22 : decode b_Se_clear 22 = .ok (.putfield 63, 3) := by decide +kernel
theorem d_Se_clear_25 : decode b_Se_clear 25 = .ok (.aload_n 0, 1) := by decide +kernel
theorem d_Se_clear_26 : decode b_Se_clear 26 = .ok (.iconst 0, 1) := by decide +kernel
theorem d_Se_clear_27 : decode b_Se_clear 27 = .ok (.putfield 53, 3) := by decide +kernel
theorem d_Se_clear_30 : decode b_Se_clear 30 = .ok (.aload_n 0, 1) := by decide +kernel
theorem d_Se_clear_31 : decode b_Se_clear 31 = .ok (.getfield 9, 3) := by decide +kernel
theorem d_Se_clear_34 : decode b_Se_clear 34 = .ok (.iconst 0, 1) := by decide +kernel
theorem d_Se_clear_35 : decode b_Se_clear 35 = .ok (.invokestatic 137, 3) := by decide +kernel
theorem d_Se_clear_38 : decode b_Se_clear 38 = .ok (.aload_n 0, 1) := by decide +kernel
theorem d_Se_clear_39 : decode b_Se_clear 39 = .ok (.getfield 15, 3) := by decide +kernel
theorem d_Se_clear_42 : decode b_Se_clear 42 = .ok (.iconst 0, 1) := by decide +kernel
theorem d_Se_clear_43 : decode b_Se_clear 43 = .ok (.invokestatic 137, 3) := by decide +kernel
theorem d_Se_clear_46 : decode b_Se_clear 46 = .ok (.aload_n 0, 1) := by decide +kernel
theorem d_Se_clear_47 : decode b_Se_clear 47 = .ok (.getfield 18, 3) := by decide +kernel
theorem d_Se_clear_50 : decode b_Se_clear 50 = .ok (.iconst 0, 1) := by decide +kernel
theorem d_Se_clear_51 : decode b_Se_clear 51 = .ok (.invokestatic 137, 3) := by decide +kernel
theorem d_Se_clear_54 : decode b_Se_clear 54 = .ok (.aload_n 0, 1) := by decide +kernel
theorem d_Se_clear_55 : decode b_Se_clear 55 = .ok (.getfield 21, 3) := by decide +kernel
theorem d_Se_clear_58 : decode b_Se_clear 58 = .ok (.iconst 0, 1) := by decide +kernel
theorem d_Se_clear_59 : decode b_Se_clear 59 = .ok (.invokestatic 137, 3) := by decide +kernel
theorem d_Se_clear_62 : decode b_Se_clear 62 = .ok (.return_, 1) := by decide +kernel
theorem wd_509 : (Cond.methodLink "SheetWar$Settling" (137 : Nat) ({ cls := "java/util/Arrays", name := "fill", desc := "([II)V" } : MethodName)) ∈ TB := tb_t 509 (by decide +kernel) (by decide +kernel)
set_option maxHeartbeats 4000000 in
set_option maxRecDepth 100000 in
theorem c_Se_clear (l : Launch) (D : va_G) (cI cZ cJ cS : ClassId) (aT : Nat) (ceT : Cell) (sz : Nat) (h0 qm qs q1 q2 q3 q4 q5 : Nat) (St Mv Sm Ho Su Op Sd Od Sp Oq : Nat → Bool) (f1 f2 f3 f4 : Nat → Int32)  : Met l y_Se_clear w_Se_clear ({ frames := 1, cells := 0, slots := 0, locals := 23 }) (tH D cI cZ cJ cS aT ceT [.ref h0] sz [(h0, .inr (2, [.ref qm, .ref qs, .int (mI St), .int (mI Mv), .int (mI Sm), .int (mI Ho), .ref q1, .ref q2, .ref q3, .ref q4, .int (mI Su), .int (mI Op), .int (mI Sd), .int (mI Od), .int (mI Sp), .int (mI Oq), .ref q5])), (q1, .inl (cI, 12, .inl f1)), (q2, .inl (cI, 12, .inl f2)), (q3, .inl (cI, 12, .inl f3)), (q4, .inl (cI, 4, .inl f4))]) (va_Qv (fun _ : Unit => True) (fun _ t => tB D (va_A [(h0, .inr (2, [.ref qm, .ref qs, .int (mI St), .int (mI Mv), .int (mI Sm), .int (mI Ho), .ref q1, .ref q2, .ref q3, .ref q4, .int (mI Su), .int (mI Op), .int (mI Sd), .int (mI Od), .int (mI Sp), .int (mI Oq), .ref q5])), (q1, .inl (cI, 12, .inl f1)), (q2, .inl (cI, 12, .inl f2)), (q3, .inl (cI, 12, .inl f3)), (q4, .inl (cI, 4, .inl f4))] sz) [(h0, .inr (2, [.ref qm, .ref qs, .int (mI (fun _ => false)), .int (mI (fun _ => false)), .int (mI (fun _ => false)), .int (mI (fun _ => false)), .ref q1, .ref q2, .ref q3, .ref q4, .int (mI (fun _ => false)), .int (mI (fun _ => false)), .int (mI Sd), .int (mI Od), .int (mI Sp), .int (mI Oq), .ref q5])), (q1, .inl (cI, 12, .inl (fun _ => 0))), (q2, .inl (cI, 12, .inl (fun _ => 0))), (q3, .inl (cI, 12, .inl (fun _ => 0))), (q4, .inl (cI, 4, .inl (fun _ => 0)))] t) (va_A [(h0, .inr (2, [.ref qm, .ref qs, .int (mI St), .int (mI Mv), .int (mI Sm), .int (mI Ho), .ref q1, .ref q2, .ref q3, .ref q4, .int (mI Su), .int (mI Op), .int (mI Sd), .int (mI Od), .int (mI Sp), .int (mI Oq), .ref q5])), (q1, .inl (cI, 12, .inl f1)), (q2, .inl (cI, 12, .inl f2)), (q3, .inl (cI, 12, .inl f3)), (q4, .inl (cI, 4, .inl f4))] sz)) 0 0 (va_A [(h0, .inr (2, [.ref qm, .ref qs, .int (mI St), .int (mI Mv), .int (mI Sm), .int (mI Ho), .ref q1, .ref q2, .ref q3, .ref q4, .int (mI Su), .int (mI Op), .int (mI Sd), .int (mI Od), .int (mI Sp), .int (mI Oq), .ref q5])), (q1, .inl (cI, 12, .inl f1)), (q2, .inl (cI, 12, .inl f2)), (q3, .inl (cI, 12, .inl f3)), (q4, .inl (cI, 4, .inl f4))] sz) := by
  refine Met.ofW (cc := b_Se_clear) (maxL := 1) (ret := none) (by decide) rfl ?_
  intro p e s m args below meth c s₁ B hml hv
  obtain ⟨rfl, hsz, hP, hK, hD0, hX⟩ := hv
  have hx := B.exec
  have hb := B.bytes
  have hr := B.returns
  have hts0 := atoms_spec (ws := w_Se_clear) B.pre
  have hts : ∀ w ∈ TB, w.before _ s = true := fun w h => hts0 w (List.mem_cons_of_mem _ h)
  have hown : s.vm.findClass R_Se = some m.cls := findClass_of_methodNamed B.named
  have hlocks := B.notSynchronized
  subst hsz
  have hXl := tx_lt hX
  have hXn := tx_far hP hX
  have hD := hD0.self (sz := s.heap.size)
  generalize hAe : va_A [(h0, .inr (2, [.ref qm, .ref qs, .int (mI St), .int (mI Mv), .int (mI Sm), .int (mI Ho), .ref q1, .ref q2, .ref q3, .ref q4, .int (mI Su), .int (mI Op), .int (mI Sd), .int (mI Od), .int (mI Sp), .int (mI Oq), .ref q5])), (q1, .inl (cI, 12, .inl f1)), (q2, .inl (cI, 12, .inl f2)), (q3, .inl (cI, 12, .inl f3)), (q4, .inl (cI, 4, .inl f4))] s.heap.size = A at hD hXn ⊢
  have hA : ∀ q : Nat, s.heap.size ≤ q → A q := fun q h => by rw [← hAe]; exact Or.inr h
  have hS : va_S A s.heap s.heap [] := va_S.rf
  have hXH : s.heap[aT]? = s.heap[aT]? := rfl
  have hl := lv_entry ([.ref h0]) (n := 1) (Nat.le_of_ble_eq_true rfl)
  rw [lg_entry_eq]
  generalize (lg_sl ([.ref h0]) ++ List.replicate (1 - (lg_sl ([.ref h0])).length) Slot.unset).toArray = ls at hl ⊢
  have hl : lv_has ls 1 [(0, .ref h0)] := hl
  refine lv_aload_n hx hb d_Se_clear_0 rfl (lv_at hl 0 rfl) ?_
  refine lv_iconst (v := 0) hx hb d_Se_clear_1 (by decide) ?_
  refine tr_top (y := mI (fun _ => false)) mI_0.symm ?_
  refine va_put (D := D) (ci := 2) (v := .int (mI (fun _ => false))) (ty := .int) (C := R_Se) (T := T_Se) (N := 17) hx hb hts hin_Se ty_Se tyok_Se nm_Se hown hK hP hD hS 0 rfl rfl 2 (by decide) (hts _ wd_105) (fun _ h9 => h9) rfl (by decide +kernel) rfl rfl (Nat.le_of_ble_eq_true rfl) d_Se_clear_2 (fun H locs hP hD hS => ?_)
  have hP : va_P D vwCl [(h0, .inr (2, [.ref qm, .ref qs, .int (mI (fun _ => false)), .int (mI Mv), .int (mI Sm), .int (mI Ho), .ref q1, .ref q2, .ref q3, .ref q4, .int (mI Su), .int (mI Op), .int (mI Sd), .int (mI Od), .int (mI Sp), .int (mI Oq), .ref q5])), (q1, .inl (cI, 12, .inl f1)), (q2, .inl (cI, 12, .inl f2)), (q3, .inl (cI, 12, .inl f3)), (q4, .inl (cI, 4, .inl f4))] H := hP
  have hD : va_D A [(h0, .inr (2, [.ref qm, .ref qs, .int (mI (fun _ => false)), .int (mI Mv), .int (mI Sm), .int (mI Ho), .ref q1, .ref q2, .ref q3, .ref q4, .int (mI Su), .int (mI Op), .int (mI Sd), .int (mI Od), .int (mI Sp), .int (mI Oq), .ref q5])), (q1, .inl (cI, 12, .inl f1)), (q2, .inl (cI, 12, .inl f2)), (q3, .inl (cI, 12, .inl f3)), (q4, .inl (cI, 4, .inl f4))] := hD
  refine lv_aload_n hx hb d_Se_clear_5 rfl (lv_at hl 0 rfl) ?_
  refine lv_iconst (v := 0) hx hb d_Se_clear_6 (by decide) ?_
  refine tr_top (y := mI (fun _ => false)) mI_0.symm ?_
  refine va_put (D := D) (ci := 2) (v := .int (mI (fun _ => false))) (ty := .int) (C := R_Se) (T := T_Se) (N := 17) hx hb hts hin_Se ty_Se tyok_Se nm_Se hown hK hP hD hS 0 rfl rfl 3 (by decide) (hts _ wd_106) (fun _ h9 => h9) rfl (by decide +kernel) rfl rfl (Nat.le_of_ble_eq_true rfl) d_Se_clear_7 (fun H locs hP hD hS => ?_)
  have hP : va_P D vwCl [(h0, .inr (2, [.ref qm, .ref qs, .int (mI (fun _ => false)), .int (mI (fun _ => false)), .int (mI Sm), .int (mI Ho), .ref q1, .ref q2, .ref q3, .ref q4, .int (mI Su), .int (mI Op), .int (mI Sd), .int (mI Od), .int (mI Sp), .int (mI Oq), .ref q5])), (q1, .inl (cI, 12, .inl f1)), (q2, .inl (cI, 12, .inl f2)), (q3, .inl (cI, 12, .inl f3)), (q4, .inl (cI, 4, .inl f4))] H := hP
  have hD : va_D A [(h0, .inr (2, [.ref qm, .ref qs, .int (mI (fun _ => false)), .int (mI (fun _ => false)), .int (mI Sm), .int (mI Ho), .ref q1, .ref q2, .ref q3, .ref q4, .int (mI Su), .int (mI Op), .int (mI Sd), .int (mI Od), .int (mI Sp), .int (mI Oq), .ref q5])), (q1, .inl (cI, 12, .inl f1)), (q2, .inl (cI, 12, .inl f2)), (q3, .inl (cI, 12, .inl f3)), (q4, .inl (cI, 4, .inl f4))] := hD
  refine lv_aload_n hx hb d_Se_clear_10 rfl (lv_at hl 0 rfl) ?_
  refine lv_iconst (v := 0) hx hb d_Se_clear_11 (by decide) ?_
  refine tr_top (y := mI (fun _ => false)) mI_0.symm ?_
  refine va_put (D := D) (ci := 2) (v := .int (mI (fun _ => false))) (ty := .int) (C := R_Se) (T := T_Se) (N := 17) hx hb hts hin_Se ty_Se tyok_Se nm_Se hown hK hP hD hS 0 rfl rfl 4 (by decide) (hts _ wd_107) (fun _ h9 => h9) rfl (by decide +kernel) rfl rfl (Nat.le_of_ble_eq_true rfl) d_Se_clear_12 (fun H locs hP hD hS => ?_)
  have hP : va_P D vwCl [(h0, .inr (2, [.ref qm, .ref qs, .int (mI (fun _ => false)), .int (mI (fun _ => false)), .int (mI (fun _ => false)), .int (mI Ho), .ref q1, .ref q2, .ref q3, .ref q4, .int (mI Su), .int (mI Op), .int (mI Sd), .int (mI Od), .int (mI Sp), .int (mI Oq), .ref q5])), (q1, .inl (cI, 12, .inl f1)), (q2, .inl (cI, 12, .inl f2)), (q3, .inl (cI, 12, .inl f3)), (q4, .inl (cI, 4, .inl f4))] H := hP
  have hD : va_D A [(h0, .inr (2, [.ref qm, .ref qs, .int (mI (fun _ => false)), .int (mI (fun _ => false)), .int (mI (fun _ => false)), .int (mI Ho), .ref q1, .ref q2, .ref q3, .ref q4, .int (mI Su), .int (mI Op), .int (mI Sd), .int (mI Od), .int (mI Sp), .int (mI Oq), .ref q5])), (q1, .inl (cI, 12, .inl f1)), (q2, .inl (cI, 12, .inl f2)), (q3, .inl (cI, 12, .inl f3)), (q4, .inl (cI, 4, .inl f4))] := hD
  refine lv_aload_n hx hb d_Se_clear_15 rfl (lv_at hl 0 rfl) ?_
  refine lv_iconst (v := 0) hx hb d_Se_clear_16 (by decide) ?_
  refine tr_top (y := mI (fun _ => false)) mI_0.symm ?_
  refine va_put (D := D) (ci := 2) (v := .int (mI (fun _ => false))) (ty := .int) (C := R_Se) (T := T_Se) (N := 17) hx hb hts hin_Se ty_Se tyok_Se nm_Se hown hK hP hD hS 0 rfl rfl 5 (by decide) (hts _ wd_108) (fun _ h9 => h9) rfl (by decide +kernel) rfl rfl (Nat.le_of_ble_eq_true rfl) d_Se_clear_17 (fun H locs hP hD hS => ?_)
  have hP : va_P D vwCl [(h0, .inr (2, [.ref qm, .ref qs, .int (mI (fun _ => false)), .int (mI (fun _ => false)), .int (mI (fun _ => false)), .int (mI (fun _ => false)), .ref q1, .ref q2, .ref q3, .ref q4, .int (mI Su), .int (mI Op), .int (mI Sd), .int (mI Od), .int (mI Sp), .int (mI Oq), .ref q5])), (q1, .inl (cI, 12, .inl f1)), (q2, .inl (cI, 12, .inl f2)), (q3, .inl (cI, 12, .inl f3)), (q4, .inl (cI, 4, .inl f4))] H := hP
  have hD : va_D A [(h0, .inr (2, [.ref qm, .ref qs, .int (mI (fun _ => false)), .int (mI (fun _ => false)), .int (mI (fun _ => false)), .int (mI (fun _ => false)), .ref q1, .ref q2, .ref q3, .ref q4, .int (mI Su), .int (mI Op), .int (mI Sd), .int (mI Od), .int (mI Sp), .int (mI Oq), .ref q5])), (q1, .inl (cI, 12, .inl f1)), (q2, .inl (cI, 12, .inl f2)), (q3, .inl (cI, 12, .inl f3)), (q4, .inl (cI, 4, .inl f4))] := hD
  refine lv_aload_n hx hb d_Se_clear_20 rfl (lv_at hl 0 rfl) ?_
  refine lv_iconst (v := 0) hx hb d_Se_clear_21 (by decide) ?_
  refine tr_top (y := mI (fun _ => false)) mI_0.symm ?_
  refine va_put (D := D) (ci := 2) (v := .int (mI (fun _ => false))) (ty := .int) (C := R_Se) (T := T_Se) (N := 17) hx hb hts hin_Se ty_Se tyok_Se nm_Se hown hK hP hD hS 0 rfl rfl 10 (by decide) (hts _ wd_113) (fun _ h9 => h9) rfl (by decide +kernel) rfl rfl (Nat.le_of_ble_eq_true rfl) d_Se_clear_22 (fun H locs hP hD hS => ?_)
  have hP : va_P D vwCl [(h0, .inr (2, [.ref qm, .ref qs, .int (mI (fun _ => false)), .int (mI (fun _ => false)), .int (mI (fun _ => false)), .int (mI (fun _ => false)), .ref q1, .ref q2, .ref q3, .ref q4, .int (mI (fun _ => false)), .int (mI Op), .int (mI Sd), .int (mI Od), .int (mI Sp), .int (mI Oq), .ref q5])), (q1, .inl (cI, 12, .inl f1)), (q2, .inl (cI, 12, .inl f2)), (q3, .inl (cI, 12, .inl f3)), (q4, .inl (cI, 4, .inl f4))] H := hP
  have hD : va_D A [(h0, .inr (2, [.ref qm, .ref qs, .int (mI (fun _ => false)), .int (mI (fun _ => false)), .int (mI (fun _ => false)), .int (mI (fun _ => false)), .ref q1, .ref q2, .ref q3, .ref q4, .int (mI (fun _ => false)), .int (mI Op), .int (mI Sd), .int (mI Od), .int (mI Sp), .int (mI Oq), .ref q5])), (q1, .inl (cI, 12, .inl f1)), (q2, .inl (cI, 12, .inl f2)), (q3, .inl (cI, 12, .inl f3)), (q4, .inl (cI, 4, .inl f4))] := hD
  refine lv_aload_n hx hb d_Se_clear_25 rfl (lv_at hl 0 rfl) ?_
  refine lv_iconst (v := 0) hx hb d_Se_clear_26 (by decide) ?_
  refine tr_top (y := mI (fun _ => false)) mI_0.symm ?_
  refine va_put (D := D) (ci := 2) (v := .int (mI (fun _ => false))) (ty := .int) (C := R_Se) (T := T_Se) (N := 17) hx hb hts hin_Se ty_Se tyok_Se nm_Se hown hK hP hD hS 0 rfl rfl 11 (by decide) (hts _ wd_114) (fun _ h9 => h9) rfl (by decide +kernel) rfl rfl (Nat.le_of_ble_eq_true rfl) d_Se_clear_27 (fun H locs hP hD hS => ?_)
  have hP : va_P D vwCl [(h0, .inr (2, [.ref qm, .ref qs, .int (mI (fun _ => false)), .int (mI (fun _ => false)), .int (mI (fun _ => false)), .int (mI (fun _ => false)), .ref q1, .ref q2, .ref q3, .ref q4, .int (mI (fun _ => false)), .int (mI (fun _ => false)), .int (mI Sd), .int (mI Od), .int (mI Sp), .int (mI Oq), .ref q5])), (q1, .inl (cI, 12, .inl f1)), (q2, .inl (cI, 12, .inl f2)), (q3, .inl (cI, 12, .inl f3)), (q4, .inl (cI, 4, .inl f4))] H := hP
  have hD : va_D A [(h0, .inr (2, [.ref qm, .ref qs, .int (mI (fun _ => false)), .int (mI (fun _ => false)), .int (mI (fun _ => false)), .int (mI (fun _ => false)), .ref q1, .ref q2, .ref q3, .ref q4, .int (mI (fun _ => false)), .int (mI (fun _ => false)), .int (mI Sd), .int (mI Od), .int (mI Sp), .int (mI Oq), .ref q5])), (q1, .inl (cI, 12, .inl f1)), (q2, .inl (cI, 12, .inl f2)), (q3, .inl (cI, 12, .inl f3)), (q4, .inl (cI, 4, .inl f4))] := hD
  refine lv_aload_n hx hb d_Se_clear_30 rfl (lv_at hl 0 rfl) ?_
  refine va_get (D := D) (ci := 2) (v := .ref q1) (C := R_Se) (T := T_Se) (N := 17) hx hb hts hin_Se hown hK hP 0 rfl rfl 6 (by decide) (hts _ wd_109) (fun _ h9 => h9) rfl d_Se_clear_31 ?_
  refine lv_iconst (v := 0) hx hb d_Se_clear_34 (by decide) ?_
  have hPc := hP.sub (ws' := [(q1, .inl (cI, 12, .inl f1))]) [1] rfl
  have hDc := hD.sub (ws' := [(q1, .inl (cI, 12, .inl f1))]) [1] (by decide) rfl
  have hFc := va_free (wc := [(q1, .inl (cI, 12, .inl f1))]) hD hS hA [1] rfl
  refine va_callv (va_runS (As := [.ref q1, .int 0]) (rest := []) ⟨hx, hb, hml, hown, hts⟩ (c_Ar_fill l D cI cZ cJ cS aT ceT H.size q1 12 f1 0 (by decide)) (va_cwS 2 hts (tb_3 wd_509 wd_60 wd_4 (tb_c wd_61)) rfl rfl rfl ⟨by decide, by decide, by decide +kernel⟩ ⟨Nat.le_of_ble_eq_true rfl, Nat.le_of_ble_eq_true rfl⟩) (tH_S hK hX (hS.2.1 aT hXl hXn) hPc hDc) rfl rfl hl.1 rfl (lv_room (Nat.le_of_ble_eq_true rfl)) d_Se_clear_35 ⟨Nat.le_of_ble_eq_true rfl, Nat.le_of_ble_eq_true rfl⟩) hS (fun q _ h => hFc q h) hFc (fun u t H1 locs ht hvm h9 hB hz1 hk1 hS => ?_)
  obtain ⟨hP1, hD1⟩ := hB
  rw [ht] at hP1
  obtain ⟨hP, hD⟩ := va_join (wr := [(h0, .inr (2, [.ref qm, .ref qs, .int (mI (fun _ => false)), .int (mI (fun _ => false)), .int (mI (fun _ => false)), .int (mI (fun _ => false)), .ref q1, .ref q2, .ref q3, .ref q4, .int (mI (fun _ => false)), .int (mI (fun _ => false)), .int (mI Sd), .int (mI Od), .int (mI Sp), .int (mI Oq), .ref q5])), (q2, .inl (cI, 12, .inl f2)), (q3, .inl (cI, 12, .inl f3)), (q4, .inl (cI, 4, .inl f4))]) (w1 := [(q1, .inl (cI, 12, .inl (fun _ => (0 : Int32))))]) hP hD [1] [0, 2, 3, 4] rfl rfl (by decide) (by decide) hk1 hFc hP1 hD1
  generalize H1 = H at hP hS ⊢
  have hP : va_P D vwCl [(h0, .inr (2, [.ref qm, .ref qs, .int (mI (fun _ => false)), .int (mI (fun _ => false)), .int (mI (fun _ => false)), .int (mI (fun _ => false)), .ref q1, .ref q2, .ref q3, .ref q4, .int (mI (fun _ => false)), .int (mI (fun _ => false)), .int (mI Sd), .int (mI Od), .int (mI Sp), .int (mI Oq), .ref q5])), (q2, .inl (cI, 12, .inl f2)), (q3, .inl (cI, 12, .inl f3)), (q4, .inl (cI, 4, .inl f4)), (q1, .inl (cI, 12, .inl (fun _ => (0 : Int32))))] H := hP
  have hD : va_D A [(h0, .inr (2, [.ref qm, .ref qs, .int (mI (fun _ => false)), .int (mI (fun _ => false)), .int (mI (fun _ => false)), .int (mI (fun _ => false)), .ref q1, .ref q2, .ref q3, .ref q4, .int (mI (fun _ => false)), .int (mI (fun _ => false)), .int (mI Sd), .int (mI Od), .int (mI Sp), .int (mI Oq), .ref q5])), (q2, .inl (cI, 12, .inl f2)), (q3, .inl (cI, 12, .inl f3)), (q4, .inl (cI, 4, .inl f4)), (q1, .inl (cI, 12, .inl (fun _ => (0 : Int32))))] := hD
  refine lv_aload_n hx hb d_Se_clear_38 rfl (lv_at hl 0 rfl) ?_
  refine va_get (D := D) (ci := 2) (v := .ref q2) (C := R_Se) (T := T_Se) (N := 17) hx hb hts hin_Se hown hK hP 0 rfl rfl 7 (by decide) (hts _ wd_110) (fun _ h9 => h9) rfl d_Se_clear_39 ?_
  refine lv_iconst (v := 0) hx hb d_Se_clear_42 (by decide) ?_
  have hPc := hP.sub (ws' := [(q2, .inl (cI, 12, .inl f2))]) [1] rfl
  have hDc := hD.sub (ws' := [(q2, .inl (cI, 12, .inl f2))]) [1] (by decide) rfl
  have hFc := va_free (wc := [(q2, .inl (cI, 12, .inl f2))]) hD hS hA [1] rfl
  refine va_callv (va_runS (As := [.ref q2, .int 0]) (rest := []) ⟨hx, hb, hml, hown, hts⟩ (c_Ar_fill l D cI cZ cJ cS aT ceT H.size q2 12 f2 0 (by decide)) (va_cwS 2 hts (tb_3 wd_509 wd_60 wd_4 (tb_c wd_61)) rfl rfl rfl ⟨by decide, by decide, by decide +kernel⟩ ⟨Nat.le_of_ble_eq_true rfl, Nat.le_of_ble_eq_true rfl⟩) (tH_S hK hX (hS.2.1 aT hXl hXn) hPc hDc) rfl rfl hl.1 rfl (lv_room (Nat.le_of_ble_eq_true rfl)) d_Se_clear_43 ⟨Nat.le_of_ble_eq_true rfl, Nat.le_of_ble_eq_true rfl⟩) hS (fun q _ h => hFc q h) hFc (fun u t H1 locs ht hvm h9 hB hz1 hk1 hS => ?_)
  obtain ⟨hP1, hD1⟩ := hB
  rw [ht] at hP1
  obtain ⟨hP, hD⟩ := va_join (wr := [(h0, .inr (2, [.ref qm, .ref qs, .int (mI (fun _ => false)), .int (mI (fun _ => false)), .int (mI (fun _ => false)), .int (mI (fun _ => false)), .ref q1, .ref q2, .ref q3, .ref q4, .int (mI (fun _ => false)), .int (mI (fun _ => false)), .int (mI Sd), .int (mI Od), .int (mI Sp), .int (mI Oq), .ref q5])), (q3, .inl (cI, 12, .inl f3)), (q4, .inl (cI, 4, .inl f4)), (q1, .inl (cI, 12, .inl (fun _ => (0 : Int32))))]) (w1 := [(q2, .inl (cI, 12, .inl (fun _ => (0 : Int32))))]) hP hD [1] [0, 2, 3, 4] rfl rfl (by decide) (by decide) hk1 hFc hP1 hD1
  generalize H1 = H at hP hS ⊢
  have hP : va_P D vwCl [(h0, .inr (2, [.ref qm, .ref qs, .int (mI (fun _ => false)), .int (mI (fun _ => false)), .int (mI (fun _ => false)), .int (mI (fun _ => false)), .ref q1, .ref q2, .ref q3, .ref q4, .int (mI (fun _ => false)), .int (mI (fun _ => false)), .int (mI Sd), .int (mI Od), .int (mI Sp), .int (mI Oq), .ref q5])), (q3, .inl (cI, 12, .inl f3)), (q4, .inl (cI, 4, .inl f4)), (q1, .inl (cI, 12, .inl (fun _ => (0 : Int32)))), (q2, .inl (cI, 12, .inl (fun _ => (0 : Int32))))] H := hP
  have hD : va_D A [(h0, .inr (2, [.ref qm, .ref qs, .int (mI (fun _ => false)), .int (mI (fun _ => false)), .int (mI (fun _ => false)), .int (mI (fun _ => false)), .ref q1, .ref q2, .ref q3, .ref q4, .int (mI (fun _ => false)), .int (mI (fun _ => false)), .int (mI Sd), .int (mI Od), .int (mI Sp), .int (mI Oq), .ref q5])), (q3, .inl (cI, 12, .inl f3)), (q4, .inl (cI, 4, .inl f4)), (q1, .inl (cI, 12, .inl (fun _ => (0 : Int32)))), (q2, .inl (cI, 12, .inl (fun _ => (0 : Int32))))] := hD
  refine lv_aload_n hx hb d_Se_clear_46 rfl (lv_at hl 0 rfl) ?_
  refine va_get (D := D) (ci := 2) (v := .ref q3) (C := R_Se) (T := T_Se) (N := 17) hx hb hts hin_Se hown hK hP 0 rfl rfl 8 (by decide) (hts _ wd_111) (fun _ h9 => h9) rfl d_Se_clear_47 ?_
  refine lv_iconst (v := 0) hx hb d_Se_clear_50 (by decide) ?_
  have hPc := hP.sub (ws' := [(q3, .inl (cI, 12, .inl f3))]) [1] rfl
  have hDc := hD.sub (ws' := [(q3, .inl (cI, 12, .inl f3))]) [1] (by decide) rfl
  have hFc := va_free (wc := [(q3, .inl (cI, 12, .inl f3))]) hD hS hA [1] rfl
  refine va_callv (va_runS (As := [.ref q3, .int 0]) (rest := []) ⟨hx, hb, hml, hown, hts⟩ (c_Ar_fill l D cI cZ cJ cS aT ceT H.size q3 12 f3 0 (by decide)) (va_cwS 2 hts (tb_3 wd_509 wd_60 wd_4 (tb_c wd_61)) rfl rfl rfl ⟨by decide, by decide, by decide +kernel⟩ ⟨Nat.le_of_ble_eq_true rfl, Nat.le_of_ble_eq_true rfl⟩) (tH_S hK hX (hS.2.1 aT hXl hXn) hPc hDc) rfl rfl hl.1 rfl (lv_room (Nat.le_of_ble_eq_true rfl)) d_Se_clear_51 ⟨Nat.le_of_ble_eq_true rfl, Nat.le_of_ble_eq_true rfl⟩) hS (fun q _ h => hFc q h) hFc (fun u t H1 locs ht hvm h9 hB hz1 hk1 hS => ?_)
  obtain ⟨hP1, hD1⟩ := hB
  rw [ht] at hP1
  obtain ⟨hP, hD⟩ := va_join (wr := [(h0, .inr (2, [.ref qm, .ref qs, .int (mI (fun _ => false)), .int (mI (fun _ => false)), .int (mI (fun _ => false)), .int (mI (fun _ => false)), .ref q1, .ref q2, .ref q3, .ref q4, .int (mI (fun _ => false)), .int (mI (fun _ => false)), .int (mI Sd), .int (mI Od), .int (mI Sp), .int (mI Oq), .ref q5])), (q4, .inl (cI, 4, .inl f4)), (q1, .inl (cI, 12, .inl (fun _ => (0 : Int32)))), (q2, .inl (cI, 12, .inl (fun _ => (0 : Int32))))]) (w1 := [(q3, .inl (cI, 12, .inl (fun _ => (0 : Int32))))]) hP hD [1] [0, 2, 3, 4] rfl rfl (by decide) (by decide) hk1 hFc hP1 hD1
  generalize H1 = H at hP hS ⊢
  have hP : va_P D vwCl [(h0, .inr (2, [.ref qm, .ref qs, .int (mI (fun _ => false)), .int (mI (fun _ => false)), .int (mI (fun _ => false)), .int (mI (fun _ => false)), .ref q1, .ref q2, .ref q3, .ref q4, .int (mI (fun _ => false)), .int (mI (fun _ => false)), .int (mI Sd), .int (mI Od), .int (mI Sp), .int (mI Oq), .ref q5])), (q4, .inl (cI, 4, .inl f4)), (q1, .inl (cI, 12, .inl (fun _ => (0 : Int32)))), (q2, .inl (cI, 12, .inl (fun _ => (0 : Int32)))), (q3, .inl (cI, 12, .inl (fun _ => (0 : Int32))))] H := hP
  have hD : va_D A [(h0, .inr (2, [.ref qm, .ref qs, .int (mI (fun _ => false)), .int (mI (fun _ => false)), .int (mI (fun _ => false)), .int (mI (fun _ => false)), .ref q1, .ref q2, .ref q3, .ref q4, .int (mI (fun _ => false)), .int (mI (fun _ => false)), .int (mI Sd), .int (mI Od), .int (mI Sp), .int (mI Oq), .ref q5])), (q4, .inl (cI, 4, .inl f4)), (q1, .inl (cI, 12, .inl (fun _ => (0 : Int32)))), (q2, .inl (cI, 12, .inl (fun _ => (0 : Int32)))), (q3, .inl (cI, 12, .inl (fun _ => (0 : Int32))))] := hD
  refine lv_aload_n hx hb d_Se_clear_54 rfl (lv_at hl 0 rfl) ?_
  refine va_get (D := D) (ci := 2) (v := .ref q4) (C := R_Se) (T := T_Se) (N := 17) hx hb hts hin_Se hown hK hP 0 rfl rfl 9 (by decide) (hts _ wd_112) (fun _ h9 => h9) rfl d_Se_clear_55 ?_
  refine lv_iconst (v := 0) hx hb d_Se_clear_58 (by decide) ?_
  have hPc := hP.sub (ws' := [(q4, .inl (cI, 4, .inl f4))]) [1] rfl
  have hDc := hD.sub (ws' := [(q4, .inl (cI, 4, .inl f4))]) [1] (by decide) rfl
  have hFc := va_free (wc := [(q4, .inl (cI, 4, .inl f4))]) hD hS hA [1] rfl
  refine va_callv (va_runS (As := [.ref q4, .int 0]) (rest := []) ⟨hx, hb, hml, hown, hts⟩ (c_Ar_fill l D cI cZ cJ cS aT ceT H.size q4 4 f4 0 (by decide)) (va_cwS 2 hts (tb_3 wd_509 wd_60 wd_4 (tb_c wd_61)) rfl rfl rfl ⟨by decide, by decide, by decide +kernel⟩ ⟨Nat.le_of_ble_eq_true rfl, Nat.le_of_ble_eq_true rfl⟩) (tH_S hK hX (hS.2.1 aT hXl hXn) hPc hDc) rfl rfl hl.1 rfl (lv_room (Nat.le_of_ble_eq_true rfl)) d_Se_clear_59 ⟨Nat.le_of_ble_eq_true rfl, Nat.le_of_ble_eq_true rfl⟩) hS (fun q _ h => hFc q h) hFc (fun u t H1 locs ht hvm h9 hB hz1 hk1 hS => ?_)
  obtain ⟨hP1, hD1⟩ := hB
  rw [ht] at hP1
  obtain ⟨hP, hD⟩ := va_join (wr := [(h0, .inr (2, [.ref qm, .ref qs, .int (mI (fun _ => false)), .int (mI (fun _ => false)), .int (mI (fun _ => false)), .int (mI (fun _ => false)), .ref q1, .ref q2, .ref q3, .ref q4, .int (mI (fun _ => false)), .int (mI (fun _ => false)), .int (mI Sd), .int (mI Od), .int (mI Sp), .int (mI Oq), .ref q5])), (q1, .inl (cI, 12, .inl (fun _ => (0 : Int32)))), (q2, .inl (cI, 12, .inl (fun _ => (0 : Int32)))), (q3, .inl (cI, 12, .inl (fun _ => (0 : Int32))))]) (w1 := [(q4, .inl (cI, 4, .inl (fun _ => (0 : Int32))))]) hP hD [1] [0, 2, 3, 4] rfl rfl (by decide) (by decide) hk1 hFc hP1 hD1
  generalize H1 = H at hP hS ⊢
  have hP : va_P D vwCl [(h0, .inr (2, [.ref qm, .ref qs, .int (mI (fun _ => false)), .int (mI (fun _ => false)), .int (mI (fun _ => false)), .int (mI (fun _ => false)), .ref q1, .ref q2, .ref q3, .ref q4, .int (mI (fun _ => false)), .int (mI (fun _ => false)), .int (mI Sd), .int (mI Od), .int (mI Sp), .int (mI Oq), .ref q5])), (q1, .inl (cI, 12, .inl (fun _ => (0 : Int32)))), (q2, .inl (cI, 12, .inl (fun _ => (0 : Int32)))), (q3, .inl (cI, 12, .inl (fun _ => (0 : Int32)))), (q4, .inl (cI, 4, .inl (fun _ => (0 : Int32))))] H := hP
  have hD : va_D A [(h0, .inr (2, [.ref qm, .ref qs, .int (mI (fun _ => false)), .int (mI (fun _ => false)), .int (mI (fun _ => false)), .int (mI (fun _ => false)), .ref q1, .ref q2, .ref q3, .ref q4, .int (mI (fun _ => false)), .int (mI (fun _ => false)), .int (mI Sd), .int (mI Od), .int (mI Sp), .int (mI Oq), .ref q5])), (q1, .inl (cI, 12, .inl (fun _ => (0 : Int32)))), (q2, .inl (cI, 12, .inl (fun _ => (0 : Int32)))), (q3, .inl (cI, 12, .inl (fun _ => (0 : Int32)))), (q4, .inl (cI, 4, .inl (fun _ => (0 : Int32))))] := hD
  have hP9 := hP.sub (ws' := [(h0, .inr (2, [.ref qm, .ref qs, .int (mI (fun _ => false)), .int (mI (fun _ => false)), .int (mI (fun _ => false)), .int (mI (fun _ => false)), .ref q1, .ref q2, .ref q3, .ref q4, .int (mI (fun _ => false)), .int (mI (fun _ => false)), .int (mI Sd), .int (mI Od), .int (mI Sp), .int (mI Oq), .ref q5])), (q1, .inl (cI, 12, .inl (fun _ => (0 : Int32)))), (q2, .inl (cI, 12, .inl (fun _ => (0 : Int32)))), (q3, .inl (cI, 12, .inl (fun _ => (0 : Int32)))), (q4, .inl (cI, 4, .inl (fun _ => (0 : Int32))))]) [0, 1, 2, 3, 4] rfl
  have hD9 := hD.sub (ws' := [(h0, .inr (2, [.ref qm, .ref qs, .int (mI (fun _ => false)), .int (mI (fun _ => false)), .int (mI (fun _ => false)), .int (mI (fun _ => false)), .ref q1, .ref q2, .ref q3, .ref q4, .int (mI (fun _ => false)), .int (mI (fun _ => false)), .int (mI Sd), .int (mI Od), .int (mI Sp), .int (mI Oq), .ref q5])), (q1, .inl (cI, 12, .inl (fun _ => (0 : Int32)))), (q2, .inl (cI, 12, .inl (fun _ => (0 : Int32)))), (q3, .inl (cI, 12, .inl (fun _ => (0 : Int32)))), (q4, .inl (cI, 4, .inl (fun _ => (0 : Int32))))]) [0, 1, 2, 3, 4] (by decide) rfl
  exact W.vret hx hb hr (fun t ht hW => ⟨⟨(), rfl, trivial, by rw [ht]; exact hP9, hD9⟩, hS.F ht⟩) hS.2.2 d_Se_clear_62

def upS (f : Nat → Nat → Bool) (k : Nat) (x : Nat → Bool) : Nat → Nat → Bool := fun j => if j = k then x else f j
theorem upS_I (f : Nat → Nat → Bool) (k : Nat) (x : Nat → Bool) : upd (fun j => mI (f j)) k (mI x) = fun j => mI (upS f k x j) := by
  funext j
  unfold upd upS
  split <;> rfl
theorem upT_Y {R : Nat → Nat → Bool} {i x0 : Nat} (h1 : R x0 i = true) (h2 : ∀ x, ¬ x0 = x → R x i = false) : (fun j => mI (upS (fun j => upTo (R j) i) x0 (fun j => upTo (R x0) i j || decide (j = i)) j)) = fun j => mI (upTo (R j) (i + 1)) := by
  funext x
  unfold upS
  by_cases h : x = x0
  · subst h; rw [if_pos rfl]; exact mI_upY h1
  · rw [if_neg h]; exact mI_upN (h2 x (fun h9 => h h9.symm))
theorem upT_N {R : Nat → Nat → Bool} {i : Nat} (h : ∀ x, R x i = false) : (fun j => mI (upTo (R j) i)) = fun j => mI (upTo (R j) (i + 1)) := funext fun x => mI_upN (h x)
theorem upT_0 (R : Nat → Nat → Bool) : (fun j => mI (upTo (R j) 0)) = fun _ => 0 := funext fun x => (mI_up0 _).symm
theorem up_00 (p : Nat → Bool) : mI (upTo p 0) = mI (fun _ => false) := (mI_up0 p).symm.trans mI_0.symm
def orU (Q p : Nat → Bool) (i : Nat) : Nat → Bool := fun j => Q j || upTo p i j
theorem mI_or0 (Q p : Nat → Bool) : mI (orU Q p 0) = mI Q := mI_congr (fun j _ => by simp [orU, upTo])
theorem mI_orY {Q p : Nat → Bool} {i : Nat} (h : p i = true) : mI (fun j => orU Q p i j || decide (j = i)) = mI (orU Q p (i + 1)) := mI_congr (fun j _ => by
  unfold orU upTo
  by_cases hj : j = i
  · subst hj; simp [h]
  · have h1 : decide (j < i + 1) = decide (j < i) := by simp; omega
    rw [h1]; simp [hj])
theorem mI_orN {Q p : Nat → Bool} {i : Nat} (h : p i = false) : mI (orU Q p i) = mI (orU Q p (i + 1)) := mI_congr (fun j _ => by
  unfold orU upTo
  by_cases hj : j = i
  · subst hj; simp [h]
  · have h1 : decide (j < i + 1) = decide (j < i) := by simp; omega
    rw [h1])
/-- what a unit's order is: a move, one by sea, one to x; whose unit it is -/
def mvR (Hu : Nat → Bool) (Oo : Nat → Nat) (j : Nat) : Bool := Hu j && decide (Oo j = 1)
def smR (Hu : Nat → Bool) (Oo X Kd : Nat → Nat) (N : Nat → Nat → Bool) (S : Nat → Bool) (j : Nat) : Bool := Hu j && decide (Oo j = 1) && !(N j (X j) && ((S j || S (X j)) == decide (nI (Kd j) = 1)))
def mtR (Hu : Nat → Bool) (Oo X : Nat → Nat) (x j : Nat) : Bool := Hu j && decide (Oo j = 1) && decide (X j = x)
def upR (Hu : Nat → Bool) (P : Nat → Nat) (p j : Nat) : Bool := Hu j && decide (pOf Hu P j = p)
def hoR (Mv Sm : Nat → Bool) (Mt : Nat → Nat → Bool) (X : Nat → Nat) (j : Nat) : Bool := (Mv j && !(Sm j)) && ((Mv (X j) && !(Sm (X j))) && Mt j (X j))
def hsR (St Mv : Nat → Bool) (Mt : Nat → Nat → Bool) (Oo X Y : Nat → Nat) (j : Nat) : Bool := St j && decide (Oo j = 2) && (Mt (Y j) (X j) || (decide (X j = Y j) && !Mv (X j)))
def bkR (St Mv : Nat → Bool) (Mt : Nat → Nat → Bool) (Oo X Y : Nat → Nat) (x j : Nat) : Bool := hsR St Mv Mt Oo X Y j && decide (X j = x)
def caR (St : Nat → Bool) (Mt : Nat → Nat → Bool) (Oo X Y : Nat → Nat) (x j : Nat) : Bool := St j && decide (Oo j = 3) && Mt (Y j) (X j) && decide (X j = x)

theorem d_Se_readUnits_0 : decode b_Se_readUnits 0 = .ok (.iconst 0, 1) := by decide +kernel
theorem d_Se_readUnits_1 : decode b_Se_readUnits 1 = .ok (.istore_n 1, 1) := by decide +kernel
theorem d_Se_readUnits_2 : decode b_Se_readUnits 2 = .ok (.iload_n 1, 1) := by decide +kernel
theorem d_Se_readUnits_3 : decode b_Se_readUnits 3 = .ok (.aload_n 0, 1) := by decide +kernel
theorem d_Se_readUnits_4 : decode b_Se_readUnits 4 = .ok (.getfield 27, 3) := by decide +kernel
theorem d_Se_readUnits_7 : decode b_Se_readUnits 7 = .ok (.getfield 93, 3) := by decide +kernel
theorem d_Se_readUnits_10 : decode b_Se_readUnits 10 = .ok (.if_icmp .ge 144, 3) := by decide +kernel
theorem d_Se_readUnits_13 : decode b_Se_readUnits 13 = .ok (.aload_n 0, 1) := by decide +kernel
theorem d_Se_readUnits_14 : decode b_Se_readUnits 14 = .ok (.getfield 31, 3) := by decide +kernel
theorem d_Se_readUnits_17 : decode b_Se_readUnits 17 = .ok (.iload_n 1, 1) := by decide +kernel
theorem d_Se_readUnits_18 : decode b_Se_readUnits 18 = .ok (.invokevirtual 127, 3) := by decide +kernel
theorem d_Se_readUnits_21 : decode b_Se_readUnits 21 = .ok (.ifCond .ne 6, 3) := by decide +kernel
theorem d_Se_readUnits_24 : decode b_Se_readUnits 24 = .ok (.goto 124, 3) := by decide +kernel
theorem d_Se_readUnits_27 : decode b_Se_readUnits 27 = .ok (.aload_n 0, 1) := by decide +kernel
theorem d_Se_readUnits_28 : decode b_Se_readUnits 28 = .ok (.dup, 1) := by decide +kernel
theorem d_Se_readUnits_29 : decode b_Se_readUnits 29 = .ok (.getfield 80, 3) := by decide +kernel
theorem d_Se_readUnits_32 : decode b_Se_readUnits 32 = .ok (.iload_n 1, 1) := by decide +kernel
theorem d_Se_readUnits_33 : decode b_Se_readUnits 33 = .ok (.invokestatic 131, 3) := by decide +kernel
theorem d_Se_readUnits_36 : decode b_Se_readUnits 36 = .ok (.ior, 1) := by decide +kernel
theorem d_Se_readUnits_37 : decode b_Se_readUnits 37 = .ok (.putfield 80, 3) := by decide +kernel
theorem d_Se_readUnits_40 : decode b_Se_readUnits 40 = .ok (.aload_n 0, 1) := by decide +kernel
theorem d_Se_readUnits_41 : decode b_Se_readUnits 41 = .ok (.getfield 21, 3) := by decide +kernel
theorem d_Se_readUnits_44 : decode b_Se_readUnits 44 = .ok (.aload_n 0, 1) := by decide +kernel
theorem d_Se_readUnits_45 : decode b_Se_readUnits 45 = .ok (.getfield 31, 3) := by decide +kernel
theorem d_Se_readUnits_48 : decode b_Se_readUnits 48 = .ok (.iload_n 1, 1) := by decide +kernel
theorem d_Se_readUnits_49 : decode b_Se_readUnits 49 = .ok (.invokevirtual 143, 3) := by decide +kernel
theorem d_Se_readUnits_52 : decode b_Se_readUnits 52 = .ok (.dup2, 1) := by decide +kernel
theorem d_Se_readUnits_53 : decode b_Se_readUnits 53 = .ok (.iaload, 1) := by decide +kernel
theorem d_Se_readUnits_54 : decode b_Se_readUnits 54 = .ok (.iload_n 1, 1) := by decide +kernel
theorem d_Se_readUnits_55 : decode b_Se_readUnits 55 = .ok (.invokestatic 131, 3) := by decide +kernel
theorem d_Se_readUnits_58 : decode b_Se_readUnits 58 = .ok (.ior, 1) := by decide +kernel
theorem d_Se_readUnits_59 : decode b_Se_readUnits 59 = .ok (.iastore, 1) := by decide +kernel
theorem d_Se_readUnits_60 : decode b_Se_readUnits 60 = .ok (.aload_n 0, 1) := by decide +kernel
theorem d_Se_readUnits_61 : decode b_Se_readUnits 61 = .ok (.getfield 31, 3) := by decide +kernel
theorem d_Se_readUnits_64 : decode b_Se_readUnits 64 = .ok (.getfield 121, 3) := by decide +kernel
theorem d_Se_readUnits_67 : decode b_Se_readUnits 67 = .ok (.iload_n 1, 1) := by decide +kernel
theorem d_Se_readUnits_68 : decode b_Se_readUnits 68 = .ok (.iaload, 1) := by decide +kernel
theorem d_Se_readUnits_69 : decode b_Se_readUnits 69 = .ok (.iconst 1, 1) := by decide +kernel
theorem d_Se_readUnits_70 : decode b_Se_readUnits 70 = .ok (.if_icmp .ne 78, 3) := by decide +kernel
theorem d_Se_readUnits_73 : decode b_Se_readUnits 73 = .ok (.aload_n 0, 1) := by decide +kernel
theorem d_Se_readUnits_74 : decode b_Se_readUnits 74 = .ok (.dup, 1) := by decide +kernel
theorem d_Se_readUnits_75 : decode b_Se_readUnits 75 = .ok (.getfield 66, 3) := by decide +kernel
theorem d_Se_readUnits_78 : decode b_Se_readUnits 78 = .ok (.iload_n 1, 1) := by decide +kernel
theorem d_Se_readUnits_79 : decode b_Se_readUnits 79 = .ok (.invokestatic 131, 3) := by decide +kernel
theorem d_Se_readUnits_82 : decode b_Se_readUnits 82 = .ok (.ior, 1) := by decide +kernel
theorem d_Se_readUnits_83 : decode b_Se_readUnits 83 = .ok (.putfield 66, 3) := by decide +kernel
theorem d_Se_readUnits_86 : decode b_Se_readUnits 86 = .ok (.aload_n 0, 1) := by decide +kernel
theorem d_Se_readUnits_87 : decode b_Se_readUnits 87 = .ok (.getfield 9, 3) := by decide +kernel
theorem d_Se_readUnits_90 : decode b_Se_readUnits 90 = .ok (.aload_n 0, 1) := by decide +kernel
theorem d_Se_readUnits_91 : decode b_Se_readUnits 91 = .ok (.getfield 31, 3) := by decide +kernel
theorem d_Se_readUnits_94 : decode b_Se_readUnits 94 = .ok (.getfield 105, 3) := by decide +kernel
theorem d_Se_readUnits_97 : decode b_Se_readUnits 97 = .ok (.iload_n 1, 1) := by decide +kernel
theorem d_Se_readUnits_98 : decode b_Se_readUnits 98 = .ok (.iaload, 1) := by decide +kernel
theorem d_Se_readUnits_99 : decode b_Se_readUnits 99 = .ok (.dup2, 1) := by decide +kernel
theorem d_Se_readUnits_100 : decode b_Se_readUnits 100 = .ok (.iaload, 1) := by decide +kernel
theorem d_Se_readUnits_101 : decode b_Se_readUnits 101 = .ok (.iload_n 1, 1) := by decide +kernel
theorem d_Se_readUnits_102 : decode b_Se_readUnits 102 = .ok (.invokestatic 131, 3) := by decide +kernel
theorem d_Se_readUnits_105 : decode b_Se_readUnits 105 = .ok (.ior, 1) := by decide +kernel
theorem d_Se_readUnits_106 : decode b_Se_readUnits 106 = .ok (.iastore, 1) := by decide +kernel
theorem d_Se_readUnits_107 : decode b_Se_readUnits 107 = .ok (.aload_n 0, 1) := by decide +kernel
theorem d_Se_readUnits_108 : decode b_Se_readUnits 108 = .ok (.getfield 27, 3) := by decide +kernel
theorem d_Se_readUnits_111 : decode b_Se_readUnits 111 = .ok (.aload_n 0, 1) := by decide +kernel
theorem d_Se_readUnits_112 : decode b_Se_readUnits 112 = .ok (.getfield 31, 3) := by decide +kernel
theorem d_Se_readUnits_115 : decode b_Se_readUnits 115 = .ok (.iload_n 1, 1) := by decide +kernel
theorem d_Se_readUnits_116 : decode b_Se_readUnits 116 = .ok (.invokevirtual 146, 3) := by decide +kernel
theorem d_Se_readUnits_119 : decode b_Se_readUnits 119 = .ok (.iload_n 1, 1) := by decide +kernel
theorem d_Se_readUnits_120 : decode b_Se_readUnits 120 = .ok (.aload_n 0, 1) := by decide +kernel
theorem d_Se_readUnits_121 : decode b_Se_readUnits 121 = .ok (.getfield 31, 3) := by decide +kernel
theorem d_Se_readUnits_124 : decode b_Se_readUnits 124 = .ok (.getfield 105, 3) := by decide +kernel
theorem d_Se_readUnits_127 : decode b_Se_readUnits 127 = .ok (.iload_n 1, 1) := by decide +kernel
theorem d_Se_readUnits_128 : decode b_Se_readUnits 128 = .ok (.iaload, 1) := by decide +kernel
theorem d_Se_readUnits_129 : decode b_Se_readUnits 129 = .ok (.invokevirtual 149, 3) := by decide +kernel
theorem d_Se_readUnits_132 : decode b_Se_readUnits 132 = .ok (.ifCond .ne 16, 3) := by decide +kernel
theorem d_Se_readUnits_135 : decode b_Se_readUnits 135 = .ok (.aload_n 0, 1) := by decide +kernel
theorem d_Se_readUnits_136 : decode b_Se_readUnits 136 = .ok (.dup, 1) := by decide +kernel
theorem d_Se_readUnits_137 : decode b_Se_readUnits 137 = .ok (.getfield 111, 3) := by decide +kernel
theorem d_Se_readUnits_140 : decode b_Se_readUnits 140 = .ok (.iload_n 1, 1) := by decide +kernel
theorem d_Se_readUnits_141 : decode b_Se_readUnits 141 = .ok (.invokestatic 131, 3) := by decide +kernel
theorem d_Se_readUnits_144 : decode b_Se_readUnits 144 = .ok (.ior, 1) := by decide +kernel
theorem d_Se_readUnits_145 : decode b_Se_readUnits 145 = .ok (.putfield 111, 3) := by decide +kernel
theorem d_Se_readUnits_148 : decode b_Se_readUnits 148 = .ok (.iinc 1 1, 3) := by decide +kernel
theorem d_Se_readUnits_151 : decode b_Se_readUnits 151 = .ok (.goto (-149), 3) := by decide +kernel
theorem d_Se_readUnits_154 : decode b_Se_readUnits 154 = .ok (.aload_n 0, 1) := by decide +kernel
theorem d_Se_readUnits_155 : decode b_Se_readUnits 155 = .ok (.aload_n 0, 1) := by decide +kernel
theorem d_Se_readUnits_156 : decode b_Se_readUnits 156 = .ok (.getfield 66, 3) := by decide +kernel
theorem d_Se_readUnits_159 : decode b_Se_readUnits 159 = .ok (.putfield 53, 3) := by decide +kernel
theorem d_Se_readUnits_162 : decode b_Se_readUnits 162 = .ok (.return_, 1) := by decide +kernel
theorem wd_514 : (Cond.methodLink "SheetWar$Settling" (127 : Nat) ({ cls := "SheetWar$Sheet", name := "hasUnit", desc := "(I)Z" } : MethodName)) ∈ TB := tb_t 514 (by decide +kernel) (by decide +kernel)
theorem wd_69 : (Cond.fieldLink "SheetWar$Settling" (121 : Nat) "SheetWar$Sheet" "orders" "[I") ∈ TB := tb_t 69 (by decide +kernel) (by decide +kernel)
theorem wd_477 : (Cond.code ({ cls := "SheetWar$Sheet", name := "kindAt", desc := "(I)I" } : MethodName) prog_5_method_5_code (2 : Nat) (Option.some FieldType.int)) ∈ TB := tb_t 477 (by decide +kernel) (by decide +kernel)
theorem wd_517 : (Cond.methodLink "SheetWar$Settling" (146 : Nat) ({ cls := "SheetWar$Sheet", name := "kindAt", desc := "(I)I" } : MethodName)) ∈ TB := tb_t 517 (by decide +kernel) (by decide +kernel)
theorem wd_475 : (Cond.instanceMethod ({ cls := "SheetWar$Sheet", name := "kindAt", desc := "(I)I" } : MethodName)) ∈ TB := tb_t 475 (by decide +kernel) (by decide +kernel)
theorem wd_476 : (Cond.selects "SheetWar$Sheet" ({ cls := "SheetWar$Sheet", name := "kindAt", desc := "(I)I" } : MethodName) ({ cls := "SheetWar$Sheet", name := "kindAt", desc := "(I)I" } : MethodName)) ∈ TB := tb_t 476 (by decide +kernel) (by decide +kernel)
theorem wd_278 : (Cond.code ({ cls := "SheetWar$WarMap", name := "canGo", desc := "(III)Z" } : MethodName) prog_6_method_6_code (5 : Nat) (Option.some FieldType.boolean)) ∈ TB := tb_t 278 (by decide +kernel) (by decide +kernel)
theorem wd_518 : (Cond.methodLink "SheetWar$Settling" (149 : Nat) ({ cls := "SheetWar$WarMap", name := "canGo", desc := "(III)Z" } : MethodName)) ∈ TB := tb_t 518 (by decide +kernel) (by decide +kernel)
theorem wd_276 : (Cond.instanceMethod ({ cls := "SheetWar$WarMap", name := "canGo", desc := "(III)Z" } : MethodName)) ∈ TB := tb_t 276 (by decide +kernel) (by decide +kernel)
theorem wd_277 : (Cond.selects "SheetWar$WarMap" ({ cls := "SheetWar$WarMap", name := "canGo", desc := "(III)Z" } : MethodName) ({ cls := "SheetWar$WarMap", name := "canGo", desc := "(III)Z" } : MethodName)) ∈ TB := tb_t 277 (by decide +kernel) (by decide +kernel)
set_option maxHeartbeats 4000000 in
set_option maxRecDepth 100000 in
theorem c_Se_readUnits (l : Launch) (D : va_G) (cI cZ cJ cS : ClassId) (aT : Nat) (ceT : Cell) (sz : Nat) (h0 qm qs q1 q2 q3 q4 q5 : Nat) (Ho Su Op Sd Od Sp Oq : Nat → Bool) (qh qn n : Nat) (S Ce : Nat → Bool) (N : Nat → Nat → Bool) (tn : Int32) (qu qo qx qy qr qw : Nat) (Hu : Nat → Bool) (P Kd : Nat → Nat) (Oo X : Nat → Nat) (hX12 : ∀ j, X j < 12) (hO4 : ∀ j, Oo j < 4) (hP4 : ∀ j, P j < 4) (hK2 : ∀ j, Kd j < 2) (hn : n ≤ 12) : Met l y_Se_readUnits w_Se_readUnits ({ frames := 3, cells := 0, slots := 0, locals := 66 }) (tH D cI cZ cJ cS aT ceT [.ref h0] sz [(h0, .inr (2, [.ref qm, .ref qs, .int (mI (fun _ => false)), .int (mI (fun _ => false)), .int (mI (fun _ => false)), .int (mI Ho), .ref q1, .ref q2, .ref q3, .ref q4, .int (mI Su), .int (mI Op), .int (mI Sd), .int (mI Od), .int (mI Sp), .int (mI Oq), .ref q5])), (qm, .inr (4, [.int (nI n), .int (mI S), .int (mI Ce), .ref qh, .ref qn])), (qn, .inl (cI, 12, .inl (fun j => mI (N j)))), (qs, .inr (3, [.int tn, .ref qu, .ref qo, .ref qx, .ref qy, .ref qr, .ref qw])), (qu, .inl (cI, 12, .inl (fun j => unI (Hu j) (P j) (Kd j)))), (qo, .inl (cI, 12, .inl (fun j => nI (Oo j)))), (qx, .inl (cI, 12, .inl (fun j => nI (X j)))), (q1, .inl (cI, 12, .inl (fun _ => 0))), (q4, .inl (cI, 4, .inl (fun _ => 0)))]) (va_Qv (fun _ : Unit => True) (fun _ t => tB D (va_A [(h0, .inr (2, [.ref qm, .ref qs, .int (mI (fun _ => false)), .int (mI (fun _ => false)), .int (mI (fun _ => false)), .int (mI Ho), .ref q1, .ref q2, .ref q3, .ref q4, .int (mI Su), .int (mI Op), .int (mI Sd), .int (mI Od), .int (mI Sp), .int (mI Oq), .ref q5])), (qm, .inr (4, [.int (nI n), .int (mI S), .int (mI Ce), .ref qh, .ref qn])), (qn, .inl (cI, 12, .inl (fun j => mI (N j)))), (qs, .inr (3, [.int tn, .ref qu, .ref qo, .ref qx, .ref qy, .ref qr, .ref qw])), (qu, .inl (cI, 12, .inl (fun j => unI (Hu j) (P j) (Kd j)))), (qo, .inl (cI, 12, .inl (fun j => nI (Oo j)))), (qx, .inl (cI, 12, .inl (fun j => nI (X j)))), (q1, .inl (cI, 12, .inl (fun _ => 0))), (q4, .inl (cI, 4, .inl (fun _ => 0)))] sz) [(h0, .inr (2, [.ref qm, .ref qs, .int (mI (upTo Hu n)), .int (mI (upTo (mvR Hu Oo) n)), .int (mI (upTo (smR Hu Oo X Kd N S) n)), .int (mI Ho), .ref q1, .ref q2, .ref q3, .ref q4, .int (mI Su), .int (mI (upTo (mvR Hu Oo) n)), .int (mI Sd), .int (mI Od), .int (mI Sp), .int (mI Oq), .ref q5])), (qm, .inr (4, [.int (nI n), .int (mI S), .int (mI Ce), .ref qh, .ref qn])), (qn, .inl (cI, 12, .inl (fun j => mI (N j)))), (qs, .inr (3, [.int tn, .ref qu, .ref qo, .ref qx, .ref qy, .ref qr, .ref qw])), (qu, .inl (cI, 12, .inl (fun j => unI (Hu j) (P j) (Kd j)))), (qo, .inl (cI, 12, .inl (fun j => nI (Oo j)))), (qx, .inl (cI, 12, .inl (fun j => nI (X j)))), (q1, .inl (cI, 12, .inl (fun j => mI (upTo (mtR Hu Oo X j) n)))), (q4, .inl (cI, 4, .inl (fun j => mI (upTo (upR Hu P j) n))))] t) (va_A [(h0, .inr (2, [.ref qm, .ref qs, .int (mI (fun _ => false)), .int (mI (fun _ => false)), .int (mI (fun _ => false)), .int (mI Ho), .ref q1, .ref q2, .ref q3, .ref q4, .int (mI Su), .int (mI Op), .int (mI Sd), .int (mI Od), .int (mI Sp), .int (mI Oq), .ref q5])), (qm, .inr (4, [.int (nI n), .int (mI S), .int (mI Ce), .ref qh, .ref qn])), (qn, .inl (cI, 12, .inl (fun j => mI (N j)))), (qs, .inr (3, [.int tn, .ref qu, .ref qo, .ref qx, .ref qy, .ref qr, .ref qw])), (qu, .inl (cI, 12, .inl (fun j => unI (Hu j) (P j) (Kd j)))), (qo, .inl (cI, 12, .inl (fun j => nI (Oo j)))), (qx, .inl (cI, 12, .inl (fun j => nI (X j)))), (q1, .inl (cI, 12, .inl (fun _ => 0))), (q4, .inl (cI, 4, .inl (fun _ => 0)))] sz)) 0 0 (va_A [(h0, .inr (2, [.ref qm, .ref qs, .int (mI (fun _ => false)), .int (mI (fun _ => false)), .int (mI (fun _ => false)), .int (mI Ho), .ref q1, .ref q2, .ref q3, .ref q4, .int (mI Su), .int (mI Op), .int (mI Sd), .int (mI Od), .int (mI Sp), .int (mI Oq), .ref q5])), (qm, .inr (4, [.int (nI n), .int (mI S), .int (mI Ce), .ref qh, .ref qn])), (qn, .inl (cI, 12, .inl (fun j => mI (N j)))), (qs, .inr (3, [.int tn, .ref qu, .ref qo, .ref qx, .ref qy, .ref qr, .ref qw])), (qu, .inl (cI, 12, .inl (fun j => unI (Hu j) (P j) (Kd j)))), (qo, .inl (cI, 12, .inl (fun j => nI (Oo j)))), (qx, .inl (cI, 12, .inl (fun j => nI (X j)))), (q1, .inl (cI, 12, .inl (fun _ => 0))), (q4, .inl (cI, 4, .inl (fun _ => 0)))] sz) := by
  refine Met.ofW (cc := b_Se_readUnits) (maxL := 2) (ret := none) (by decide) rfl ?_
  intro p e s m args below meth c s₁ B hml hv
  obtain ⟨rfl, hsz, hP, hK, hD0, hX⟩ := hv
  have hx := B.exec
  have hb := B.bytes
  have hr := B.returns
  have hts0 := atoms_spec (ws := w_Se_readUnits) B.pre
  have hts : ∀ w ∈ TB, w.before _ s = true := fun w h => hts0 w (List.mem_cons_of_mem _ h)
  have hown : s.vm.findClass R_Se = some m.cls := findClass_of_methodNamed B.named
  have hlocks := B.notSynchronized
  subst hsz
  have hXl := tx_lt hX
  have hXn := tx_far hP hX
  have hD := hD0.self (sz := s.heap.size)
  generalize hAe : va_A [(h0, .inr (2, [.ref qm, .ref qs, .int (mI (fun _ => false)), .int (mI (fun _ => false)), .int (mI (fun _ => false)), .int (mI Ho), .ref q1, .ref q2, .ref q3, .ref q4, .int (mI Su), .int (mI Op), .int (mI Sd), .int (mI Od), .int (mI Sp), .int (mI Oq), .ref q5])), (qm, .inr (4, [.int (nI n), .int (mI S), .int (mI Ce), .ref qh, .ref qn])), (qn, .inl (cI, 12, .inl (fun j => mI (N j)))), (qs, .inr (3, [.int tn, .ref qu, .ref qo, .ref qx, .ref qy, .ref qr, .ref qw])), (qu, .inl (cI, 12, .inl (fun j => unI (Hu j) (P j) (Kd j)))), (qo, .inl (cI, 12, .inl (fun j => nI (Oo j)))), (qx, .inl (cI, 12, .inl (fun j => nI (X j)))), (q1, .inl (cI, 12, .inl (fun _ => 0))), (q4, .inl (cI, 4, .inl (fun _ => 0)))] s.heap.size = A at hD hXn ⊢
  have hA : ∀ q : Nat, s.heap.size ≤ q → A q := fun q h => by rw [← hAe]; exact Or.inr h
  have hS : va_S A s.heap s.heap [] := va_S.rf
  have hXH : s.heap[aT]? = s.heap[aT]? := rfl
  have hl := lv_entry ([.ref h0]) (n := 2) (Nat.le_of_ble_eq_true rfl)
  rw [lg_entry_eq]
  generalize (lg_sl ([.ref h0]) ++ List.replicate (2 - (lg_sl ([.ref h0])).length) Slot.unset).toArray = ls at hl ⊢
  have hl : lv_has ls 2 [(0, .ref h0)] := hl
  refine lv_iconst (v := 0) hx hb d_Se_readUnits_0 (by decide) ?_
  refine lv_istore_n (lv' := [(1, .int 0), (0, .ref h0)]) hx hb d_Se_readUnits_1 rfl hl (by decide) rfl (fun ls hl => ?_)
  have loop : ∀ (k i : Nat) (ls : Array Slot) (H : Heap) (locs : List Loc), i + k = n → lv_has ls 2 [(1, .int (nI i)), (0, .ref h0)] → va_P D vwCl [(h0, .inr (2, [.ref qm, .ref qs, .int (mI (upTo Hu i)), .int (mI (upTo (mvR Hu Oo) i)), .int (mI (upTo (smR Hu Oo X Kd N S) i)), .int (mI Ho), .ref q1, .ref q2, .ref q3, .ref q4, .int (mI Su), .int (mI Op), .int (mI Sd), .int (mI Od), .int (mI Sp), .int (mI Oq), .ref q5])), (qm, .inr (4, [.int (nI n), .int (mI S), .int (mI Ce), .ref qh, .ref qn])), (qn, .inl (cI, 12, .inl (fun j => mI (N j)))), (qs, .inr (3, [.int tn, .ref qu, .ref qo, .ref qx, .ref qy, .ref qr, .ref qw])), (qu, .inl (cI, 12, .inl (fun j => unI (Hu j) (P j) (Kd j)))), (qo, .inl (cI, 12, .inl (fun j => nI (Oo j)))), (qx, .inl (cI, 12, .inl (fun j => nI (X j)))), (q1, .inl (cI, 12, .inl (fun j => mI (upTo (mtR Hu Oo X j) i)))), (q4, .inl (cI, 4, .inl (fun j => mI (upTo (upR Hu P j) i))))] H → va_D A [(h0, .inr (2, [.ref qm, .ref qs, .int (mI (upTo Hu i)), .int (mI (upTo (mvR Hu Oo) i)), .int (mI (upTo (smR Hu Oo X Kd N S) i)), .int (mI Ho), .ref q1, .ref q2, .ref q3, .ref q4, .int (mI Su), .int (mI Op), .int (mI Sd), .int (mI Od), .int (mI Sp), .int (mI Oq), .ref q5])), (qm, .inr (4, [.int (nI n), .int (mI S), .int (mI Ce), .ref qh, .ref qn])), (qn, .inl (cI, 12, .inl (fun j => mI (N j)))), (qs, .inr (3, [.int tn, .ref qu, .ref qo, .ref qx, .ref qy, .ref qr, .ref qw])), (qu, .inl (cI, 12, .inl (fun j => unI (Hu j) (P j) (Kd j)))), (qo, .inl (cI, 12, .inl (fun j => nI (Oo j)))), (qx, .inl (cI, 12, .inl (fun j => nI (X j)))), (q1, .inl (cI, 12, .inl (fun j => mI (upTo (mtR Hu Oo X j) i)))), (q4, .inl (cI, 4, .inl (fun j => mI (upTo (upR Hu P j) i))))] → va_S A s.heap H locs → W p l e (headSpec w_Se_readUnits ({ frames := 3, cells := 0, slots := 0, locals := 66 })).room s m ([.ref h0]).toArray below meth c H locs 0 0 (MQ below (va_Qv (fun _ : Unit => True) (fun _ t => tB D A [(h0, .inr (2, [.ref qm, .ref qs, .int (mI (upTo Hu n)), .int (mI (upTo (mvR Hu Oo) n)), .int (mI (upTo (smR Hu Oo X Kd N S) n)), .int (mI Ho), .ref q1, .ref q2, .ref q3, .ref q4, .int (mI Su), .int (mI (upTo (mvR Hu Oo) n)), .int (mI Sd), .int (mI Od), .int (mI Sp), .int (mI Oq), .ref q5])), (qm, .inr (4, [.int (nI n), .int (mI S), .int (mI Ce), .ref qh, .ref qn])), (qn, .inl (cI, 12, .inl (fun j => mI (N j)))), (qs, .inr (3, [.int tn, .ref qu, .ref qo, .ref qx, .ref qy, .ref qr, .ref qw])), (qu, .inl (cI, 12, .inl (fun j => unI (Hu j) (P j) (Kd j)))), (qo, .inl (cI, 12, .inl (fun j => nI (Oo j)))), (qx, .inl (cI, 12, .inl (fun j => nI (X j)))), (q1, .inl (cI, 12, .inl (fun j => mI (upTo (mtR Hu Oo X j) n)))), (q4, .inl (cI, 4, .inl (fun j => mI (upTo (upR Hu P j) n))))] t) A) ([.ref h0]).toArray s 0 0 A) (F0 m 2 ls []) := by
    intro k
    induction k with
    | zero =>
      intro i ls H locs hi hl hP hD hS
      have hie : i = n := by omega
      rw [hie] at hl hP hD
      refine lv_iload_n hx hb d_Se_readUnits_2 rfl (lv_at hl 0 rfl) ?_
      refine lv_aload_n hx hb d_Se_readUnits_3 rfl (lv_at hl 1 rfl) ?_
      refine va_get (D := D) (ci := 2) (v := .ref qm) (C := R_Se) (T := T_Se) (N := 17) hx hb hts hin_Se hown hK hP 0 rfl rfl 0 (by decide) (hts _ wd_103) (fun _ h9 => h9) rfl d_Se_readUnits_4 ?_
      refine va_get (D := D) (ci := 4) (v := .int (nI n)) (C := R_Wm) (T := T_Wm) (N := 5) hx hb hts hin_Wm hown hK hP 1 rfl rfl 0 (by decide) (hts _ wd_33) (fun _ h9 => h9) rfl d_Se_readUnits_7 ?_
      refine lv_icmp_ge (tgt := 154) hx hb d_Se_readUnits_10 (by decide) (fun _ => ?_) (fun h0 => absurd (Int32.le_refl _) h0)
      refine lv_aload_n hx hb d_Se_readUnits_154 rfl (lv_at hl 1 rfl) ?_
      refine lv_aload_n hx hb d_Se_readUnits_155 rfl (lv_at hl 1 rfl) ?_
      refine va_get (D := D) (ci := 2) (v := .int (mI (upTo (mvR Hu Oo) n))) (C := R_Se) (T := T_Se) (N := 17) hx hb hts hin_Se hown hK hP 0 rfl rfl 3 (by decide) (hts _ wd_106) (fun _ h9 => h9) rfl d_Se_readUnits_156 ?_
      refine va_put (D := D) (ci := 2) (v := .int (mI (upTo (mvR Hu Oo) n))) (ty := .int) (C := R_Se) (T := T_Se) (N := 17) hx hb hts hin_Se ty_Se tyok_Se nm_Se hown hK hP hD hS 0 rfl rfl 11 (by decide) (hts _ wd_114) (fun _ h9 => h9) rfl (by decide +kernel) rfl rfl (Nat.le_of_ble_eq_true rfl) d_Se_readUnits_159 (fun H locs hP hD hS => ?_)
      have hP : va_P D vwCl [(h0, .inr (2, [.ref qm, .ref qs, .int (mI (upTo Hu n)), .int (mI (upTo (mvR Hu Oo) n)), .int (mI (upTo (smR Hu Oo X Kd N S) n)), .int (mI Ho), .ref q1, .ref q2, .ref q3, .ref q4, .int (mI Su), .int (mI (upTo (mvR Hu Oo) n)), .int (mI Sd), .int (mI Od), .int (mI Sp), .int (mI Oq), .ref q5])), (qm, .inr (4, [.int (nI n), .int (mI S), .int (mI Ce), .ref qh, .ref qn])), (qn, .inl (cI, 12, .inl (fun j => mI (N j)))), (qs, .inr (3, [.int tn, .ref qu, .ref qo, .ref qx, .ref qy, .ref qr, .ref qw])), (qu, .inl (cI, 12, .inl (fun j => unI (Hu j) (P j) (Kd j)))), (qo, .inl (cI, 12, .inl (fun j => nI (Oo j)))), (qx, .inl (cI, 12, .inl (fun j => nI (X j)))), (q1, .inl (cI, 12, .inl (fun j => mI (upTo (mtR Hu Oo X j) n)))), (q4, .inl (cI, 4, .inl (fun j => mI (upTo (upR Hu P j) n))))] H := hP
      have hD : va_D A [(h0, .inr (2, [.ref qm, .ref qs, .int (mI (upTo Hu n)), .int (mI (upTo (mvR Hu Oo) n)), .int (mI (upTo (smR Hu Oo X Kd N S) n)), .int (mI Ho), .ref q1, .ref q2, .ref q3, .ref q4, .int (mI Su), .int (mI (upTo (mvR Hu Oo) n)), .int (mI Sd), .int (mI Od), .int (mI Sp), .int (mI Oq), .ref q5])), (qm, .inr (4, [.int (nI n), .int (mI S), .int (mI Ce), .ref qh, .ref qn])), (qn, .inl (cI, 12, .inl (fun j => mI (N j)))), (qs, .inr (3, [.int tn, .ref qu, .ref qo, .ref qx, .ref qy, .ref qr, .ref qw])), (qu, .inl (cI, 12, .inl (fun j => unI (Hu j) (P j) (Kd j)))), (qo, .inl (cI, 12, .inl (fun j => nI (Oo j)))), (qx, .inl (cI, 12, .inl (fun j => nI (X j)))), (q1, .inl (cI, 12, .inl (fun j => mI (upTo (mtR Hu Oo X j) n)))), (q4, .inl (cI, 4, .inl (fun j => mI (upTo (upR Hu P j) n))))] := hD
      have hP9 := hP.sub (ws' := [(h0, .inr (2, [.ref qm, .ref qs, .int (mI (upTo Hu n)), .int (mI (upTo (mvR Hu Oo) n)), .int (mI (upTo (smR Hu Oo X Kd N S) n)), .int (mI Ho), .ref q1, .ref q2, .ref q3, .ref q4, .int (mI Su), .int (mI (upTo (mvR Hu Oo) n)), .int (mI Sd), .int (mI Od), .int (mI Sp), .int (mI Oq), .ref q5])), (qm, .inr (4, [.int (nI n), .int (mI S), .int (mI Ce), .ref qh, .ref qn])), (qn, .inl (cI, 12, .inl (fun j => mI (N j)))), (qs, .inr (3, [.int tn, .ref qu, .ref qo, .ref qx, .ref qy, .ref qr, .ref qw])), (qu, .inl (cI, 12, .inl (fun j => unI (Hu j) (P j) (Kd j)))), (qo, .inl (cI, 12, .inl (fun j => nI (Oo j)))), (qx, .inl (cI, 12, .inl (fun j => nI (X j)))), (q1, .inl (cI, 12, .inl (fun j => mI (upTo (mtR Hu Oo X j) n)))), (q4, .inl (cI, 4, .inl (fun j => mI (upTo (upR Hu P j) n))))]) [0, 1, 2, 3, 4, 5, 6, 7, 8] rfl
      have hD9 := hD.sub (ws' := [(h0, .inr (2, [.ref qm, .ref qs, .int (mI (upTo Hu n)), .int (mI (upTo (mvR Hu Oo) n)), .int (mI (upTo (smR Hu Oo X Kd N S) n)), .int (mI Ho), .ref q1, .ref q2, .ref q3, .ref q4, .int (mI Su), .int (mI (upTo (mvR Hu Oo) n)), .int (mI Sd), .int (mI Od), .int (mI Sp), .int (mI Oq), .ref q5])), (qm, .inr (4, [.int (nI n), .int (mI S), .int (mI Ce), .ref qh, .ref qn])), (qn, .inl (cI, 12, .inl (fun j => mI (N j)))), (qs, .inr (3, [.int tn, .ref qu, .ref qo, .ref qx, .ref qy, .ref qr, .ref qw])), (qu, .inl (cI, 12, .inl (fun j => unI (Hu j) (P j) (Kd j)))), (qo, .inl (cI, 12, .inl (fun j => nI (Oo j)))), (qx, .inl (cI, 12, .inl (fun j => nI (X j)))), (q1, .inl (cI, 12, .inl (fun j => mI (upTo (mtR Hu Oo X j) n)))), (q4, .inl (cI, 4, .inl (fun j => mI (upTo (upR Hu P j) n))))]) [0, 1, 2, 3, 4, 5, 6, 7, 8] (by decide) rfl
      exact W.vret hx hb hr (fun t ht hW => ⟨⟨(), rfl, trivial, by rw [ht]; exact hP9, hD9⟩, hS.F ht⟩) hS.2.2 d_Se_readUnits_162
    | succ k ih =>
      intro i ls H locs hi hl hP hD hS
      have hlt : i < n := by omega
      have hlt12 : i < 12 := by omega
      refine lv_iload_n hx hb d_Se_readUnits_2 rfl (lv_at hl 0 rfl) ?_
      refine lv_aload_n hx hb d_Se_readUnits_3 rfl (lv_at hl 1 rfl) ?_
      refine va_get (D := D) (ci := 2) (v := .ref qm) (C := R_Se) (T := T_Se) (N := 17) hx hb hts hin_Se hown hK hP 0 rfl rfl 0 (by decide) (hts _ wd_103) (fun _ h9 => h9) rfl d_Se_readUnits_4 ?_
      refine va_get (D := D) (ci := 4) (v := .int (nI n)) (C := R_Wm) (T := T_Wm) (N := 5) hx hb hts hin_Wm hown hK hP 1 rfl rfl 0 (by decide) (hts _ wd_33) (fun _ h9 => h9) rfl d_Se_readUnits_7 ?_
      refine lv_icmp_ge (tgt := 154) hx hb d_Se_readUnits_10 (by decide) (fun h0 => absurd h0 (nI_ge hlt (by omega))) (fun _ => ?_)
      refine lv_aload_n hx hb d_Se_readUnits_13 rfl (lv_at hl 1 rfl) ?_
      refine va_get (D := D) (ci := 2) (v := .ref qs) (C := R_Se) (T := T_Se) (N := 17) hx hb hts hin_Se hown hK hP 0 rfl rfl 1 (by decide) (hts _ wd_104) (fun _ h9 => h9) rfl d_Se_readUnits_14 ?_
      refine lv_iload_n hx hb d_Se_readUnits_17 rfl (lv_at hl 0 rfl) ?_
      have hPc := hP.sub (ws' := [(qs, .inr (3, [.int tn, .ref qu, .ref qo, .ref qx, .ref qy, .ref qr, .ref qw])), (qu, .inl (cI, 12, .inl (fun j => unI (Hu j) (P j) (Kd j))))]) [3, 4] rfl
      refine vp_callSi (va_Run.run (va_runV (As := [.int (nI i)]) (rest := []) ⟨hx, hb, hml, hown, hts⟩ (c_Sh_hasUnitN l D cI cZ cJ cS aT ceT  qs tn qu qo qx qy qr qw Hu P Kd i hP4 hK2 hlt12) (cwV 1 hts (tb_4 wd_514 wd_287 wd_288 wd_3 (tb_c wd_289)) rfl rfl rfl ⟨rfl, by decide, by decide, by decide +kernel⟩ ⟨Nat.le_of_ble_eq_true rfl, Nat.le_of_ble_eq_true rfl⟩) (tP_V hK hX (hS.2.1 aT hXl hXn) hPc (q := 0) rfl rfl) rfl rfl hl.1 rfl (lv_room (Nat.le_of_ble_eq_true rfl)) d_Se_readUnits_18 ⟨Nat.le_of_ble_eq_true rfl, Nat.le_of_ble_eq_true rfl⟩)) (fun r3 hr9 => ?_)
      rw [hr9]
      rcases bI_c (Hu i) with ⟨hb5, e9⟩ | ⟨hb5, e9⟩
      · refine tr_top e9 ?_
        refine lv_if_ne (tgt := 27) hx hb d_Se_readUnits_21 (by decide) (fun _ => ?_) (fun h0 => absurd h0 (by decide))
        refine lv_aload_n hx hb d_Se_readUnits_27 rfl (lv_at hl 1 rfl) ?_
        refine lv_dup hx hb d_Se_readUnits_28 rfl ?_
        refine va_get (D := D) (ci := 2) (v := .int (mI (upTo Hu i))) (C := R_Se) (T := T_Se) (N := 17) hx hb hts hin_Se hown hK hP 0 rfl rfl 2 (by decide) (hts _ wd_105) (fun _ h9 => h9) rfl d_Se_readUnits_29 ?_
        refine lv_iload_n hx hb d_Se_readUnits_32 rfl (lv_at hl 0 rfl) ?_
        have hPc := hP.sub (ws' := []) [] rfl
        refine vp_callSi (va_Run.run (va_runSN (As := [.int (nI i)]) (rest := [.int (mI (upTo Hu i)), .ref h0]) ⟨hx, hb, hml, hown, hts⟩ (c_Sw_bitN l D cI cZ cJ cS aT ceT  i hlt12) (⟨va_cnB 1 hts (tb_c wd_411) rfl rfl rfl hX.2.2.2.2.2.2.2.2.1 (hts _ wd_1) ⟨by decide, by decide, by decide +kernel⟩ ⟨Nat.le_of_ble_eq_true rfl, Nat.le_of_ble_eq_true rfl⟩, hts _ wd_410, trivial⟩) (tP_S hK hX (hS.2.1 aT hXl hXn) hPc) rfl rfl hl.1 rfl (lv_room (Nat.le_of_ble_eq_true rfl)) d_Se_readUnits_33 ⟨Nat.le_of_ble_eq_true rfl, Nat.le_of_ble_eq_true rfl⟩)) (fun r7 hr9 => ?_)
        rw [hr9]
        refine lv_ior hx hb d_Se_readUnits_36 ?_
        refine tr_top (y := mI (fun j => upTo Hu i j || decide (j = i))) (mI_or _ _) ?_
        refine va_put (D := D) (ci := 2) (v := .int (mI (fun j => upTo Hu i j || decide (j = i)))) (ty := .int) (C := R_Se) (T := T_Se) (N := 17) hx hb hts hin_Se ty_Se tyok_Se nm_Se hown hK hP hD hS 0 rfl rfl 2 (by decide) (hts _ wd_105) (fun _ h9 => h9) rfl (by decide +kernel) rfl rfl (Nat.le_of_ble_eq_true rfl) d_Se_readUnits_37 (fun H locs hP hD hS => ?_)
        have hP : va_P D vwCl [(h0, .inr (2, [.ref qm, .ref qs, .int (mI (fun j => upTo Hu i j || decide (j = i))), .int (mI (upTo (mvR Hu Oo) i)), .int (mI (upTo (smR Hu Oo X Kd N S) i)), .int (mI Ho), .ref q1, .ref q2, .ref q3, .ref q4, .int (mI Su), .int (mI Op), .int (mI Sd), .int (mI Od), .int (mI Sp), .int (mI Oq), .ref q5])), (qm, .inr (4, [.int (nI n), .int (mI S), .int (mI Ce), .ref qh, .ref qn])), (qn, .inl (cI, 12, .inl (fun j => mI (N j)))), (qs, .inr (3, [.int tn, .ref qu, .ref qo, .ref qx, .ref qy, .ref qr, .ref qw])), (qu, .inl (cI, 12, .inl (fun j => unI (Hu j) (P j) (Kd j)))), (qo, .inl (cI, 12, .inl (fun j => nI (Oo j)))), (qx, .inl (cI, 12, .inl (fun j => nI (X j)))), (q1, .inl (cI, 12, .inl (fun j => mI (upTo (mtR Hu Oo X j) i)))), (q4, .inl (cI, 4, .inl (fun j => mI (upTo (upR Hu P j) i))))] H := hP
        have hD : va_D A [(h0, .inr (2, [.ref qm, .ref qs, .int (mI (fun j => upTo Hu i j || decide (j = i))), .int (mI (upTo (mvR Hu Oo) i)), .int (mI (upTo (smR Hu Oo X Kd N S) i)), .int (mI Ho), .ref q1, .ref q2, .ref q3, .ref q4, .int (mI Su), .int (mI Op), .int (mI Sd), .int (mI Od), .int (mI Sp), .int (mI Oq), .ref q5])), (qm, .inr (4, [.int (nI n), .int (mI S), .int (mI Ce), .ref qh, .ref qn])), (qn, .inl (cI, 12, .inl (fun j => mI (N j)))), (qs, .inr (3, [.int tn, .ref qu, .ref qo, .ref qx, .ref qy, .ref qr, .ref qw])), (qu, .inl (cI, 12, .inl (fun j => unI (Hu j) (P j) (Kd j)))), (qo, .inl (cI, 12, .inl (fun j => nI (Oo j)))), (qx, .inl (cI, 12, .inl (fun j => nI (X j)))), (q1, .inl (cI, 12, .inl (fun j => mI (upTo (mtR Hu Oo X j) i)))), (q4, .inl (cI, 4, .inl (fun j => mI (upTo (upR Hu P j) i))))] := hD
        refine lv_aload_n hx hb d_Se_readUnits_40 rfl (lv_at hl 1 rfl) ?_
        refine va_get (D := D) (ci := 2) (v := .ref q4) (C := R_Se) (T := T_Se) (N := 17) hx hb hts hin_Se hown hK hP 0 rfl rfl 9 (by decide) (hts _ wd_112) (fun _ h9 => h9) rfl d_Se_readUnits_41 ?_
        refine lv_aload_n hx hb d_Se_readUnits_44 rfl (lv_at hl 1 rfl) ?_
        refine va_get (D := D) (ci := 2) (v := .ref qs) (C := R_Se) (T := T_Se) (N := 17) hx hb hts hin_Se hown hK hP 0 rfl rfl 1 (by decide) (hts _ wd_104) (fun _ h9 => h9) rfl d_Se_readUnits_45 ?_
        refine lv_iload_n hx hb d_Se_readUnits_48 rfl (lv_at hl 0 rfl) ?_
        have hPc := hP.sub (ws' := [(qs, .inr (3, [.int tn, .ref qu, .ref qo, .ref qx, .ref qy, .ref qr, .ref qw])), (qu, .inl (cI, 12, .inl (fun j => unI (Hu j) (P j) (Kd j))))]) [3, 4] rfl
        refine vp_callSi (va_Run.run (va_runV (As := [.int (nI i)]) (rest := [.ref q4]) ⟨hx, hb, hml, hown, hts⟩ (c_Sh_playerAtN l D cI cZ cJ cS aT ceT  qs tn qu qo qx qy qr qw Hu P Kd i hP4 hK2 hlt12) (cwV 1 hts (tb_4 wd_516 wd_312 wd_313 wd_3 (tb_c wd_314)) rfl rfl rfl ⟨rfl, by decide, by decide, by decide +kernel⟩ ⟨Nat.le_of_ble_eq_true rfl, Nat.le_of_ble_eq_true rfl⟩) (tP_V hK hX (hS.2.1 aT hXl hXn) hPc (q := 0) rfl rfl) rfl rfl hl.1 rfl (lv_room (Nat.le_of_ble_eq_true rfl)) d_Se_readUnits_49 ⟨Nat.le_of_ble_eq_true rfl, Nat.le_of_ble_eq_true rfl⟩)) (fun r8 hr9 => ?_)
        rw [hr9]
        refine lv_dup2_11 hx hb d_Se_readUnits_52 rfl rfl ?_
        refine tr_iald (v := mI (upTo (upR Hu P (pOf Hu P i)) i)) hx hb hK hP 8 0 rfl rfl (pOf Hu P i) (pOf_lt hP4 _) (by decide) rfl d_Se_readUnits_53 ?_
        refine lv_iload_n hx hb d_Se_readUnits_54 rfl (lv_at hl 0 rfl) ?_
        have hPc := hP.sub (ws' := []) [] rfl
        refine vp_callSi (va_Run.run (va_runSN (As := [.int (nI i)]) (rest := [.int (mI (upTo (upR Hu P (pOf Hu P i)) i)), .int (nI (pOf Hu P i)), .ref q4]) ⟨hx, hb, hml, hown, hts⟩ (c_Sw_bitN l D cI cZ cJ cS aT ceT  i hlt12) (⟨va_cnB 1 hts (tb_c wd_411) rfl rfl rfl hX.2.2.2.2.2.2.2.2.1 (hts _ wd_1) ⟨by decide, by decide, by decide +kernel⟩ ⟨Nat.le_of_ble_eq_true rfl, Nat.le_of_ble_eq_true rfl⟩, hts _ wd_410, trivial⟩) (tP_S hK hX (hS.2.1 aT hXl hXn) hPc) rfl rfl hl.1 rfl (lv_room (Nat.le_of_ble_eq_true rfl)) d_Se_readUnits_55 ⟨Nat.le_of_ble_eq_true rfl, Nat.le_of_ble_eq_true rfl⟩)) (fun r9 hr9 => ?_)
        rw [hr9]
        refine lv_ior hx hb d_Se_readUnits_58 ?_
        refine tr_top (y := mI (fun j => upTo (upR Hu P (pOf Hu P i)) i j || decide (j = i))) (mI_or _ _) ?_
        refine tr_iast (g := fun j => mI (upS (fun j => upTo (upR Hu P j) i) (pOf Hu P i) (fun j => upTo (upR Hu P (pOf Hu P i)) i j || decide (j = i)) j)) hx hb hK hP hD hS 8 0 rfl rfl (pOf Hu P i) (pOf_lt hP4 _) (by decide) (upS_I (fun j => upTo (upR Hu P j) i) (pOf Hu P i) (fun j => upTo (upR Hu P (pOf Hu P i)) i j || decide (j = i))) d_Se_readUnits_59 (fun H locs hP hD hS => ?_)
        have hP : va_P D vwCl [(h0, .inr (2, [.ref qm, .ref qs, .int (mI (fun j => upTo Hu i j || decide (j = i))), .int (mI (upTo (mvR Hu Oo) i)), .int (mI (upTo (smR Hu Oo X Kd N S) i)), .int (mI Ho), .ref q1, .ref q2, .ref q3, .ref q4, .int (mI Su), .int (mI Op), .int (mI Sd), .int (mI Od), .int (mI Sp), .int (mI Oq), .ref q5])), (qm, .inr (4, [.int (nI n), .int (mI S), .int (mI Ce), .ref qh, .ref qn])), (qn, .inl (cI, 12, .inl (fun j => mI (N j)))), (qs, .inr (3, [.int tn, .ref qu, .ref qo, .ref qx, .ref qy, .ref qr, .ref qw])), (qu, .inl (cI, 12, .inl (fun j => unI (Hu j) (P j) (Kd j)))), (qo, .inl (cI, 12, .inl (fun j => nI (Oo j)))), (qx, .inl (cI, 12, .inl (fun j => nI (X j)))), (q1, .inl (cI, 12, .inl (fun j => mI (upTo (mtR Hu Oo X j) i)))), (q4, .inl (cI, 4, .inl (fun j => mI (upS (fun j => upTo (upR Hu P j) i) (pOf Hu P i) (fun j => upTo (upR Hu P (pOf Hu P i)) i j || decide (j = i)) j))))] H := hP
        have hD : va_D A [(h0, .inr (2, [.ref qm, .ref qs, .int (mI (fun j => upTo Hu i j || decide (j = i))), .int (mI (upTo (mvR Hu Oo) i)), .int (mI (upTo (smR Hu Oo X Kd N S) i)), .int (mI Ho), .ref q1, .ref q2, .ref q3, .ref q4, .int (mI Su), .int (mI Op), .int (mI Sd), .int (mI Od), .int (mI Sp), .int (mI Oq), .ref q5])), (qm, .inr (4, [.int (nI n), .int (mI S), .int (mI Ce), .ref qh, .ref qn])), (qn, .inl (cI, 12, .inl (fun j => mI (N j)))), (qs, .inr (3, [.int tn, .ref qu, .ref qo, .ref qx, .ref qy, .ref qr, .ref qw])), (qu, .inl (cI, 12, .inl (fun j => unI (Hu j) (P j) (Kd j)))), (qo, .inl (cI, 12, .inl (fun j => nI (Oo j)))), (qx, .inl (cI, 12, .inl (fun j => nI (X j)))), (q1, .inl (cI, 12, .inl (fun j => mI (upTo (mtR Hu Oo X j) i)))), (q4, .inl (cI, 4, .inl (fun j => mI (upS (fun j => upTo (upR Hu P j) i) (pOf Hu P i) (fun j => upTo (upR Hu P (pOf Hu P i)) i j || decide (j = i)) j))))] := hD
        refine lv_aload_n hx hb d_Se_readUnits_60 rfl (lv_at hl 1 rfl) ?_
        refine va_get (D := D) (ci := 2) (v := .ref qs) (C := R_Se) (T := T_Se) (N := 17) hx hb hts hin_Se hown hK hP 0 rfl rfl 1 (by decide) (hts _ wd_104) (fun _ h9 => h9) rfl d_Se_readUnits_61 ?_
        refine va_get (D := D) (ci := 3) (v := .ref qo) (C := R_Sh) (T := T_Sh) (N := 7) hx hb hts hin_Sh hown hK hP 3 rfl rfl 2 (by decide) (hts _ wd_69) (fun _ h9 => h9) rfl d_Se_readUnits_64 ?_
        refine lv_iload_n hx hb d_Se_readUnits_67 rfl (lv_at hl 0 rfl) ?_
        refine tr_iald (v := nI (Oo i)) hx hb hK hP 5 0 rfl rfl i hlt12 (by decide) rfl d_Se_readUnits_68 ?_
        refine lv_iconst (v := 1) hx hb d_Se_readUnits_69 (by decide) ?_
        refine lv_icmp_ne (tgt := 148) hx hb d_Se_readUnits_70 (by decide) (fun hc10 => ?_) (fun hc10 => ?_)
        · -- 70 taken
          have hc10 : ¬ Oo i = 1 := fun h9 => hc10 (congrArg nI h9)
          refine lv_iinc (lv' := [(1, .int ((nI i) + 1)), (0, .ref h0)]) hx hb d_Se_readUnits_148 hl (k := 0) rfl rfl (by decide) rfl (fun ls hl => ?_)
          refine lv_goto (tgt := 2) hx hb d_Se_readUnits_151 (by decide) ?_
          have e11 : (nI i) + 1 = nI (i + 1) := nI_1 i
          have eo12 : (mI (fun j => upTo Hu i j || decide (j = i))) = (mI (upTo Hu (i + 1))) := mI_upY (show (Hu) i = true by simp [hb5, hc10])
          have eo13 : (mI (upTo (mvR Hu Oo) i)) = (mI (upTo (mvR Hu Oo) (i + 1))) := mI_upN (show (mvR Hu Oo) i = false by simp [mvR, hb5, hc10])
          have eo14 : (mI (upTo (smR Hu Oo X Kd N S) i)) = (mI (upTo (smR Hu Oo X Kd N S) (i + 1))) := mI_upN (show (smR Hu Oo X Kd N S) i = false by simp [smR, hb5, hc10])
          have eo15 : (fun j => mI (upTo (mtR Hu Oo X j) i)) = (fun j => mI (upTo (mtR Hu Oo X j) (i + 1))) := upT_N (R := (mtR Hu Oo X)) (fun x => by simp only [mtR, hb5] <;> simp [mtR, hb5, hc10])
          have eo16 : (fun j => mI (upS (fun j => upTo (upR Hu P j) i) (pOf Hu P i) (fun j => upTo (upR Hu P (pOf Hu P i)) i j || decide (j = i)) j)) = (fun j => mI (upTo (upR Hu P j) (i + 1))) := upT_Y (R := (upR Hu P)) (by simp only [upR, hb5] <;> simp [upR, hb5, hc10]) (fun x hx9 => by simp only [upR, hb5, hx9] <;> simp [upR, hb5, hc10, hx9])
          exact ih (i + 1) ls H locs (by omega) (by rw [← e11]; exact lv_sub hl [0, 1] rfl) (by rw [← eo12, ← eo13, ← eo14, ← eo15, ← eo16]; exact hP) (by rw [← eo12, ← eo13, ← eo14, ← eo15, ← eo16]; exact hD) hS
        · -- 70 not taken
          have hc10 : Oo i = 1 := (nI_lit (Nat.lt_trans (hO4 _) (by decide)) (by decide)).mp hc10
          refine lv_aload_n hx hb d_Se_readUnits_73 rfl (lv_at hl 1 rfl) ?_
          refine lv_dup hx hb d_Se_readUnits_74 rfl ?_
          refine va_get (D := D) (ci := 2) (v := .int (mI (upTo (mvR Hu Oo) i))) (C := R_Se) (T := T_Se) (N := 17) hx hb hts hin_Se hown hK hP 0 rfl rfl 3 (by decide) (hts _ wd_106) (fun _ h9 => h9) rfl d_Se_readUnits_75 ?_
          refine lv_iload_n hx hb d_Se_readUnits_78 rfl (lv_at hl 0 rfl) ?_
          have hPc := hP.sub (ws' := []) [] rfl
          refine vp_callSi (va_Run.run (va_runSN (As := [.int (nI i)]) (rest := [.int (mI (upTo (mvR Hu Oo) i)), .ref h0]) ⟨hx, hb, hml, hown, hts⟩ (c_Sw_bitN l D cI cZ cJ cS aT ceT  i hlt12) (⟨va_cnB 1 hts (tb_c wd_411) rfl rfl rfl hX.2.2.2.2.2.2.2.2.1 (hts _ wd_1) ⟨by decide, by decide, by decide +kernel⟩ ⟨Nat.le_of_ble_eq_true rfl, Nat.le_of_ble_eq_true rfl⟩, hts _ wd_410, trivial⟩) (tP_S hK hX (hS.2.1 aT hXl hXn) hPc) rfl rfl hl.1 rfl (lv_room (Nat.le_of_ble_eq_true rfl)) d_Se_readUnits_79 ⟨Nat.le_of_ble_eq_true rfl, Nat.le_of_ble_eq_true rfl⟩)) (fun r17 hr9 => ?_)
          rw [hr9]
          refine lv_ior hx hb d_Se_readUnits_82 ?_
          refine tr_top (y := mI (fun j => upTo (mvR Hu Oo) i j || decide (j = i))) (mI_or _ _) ?_
          refine va_put (D := D) (ci := 2) (v := .int (mI (fun j => upTo (mvR Hu Oo) i j || decide (j = i)))) (ty := .int) (C := R_Se) (T := T_Se) (N := 17) hx hb hts hin_Se ty_Se tyok_Se nm_Se hown hK hP hD hS 0 rfl rfl 3 (by decide) (hts _ wd_106) (fun _ h9 => h9) rfl (by decide +kernel) rfl rfl (Nat.le_of_ble_eq_true rfl) d_Se_readUnits_83 (fun H locs hP hD hS => ?_)
          have hP : va_P D vwCl [(h0, .inr (2, [.ref qm, .ref qs, .int (mI (fun j => upTo Hu i j || decide (j = i))), .int (mI (fun j => upTo (mvR Hu Oo) i j || decide (j = i))), .int (mI (upTo (smR Hu Oo X Kd N S) i)), .int (mI Ho), .ref q1, .ref q2, .ref q3, .ref q4, .int (mI Su), .int (mI Op), .int (mI Sd), .int (mI Od), .int (mI Sp), .int (mI Oq), .ref q5])), (qm, .inr (4, [.int (nI n), .int (mI S), .int (mI Ce), .ref qh, .ref qn])), (qn, .inl (cI, 12, .inl (fun j => mI (N j)))), (qs, .inr (3, [.int tn, .ref qu, .ref qo, .ref qx, .ref qy, .ref qr, .ref qw])), (qu, .inl (cI, 12, .inl (fun j => unI (Hu j) (P j) (Kd j)))), (qo, .inl (cI, 12, .inl (fun j => nI (Oo j)))), (qx, .inl (cI, 12, .inl (fun j => nI (X j)))), (q1, .inl (cI, 12, .inl (fun j => mI (upTo (mtR Hu Oo X j) i)))), (q4, .inl (cI, 4, .inl (fun j => mI (upS (fun j => upTo (upR Hu P j) i) (pOf Hu P i) (fun j => upTo (upR Hu P (pOf Hu P i)) i j || decide (j = i)) j))))] H := hP
          have hD : va_D A [(h0, .inr (2, [.ref qm, .ref qs, .int (mI (fun j => upTo Hu i j || decide (j = i))), .int (mI (fun j => upTo (mvR Hu Oo) i j || decide (j = i))), .int (mI (upTo (smR Hu Oo X Kd N S) i)), .int (mI Ho), .ref q1, .ref q2, .ref q3, .ref q4, .int (mI Su), .int (mI Op), .int (mI Sd), .int (mI Od), .int (mI Sp), .int (mI Oq), .ref q5])), (qm, .inr (4, [.int (nI n), .int (mI S), .int (mI Ce), .ref qh, .ref qn])), (qn, .inl (cI, 12, .inl (fun j => mI (N j)))), (qs, .inr (3, [.int tn, .ref qu, .ref qo, .ref qx, .ref qy, .ref qr, .ref qw])), (qu, .inl (cI, 12, .inl (fun j => unI (Hu j) (P j) (Kd j)))), (qo, .inl (cI, 12, .inl (fun j => nI (Oo j)))), (qx, .inl (cI, 12, .inl (fun j => nI (X j)))), (q1, .inl (cI, 12, .inl (fun j => mI (upTo (mtR Hu Oo X j) i)))), (q4, .inl (cI, 4, .inl (fun j => mI (upS (fun j => upTo (upR Hu P j) i) (pOf Hu P i) (fun j => upTo (upR Hu P (pOf Hu P i)) i j || decide (j = i)) j))))] := hD
          refine lv_aload_n hx hb d_Se_readUnits_86 rfl (lv_at hl 1 rfl) ?_
          refine va_get (D := D) (ci := 2) (v := .ref q1) (C := R_Se) (T := T_Se) (N := 17) hx hb hts hin_Se hown hK hP 0 rfl rfl 6 (by decide) (hts _ wd_109) (fun _ h9 => h9) rfl d_Se_readUnits_87 ?_
          refine lv_aload_n hx hb d_Se_readUnits_90 rfl (lv_at hl 1 rfl) ?_
          refine va_get (D := D) (ci := 2) (v := .ref qs) (C := R_Se) (T := T_Se) (N := 17) hx hb hts hin_Se hown hK hP 0 rfl rfl 1 (by decide) (hts _ wd_104) (fun _ h9 => h9) rfl d_Se_readUnits_91 ?_
          refine va_get (D := D) (ci := 3) (v := .ref qx) (C := R_Sh) (T := T_Sh) (N := 7) hx hb hts hin_Sh hown hK hP 3 rfl rfl 3 (by decide) (hts _ wd_72) (fun _ h9 => h9) rfl d_Se_readUnits_94 ?_
          refine lv_iload_n hx hb d_Se_readUnits_97 rfl (lv_at hl 0 rfl) ?_
          refine tr_iald (v := nI (X i)) hx hb hK hP 6 0 rfl rfl i hlt12 (by decide) rfl d_Se_readUnits_98 ?_
          refine lv_dup2_11 hx hb d_Se_readUnits_99 rfl rfl ?_
          refine tr_iald (v := mI (upTo (mtR Hu Oo X (X i)) i)) hx hb hK hP 7 0 rfl rfl (X i) (hX12 _) (by decide) rfl d_Se_readUnits_100 ?_
          refine lv_iload_n hx hb d_Se_readUnits_101 rfl (lv_at hl 0 rfl) ?_
          have hPc := hP.sub (ws' := []) [] rfl
          refine vp_callSi (va_Run.run (va_runSN (As := [.int (nI i)]) (rest := [.int (mI (upTo (mtR Hu Oo X (X i)) i)), .int (nI (X i)), .ref q1]) ⟨hx, hb, hml, hown, hts⟩ (c_Sw_bitN l D cI cZ cJ cS aT ceT  i hlt12) (⟨va_cnB 1 hts (tb_c wd_411) rfl rfl rfl hX.2.2.2.2.2.2.2.2.1 (hts _ wd_1) ⟨by decide, by decide, by decide +kernel⟩ ⟨Nat.le_of_ble_eq_true rfl, Nat.le_of_ble_eq_true rfl⟩, hts _ wd_410, trivial⟩) (tP_S hK hX (hS.2.1 aT hXl hXn) hPc) rfl rfl hl.1 rfl (lv_room (Nat.le_of_ble_eq_true rfl)) d_Se_readUnits_102 ⟨Nat.le_of_ble_eq_true rfl, Nat.le_of_ble_eq_true rfl⟩)) (fun r18 hr9 => ?_)
          rw [hr9]
          refine lv_ior hx hb d_Se_readUnits_105 ?_
          refine tr_top (y := mI (fun j => upTo (mtR Hu Oo X (X i)) i j || decide (j = i))) (mI_or _ _) ?_
          refine tr_iast (g := fun j => mI (upS (fun j => upTo (mtR Hu Oo X j) i) (X i) (fun j => upTo (mtR Hu Oo X (X i)) i j || decide (j = i)) j)) hx hb hK hP hD hS 7 0 rfl rfl (X i) (hX12 _) (by decide) (upS_I (fun j => upTo (mtR Hu Oo X j) i) (X i) (fun j => upTo (mtR Hu Oo X (X i)) i j || decide (j = i))) d_Se_readUnits_106 (fun H locs hP hD hS => ?_)
          have hP : va_P D vwCl [(h0, .inr (2, [.ref qm, .ref qs, .int (mI (fun j => upTo Hu i j || decide (j = i))), .int (mI (fun j => upTo (mvR Hu Oo) i j || decide (j = i))), .int (mI (upTo (smR Hu Oo X Kd N S) i)), .int (mI Ho), .ref q1, .ref q2, .ref q3, .ref q4, .int (mI Su), .int (mI Op), .int (mI Sd), .int (mI Od), .int (mI Sp), .int (mI Oq), .ref q5])), (qm, .inr (4, [.int (nI n), .int (mI S), .int (mI Ce), .ref qh, .ref qn])), (qn, .inl (cI, 12, .inl (fun j => mI (N j)))), (qs, .inr (3, [.int tn, .ref qu, .ref qo, .ref qx, .ref qy, .ref qr, .ref qw])), (qu, .inl (cI, 12, .inl (fun j => unI (Hu j) (P j) (Kd j)))), (qo, .inl (cI, 12, .inl (fun j => nI (Oo j)))), (qx, .inl (cI, 12, .inl (fun j => nI (X j)))), (q1, .inl (cI, 12, .inl (fun j => mI (upS (fun j => upTo (mtR Hu Oo X j) i) (X i) (fun j => upTo (mtR Hu Oo X (X i)) i j || decide (j = i)) j)))), (q4, .inl (cI, 4, .inl (fun j => mI (upS (fun j => upTo (upR Hu P j) i) (pOf Hu P i) (fun j => upTo (upR Hu P (pOf Hu P i)) i j || decide (j = i)) j))))] H := hP
          have hD : va_D A [(h0, .inr (2, [.ref qm, .ref qs, .int (mI (fun j => upTo Hu i j || decide (j = i))), .int (mI (fun j => upTo (mvR Hu Oo) i j || decide (j = i))), .int (mI (upTo (smR Hu Oo X Kd N S) i)), .int (mI Ho), .ref q1, .ref q2, .ref q3, .ref q4, .int (mI Su), .int (mI Op), .int (mI Sd), .int (mI Od), .int (mI Sp), .int (mI Oq), .ref q5])), (qm, .inr (4, [.int (nI n), .int (mI S), .int (mI Ce), .ref qh, .ref qn])), (qn, .inl (cI, 12, .inl (fun j => mI (N j)))), (qs, .inr (3, [.int tn, .ref qu, .ref qo, .ref qx, .ref qy, .ref qr, .ref qw])), (qu, .inl (cI, 12, .inl (fun j => unI (Hu j) (P j) (Kd j)))), (qo, .inl (cI, 12, .inl (fun j => nI (Oo j)))), (qx, .inl (cI, 12, .inl (fun j => nI (X j)))), (q1, .inl (cI, 12, .inl (fun j => mI (upS (fun j => upTo (mtR Hu Oo X j) i) (X i) (fun j => upTo (mtR Hu Oo X (X i)) i j || decide (j = i)) j)))), (q4, .inl (cI, 4, .inl (fun j => mI (upS (fun j => upTo (upR Hu P j) i) (pOf Hu P i) (fun j => upTo (upR Hu P (pOf Hu P i)) i j || decide (j = i)) j))))] := hD
          refine lv_aload_n hx hb d_Se_readUnits_107 rfl (lv_at hl 1 rfl) ?_
          refine va_get (D := D) (ci := 2) (v := .ref qm) (C := R_Se) (T := T_Se) (N := 17) hx hb hts hin_Se hown hK hP 0 rfl rfl 0 (by decide) (hts _ wd_103) (fun _ h9 => h9) rfl d_Se_readUnits_108 ?_
          refine lv_aload_n hx hb d_Se_readUnits_111 rfl (lv_at hl 1 rfl) ?_
          refine va_get (D := D) (ci := 2) (v := .ref qs) (C := R_Se) (T := T_Se) (N := 17) hx hb hts hin_Se hown hK hP 0 rfl rfl 1 (by decide) (hts _ wd_104) (fun _ h9 => h9) rfl d_Se_readUnits_112 ?_
          refine lv_iload_n hx hb d_Se_readUnits_115 rfl (lv_at hl 0 rfl) ?_
          have hPc := hP.sub (ws' := [(qs, .inr (3, [.int tn, .ref qu, .ref qo, .ref qx, .ref qy, .ref qr, .ref qw])), (qu, .inl (cI, 12, .inl (fun j => unI (Hu j) (P j) (Kd j))))]) [3, 4] rfl
          refine vp_callSi (va_Run.run (va_runV (As := [.int (nI i)]) (rest := [.ref qm]) ⟨hx, hb, hml, hown, hts⟩ (c_Sh_kindAtN l D cI cZ cJ cS aT ceT  qs tn qu qo qx qy qr qw Hu P Kd i hP4 hK2 hlt12 hb5) (cwV 1 hts (tb_4 wd_517 wd_475 wd_476 wd_3 (tb_c wd_477)) rfl rfl rfl ⟨rfl, by decide, by decide, by decide +kernel⟩ ⟨Nat.le_of_ble_eq_true rfl, Nat.le_of_ble_eq_true rfl⟩) (tP_V hK hX (hS.2.1 aT hXl hXn) hPc (q := 0) rfl rfl) rfl rfl hl.1 rfl (lv_room (Nat.le_of_ble_eq_true rfl)) d_Se_readUnits_116 ⟨Nat.le_of_ble_eq_true rfl, Nat.le_of_ble_eq_true rfl⟩)) (fun r19 hr9 => ?_)
          rw [hr9]
          refine lv_iload_n hx hb d_Se_readUnits_119 rfl (lv_at hl 0 rfl) ?_
          refine lv_aload_n hx hb d_Se_readUnits_120 rfl (lv_at hl 1 rfl) ?_
          refine va_get (D := D) (ci := 2) (v := .ref qs) (C := R_Se) (T := T_Se) (N := 17) hx hb hts hin_Se hown hK hP 0 rfl rfl 1 (by decide) (hts _ wd_104) (fun _ h9 => h9) rfl d_Se_readUnits_121 ?_
          refine va_get (D := D) (ci := 3) (v := .ref qx) (C := R_Sh) (T := T_Sh) (N := 7) hx hb hts hin_Sh hown hK hP 3 rfl rfl 3 (by decide) (hts _ wd_72) (fun _ h9 => h9) rfl d_Se_readUnits_124 ?_
          refine lv_iload_n hx hb d_Se_readUnits_127 rfl (lv_at hl 0 rfl) ?_
          refine tr_iald (v := nI (X i)) hx hb hK hP 6 0 rfl rfl i hlt12 (by decide) rfl d_Se_readUnits_128 ?_
          have hPc := hP.sub (ws' := [(qm, .inr (4, [.int (nI n), .int (mI S), .int (mI Ce), .ref qh, .ref qn])), (qn, .inl (cI, 12, .inl (fun j => mI (N j))))]) [1, 2] rfl
          refine vp_callSi (va_Run.run (va_runV (As := [.int (nI (Kd i)), .int (nI i), .int (nI (X i))]) (rest := []) ⟨hx, hb, hml, hown, hts⟩ (c_Wm_canGo l D cI cZ cJ cS aT ceT  qm qh qn n S Ce N (nI (Kd i)) i (X i) hlt12 (hX12 _)) (cwV 3 hts (tb_4 wd_518 wd_276 wd_277 wd_2 (tb_c wd_278)) rfl rfl rfl ⟨rfl, by decide, by decide, by decide +kernel⟩ ⟨Nat.le_of_ble_eq_true rfl, Nat.le_of_ble_eq_true rfl⟩) (tP_V hK hX (hS.2.1 aT hXl hXn) hPc (q := 0) rfl rfl) rfl rfl hl.1 rfl (lv_room (Nat.le_of_ble_eq_true rfl)) d_Se_readUnits_129 ⟨Nat.le_of_ble_eq_true rfl, Nat.le_of_ble_eq_true rfl⟩)) (fun r20 hr9 => ?_)
          rw [hr9]
          rcases bI_c (N i (X i) && ((S i || S (X i)) == decide ((nI (Kd i)) = 1))) with ⟨hb22, e9⟩ | ⟨hb22, e9⟩
          · refine tr_top e9 ?_
            refine lv_if_ne (tgt := 148) hx hb d_Se_readUnits_132 (by decide) (fun _ => ?_) (fun h0 => absurd h0 (by decide))
            refine lv_iinc (lv' := [(1, .int ((nI i) + 1)), (0, .ref h0)]) hx hb d_Se_readUnits_148 hl (k := 0) rfl rfl (by decide) rfl (fun ls hl => ?_)
            refine lv_goto (tgt := 2) hx hb d_Se_readUnits_151 (by decide) ?_
            have e24 : (nI i) + 1 = nI (i + 1) := nI_1 i
            have eo25 : (mI (fun j => upTo Hu i j || decide (j = i))) = (mI (upTo Hu (i + 1))) := mI_upY (show (Hu) i = true by simp [hb5, hc10, hb22])
            have eo26 : (mI (fun j => upTo (mvR Hu Oo) i j || decide (j = i))) = (mI (upTo (mvR Hu Oo) (i + 1))) := mI_upY (show (mvR Hu Oo) i = true by simp [mvR, hb5, hc10, hb22])
            have eo27 : (mI (upTo (smR Hu Oo X Kd N S) i)) = (mI (upTo (smR Hu Oo X Kd N S) (i + 1))) := mI_upN (show (smR Hu Oo X Kd N S) i = false by simp [smR, hb5, hc10, hb22])
            have eo28 : (fun j => mI (upS (fun j => upTo (mtR Hu Oo X j) i) (X i) (fun j => upTo (mtR Hu Oo X (X i)) i j || decide (j = i)) j)) = (fun j => mI (upTo (mtR Hu Oo X j) (i + 1))) := upT_Y (R := (mtR Hu Oo X)) (by simp only [mtR, hb5, hb22] <;> simp [mtR, hb5, hc10, hb22]) (fun x hx9 => by simp only [mtR, hb5, hb22, hx9] <;> simp [mtR, hb5, hc10, hb22, hx9])
            have eo29 : (fun j => mI (upS (fun j => upTo (upR Hu P j) i) (pOf Hu P i) (fun j => upTo (upR Hu P (pOf Hu P i)) i j || decide (j = i)) j)) = (fun j => mI (upTo (upR Hu P j) (i + 1))) := upT_Y (R := (upR Hu P)) (by simp only [upR, hb5, hb22] <;> simp [upR, hb5, hc10, hb22]) (fun x hx9 => by simp only [upR, hb5, hb22, hx9] <;> simp [upR, hb5, hc10, hb22, hx9])
            exact ih (i + 1) ls H locs (by omega) (by rw [← e24]; exact lv_sub hl [0, 1] rfl) (by rw [← eo25, ← eo26, ← eo27, ← eo28, ← eo29]; exact hP) (by rw [← eo25, ← eo26, ← eo27, ← eo28, ← eo29]; exact hD) hS
          · refine tr_top e9 ?_
            refine lv_if_ne (tgt := 148) hx hb d_Se_readUnits_132 (by decide) (fun h0 => absurd (by decide) h0) (fun _ => ?_)
            refine lv_aload_n hx hb d_Se_readUnits_135 rfl (lv_at hl 1 rfl) ?_
            refine lv_dup hx hb d_Se_readUnits_136 rfl ?_
            refine va_get (D := D) (ci := 2) (v := .int (mI (upTo (smR Hu Oo X Kd N S) i))) (C := R_Se) (T := T_Se) (N := 17) hx hb hts hin_Se hown hK hP 0 rfl rfl 4 (by decide) (hts _ wd_107) (fun _ h9 => h9) rfl d_Se_readUnits_137 ?_
            refine lv_iload_n hx hb d_Se_readUnits_140 rfl (lv_at hl 0 rfl) ?_
            have hPc := hP.sub (ws' := []) [] rfl
            refine vp_callSi (va_Run.run (va_runSN (As := [.int (nI i)]) (rest := [.int (mI (upTo (smR Hu Oo X Kd N S) i)), .ref h0]) ⟨hx, hb, hml, hown, hts⟩ (c_Sw_bitN l D cI cZ cJ cS aT ceT  i hlt12) (⟨va_cnB 1 hts (tb_c wd_411) rfl rfl rfl hX.2.2.2.2.2.2.2.2.1 (hts _ wd_1) ⟨by decide, by decide, by decide +kernel⟩ ⟨Nat.le_of_ble_eq_true rfl, Nat.le_of_ble_eq_true rfl⟩, hts _ wd_410, trivial⟩) (tP_S hK hX (hS.2.1 aT hXl hXn) hPc) rfl rfl hl.1 rfl (lv_room (Nat.le_of_ble_eq_true rfl)) d_Se_readUnits_141 ⟨Nat.le_of_ble_eq_true rfl, Nat.le_of_ble_eq_true rfl⟩)) (fun r31 hr9 => ?_)
            rw [hr9]
            refine lv_ior hx hb d_Se_readUnits_144 ?_
            refine tr_top (y := mI (fun j => upTo (smR Hu Oo X Kd N S) i j || decide (j = i))) (mI_or _ _) ?_
            refine va_put (D := D) (ci := 2) (v := .int (mI (fun j => upTo (smR Hu Oo X Kd N S) i j || decide (j = i)))) (ty := .int) (C := R_Se) (T := T_Se) (N := 17) hx hb hts hin_Se ty_Se tyok_Se nm_Se hown hK hP hD hS 0 rfl rfl 4 (by decide) (hts _ wd_107) (fun _ h9 => h9) rfl (by decide +kernel) rfl rfl (Nat.le_of_ble_eq_true rfl) d_Se_readUnits_145 (fun H locs hP hD hS => ?_)
            have hP : va_P D vwCl [(h0, .inr (2, [.ref qm, .ref qs, .int (mI (fun j => upTo Hu i j || decide (j = i))), .int (mI (fun j => upTo (mvR Hu Oo) i j || decide (j = i))), .int (mI (fun j => upTo (smR Hu Oo X Kd N S) i j || decide (j = i))), .int (mI Ho), .ref q1, .ref q2, .ref q3, .ref q4, .int (mI Su), .int (mI Op), .int (mI Sd), .int (mI Od), .int (mI Sp), .int (mI Oq), .ref q5])), (qm, .inr (4, [.int (nI n), .int (mI S), .int (mI Ce), .ref qh, .ref qn])), (qn, .inl (cI, 12, .inl (fun j => mI (N j)))), (qs, .inr (3, [.int tn, .ref qu, .ref qo, .ref qx, .ref qy, .ref qr, .ref qw])), (qu, .inl (cI, 12, .inl (fun j => unI (Hu j) (P j) (Kd j)))), (qo, .inl (cI, 12, .inl (fun j => nI (Oo j)))), (qx, .inl (cI, 12, .inl (fun j => nI (X j)))), (q1, .inl (cI, 12, .inl (fun j => mI (upS (fun j => upTo (mtR Hu Oo X j) i) (X i) (fun j => upTo (mtR Hu Oo X (X i)) i j || decide (j = i)) j)))), (q4, .inl (cI, 4, .inl (fun j => mI (upS (fun j => upTo (upR Hu P j) i) (pOf Hu P i) (fun j => upTo (upR Hu P (pOf Hu P i)) i j || decide (j = i)) j))))] H := hP
            have hD : va_D A [(h0, .inr (2, [.ref qm, .ref qs, .int (mI (fun j => upTo Hu i j || decide (j = i))), .int (mI (fun j => upTo (mvR Hu Oo) i j || decide (j = i))), .int (mI (fun j => upTo (smR Hu Oo X Kd N S) i j || decide (j = i))), .int (mI Ho), .ref q1, .ref q2, .ref q3, .ref q4, .int (mI Su), .int (mI Op), .int (mI Sd), .int (mI Od), .int (mI Sp), .int (mI Oq), .ref q5])), (qm, .inr (4, [.int (nI n), .int (mI S), .int (mI Ce), .ref qh, .ref qn])), (qn, .inl (cI, 12, .inl (fun j => mI (N j)))), (qs, .inr (3, [.int tn, .ref qu, .ref qo, .ref qx, .ref qy, .ref qr, .ref qw])), (qu, .inl (cI, 12, .inl (fun j => unI (Hu j) (P j) (Kd j)))), (qo, .inl (cI, 12, .inl (fun j => nI (Oo j)))), (qx, .inl (cI, 12, .inl (fun j => nI (X j)))), (q1, .inl (cI, 12, .inl (fun j => mI (upS (fun j => upTo (mtR Hu Oo X j) i) (X i) (fun j => upTo (mtR Hu Oo X (X i)) i j || decide (j = i)) j)))), (q4, .inl (cI, 4, .inl (fun j => mI (upS (fun j => upTo (upR Hu P j) i) (pOf Hu P i) (fun j => upTo (upR Hu P (pOf Hu P i)) i j || decide (j = i)) j))))] := hD
            refine lv_iinc (lv' := [(1, .int ((nI i) + 1)), (0, .ref h0)]) hx hb d_Se_readUnits_148 hl (k := 0) rfl rfl (by decide) rfl (fun ls hl => ?_)
            refine lv_goto (tgt := 2) hx hb d_Se_readUnits_151 (by decide) ?_
            have e32 : (nI i) + 1 = nI (i + 1) := nI_1 i
            have eo33 : (mI (fun j => upTo Hu i j || decide (j = i))) = (mI (upTo Hu (i + 1))) := mI_upY (show (Hu) i = true by simp [hb5, hc10, hb22])
            have eo34 : (mI (fun j => upTo (mvR Hu Oo) i j || decide (j = i))) = (mI (upTo (mvR Hu Oo) (i + 1))) := mI_upY (show (mvR Hu Oo) i = true by simp [mvR, hb5, hc10, hb22])
            have eo35 : (mI (fun j => upTo (smR Hu Oo X Kd N S) i j || decide (j = i))) = (mI (upTo (smR Hu Oo X Kd N S) (i + 1))) := mI_upY (show (smR Hu Oo X Kd N S) i = true by simp [smR, hb5, hc10, hb22])
            have eo36 : (fun j => mI (upS (fun j => upTo (mtR Hu Oo X j) i) (X i) (fun j => upTo (mtR Hu Oo X (X i)) i j || decide (j = i)) j)) = (fun j => mI (upTo (mtR Hu Oo X j) (i + 1))) := upT_Y (R := (mtR Hu Oo X)) (by simp only [mtR, hb5, hb22] <;> simp [mtR, hb5, hc10, hb22]) (fun x hx9 => by simp only [mtR, hb5, hb22, hx9] <;> simp [mtR, hb5, hc10, hb22, hx9])
            have eo37 : (fun j => mI (upS (fun j => upTo (upR Hu P j) i) (pOf Hu P i) (fun j => upTo (upR Hu P (pOf Hu P i)) i j || decide (j = i)) j)) = (fun j => mI (upTo (upR Hu P j) (i + 1))) := upT_Y (R := (upR Hu P)) (by simp only [upR, hb5, hb22] <;> simp [upR, hb5, hc10, hb22]) (fun x hx9 => by simp only [upR, hb5, hb22, hx9] <;> simp [upR, hb5, hc10, hb22, hx9])
            exact ih (i + 1) ls H locs (by omega) (by rw [← e32]; exact lv_sub hl [0, 1] rfl) (by rw [← eo33, ← eo34, ← eo35, ← eo36, ← eo37]; exact hP) (by rw [← eo33, ← eo34, ← eo35, ← eo36, ← eo37]; exact hD) hS
      · refine tr_top e9 ?_
        refine lv_if_ne (tgt := 27) hx hb d_Se_readUnits_21 (by decide) (fun h0 => absurd (by decide) h0) (fun _ => ?_)
        refine lv_goto (tgt := 148) hx hb d_Se_readUnits_24 (by decide) ?_
        refine lv_iinc (lv' := [(1, .int ((nI i) + 1)), (0, .ref h0)]) hx hb d_Se_readUnits_148 hl (k := 0) rfl rfl (by decide) rfl (fun ls hl => ?_)
        refine lv_goto (tgt := 2) hx hb d_Se_readUnits_151 (by decide) ?_
        have e39 : (nI i) + 1 = nI (i + 1) := nI_1 i
        have eo40 : (mI (upTo Hu i)) = (mI (upTo Hu (i + 1))) := mI_upN (show (Hu) i = false by simp [hb5])
        have eo41 : (mI (upTo (mvR Hu Oo) i)) = (mI (upTo (mvR Hu Oo) (i + 1))) := mI_upN (show (mvR Hu Oo) i = false by simp [mvR, hb5])
        have eo42 : (mI (upTo (smR Hu Oo X Kd N S) i)) = (mI (upTo (smR Hu Oo X Kd N S) (i + 1))) := mI_upN (show (smR Hu Oo X Kd N S) i = false by simp [smR, hb5])
        have eo43 : (fun j => mI (upTo (mtR Hu Oo X j) i)) = (fun j => mI (upTo (mtR Hu Oo X j) (i + 1))) := upT_N (R := (mtR Hu Oo X)) (fun x => by simp only [mtR, hb5] <;> simp [mtR, hb5])
        have eo44 : (fun j => mI (upTo (upR Hu P j) i)) = (fun j => mI (upTo (upR Hu P j) (i + 1))) := upT_N (R := (upR Hu P)) (fun x => by simp only [upR, hb5] <;> simp [upR, hb5])
        exact ih (i + 1) ls H locs (by omega) (by rw [← e39]; exact lv_sub hl [0, 1] rfl) (by rw [← eo40, ← eo41, ← eo42, ← eo43, ← eo44]; exact hP) (by rw [← eo40, ← eo41, ← eo42, ← eo43, ← eo44]; exact hD) hS
  have ei45 : (mI (upTo Hu 0)) = (mI (fun _ => false)) := up_00 _
  have ei46 : (mI (upTo (mvR Hu Oo) 0)) = (mI (fun _ => false)) := up_00 _
  have ei47 : (mI (upTo (smR Hu Oo X Kd N S) 0)) = (mI (fun _ => false)) := up_00 _
  have ei48 : (fun j => mI (upTo (mtR Hu Oo X j) 0)) = (fun _ => 0) := upT_0 _
  have ei49 : (fun j => mI (upTo (upR Hu P j) 0)) = (fun _ => 0) := upT_0 _
  exact loop n 0 ls _ _ (Nat.zero_add _) hl (by rw [ei45, ei46, ei47, ei48, ei49]; exact hP) (by rw [ei45, ei46, ei47, ei48, ei49]; exact hD) hS
