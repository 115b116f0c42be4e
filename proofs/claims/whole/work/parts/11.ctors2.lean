theorem d_As_init_0 : decode b_As_init 0 = .ok (.aload_n 0, 1) := by decide +kernel
theorem d_As_init_1 : decode b_As_init 1 = .ok (.invokespecial 3, 3) := by decide +kernel
theorem d_As_init_4 : decode b_As_init 4 = .ok (.aload_n 0, 1) := by decide +kernel
theorem d_As_init_5 : decode b_As_init 5 = .ok (.bipush 12, 2) := by decide +kernel
theorem d_As_init_7 : decode b_As_init 7 = .ok (.newarray .int, 2) := by decide +kernel
theorem d_As_init_9 : decode b_As_init 9 = .ok (.putfield 9, 3) := by decide +kernel
theorem d_As_init_12 : decode b_As_init 12 = .ok (.aload_n 0, 1) := by decide +kernel
theorem d_As_init_13 : decode b_As_init 13 = .ok (.bipush 12, 2) := by decide +kernel
theorem d_As_init_15 : decode b_As_init 15 = .ok (.newarray .int, 2) := by decide +kernel
theorem d_As_init_17 : decode b_As_init 17 = .ok (.putfield 15, 3) := by decide +kernel
theorem d_As_init_20 : decode b_As_init 20 = .ok (.aload_n 0, 1) := by decide +kernel
theorem d_As_init_21 : decode b_As_init 21 = .ok (.bipush 12, 2) := by decide +kernel
theorem d_As_init_23 : decode b_As_init 23 = .ok (.newarray .int, 2) := by decide +kernel
theorem d_As_init_25 : decode b_As_init 25 = .ok (.putfield 18, 3) := by decide +kernel
theorem d_As_init_28 : decode b_As_init 28 = .ok (.aload_n 0, 1) := by decide +kernel
theorem d_As_init_29 : decode b_As_init 29 = .ok (.getfield 9, 3) := by decide +kernel
theorem d_As_init_32 : decode b_As_init 32 = .ok (.iconst (-1), 1) := by decide +kernel
theorem d_As_init_33 : decode b_As_init 33 = .ok (.invokestatic 21, 3) := by decide +kernel
theorem d_As_init_36 : decode b_As_init 36 = .ok (.aload_n 0, 1) := by decide +kernel
theorem d_As_init_37 : decode b_As_init 37 = .ok (.getfield 15, 3) := by decide +kernel
theorem d_As_init_40 : decode b_As_init 40 = .ok (.iconst (-1), 1) := by decide +kernel
theorem d_As_init_41 : decode b_As_init 41 = .ok (.invokestatic 21, 3) := by decide +kernel
theorem d_As_init_44 : decode b_As_init 44 = .ok (.aload_n 0, 1) := by decide +kernel
theorem d_As_init_45 : decode b_As_init 45 = .ok (.getfield 18, 3) := by decide +kernel
theorem d_As_init_48 : decode b_As_init 48 = .ok (.iconst (-1), 1) := by decide +kernel
theorem d_As_init_49 : decode b_As_init 49 = .ok (.invokestatic 21, 3) := by decide +kernel
theorem d_As_init_52 : decode b_As_init 52 = .ok (.return_, 1) := by decide +kernel
theorem wd_160 : (Cond.methodLink "SheetWar$Aside" (3 : Nat) ({ cls := "java/lang/Object", name := "<init>", desc := "()V" } : MethodName)) ∈ TB := tb_t 160 (by decide +kernel) (by decide +kernel)
theorem wd_162 : (Cond.fieldLink "SheetWar$Aside" (9 : Nat) "SheetWar$Aside" "units" "[I") ∈ TB := tb_t 162 (by decide +kernel) (by decide +kernel)
theorem wd_165 : (Cond.fieldLink "SheetWar$Aside" (15 : Nat) "SheetWar$Aside" "origins" "[I") ∈ TB := tb_t 165 (by decide +kernel) (by decide +kernel)
theorem wd_168 : (Cond.fieldLink "SheetWar$Aside" (18 : Nat) "SheetWar$Aside" "goals" "[I") ∈ TB := tb_t 168 (by decide +kernel) (by decide +kernel)
theorem wd_161 : (Cond.methodLink "SheetWar$Aside" (21 : Nat) ({ cls := "java/util/Arrays", name := "fill", desc := "([II)V" } : MethodName)) ∈ TB := tb_t 161 (by decide +kernel) (by decide +kernel)
set_option maxHeartbeats 4000000 in
set_option maxRecDepth 100000 in
theorem c_As_init (l : Launch) (D : va_G) (cI cZ cJ cS : ClassId) (aT : Nat) (ceT : Cell) (sz : Nat) (h0 : Nat)  : Met l y_As_init w_As_init ({ frames := 1, cells := 3, slots := 36, locals := 23 }) (tH D cI cZ cJ cS aT ceT [.ref h0] sz [(h0, .inr (0, [.null, .null, .null, .int 0]))]) (va_Qv (fun _ : Unit => True) (fun _ t => ∃ (q7 : Nat) (q15 : Nat) (q23 : Nat), tB D (va_A [(h0, .inr (0, [.null, .null, .null, .int 0]))] sz) [(h0, .inr (0, [.ref q7, .ref q15, .ref q23, .int 0])), (q7, .inl (cI, 12, .inl (fun _ => (-1)))), (q15, .inl (cI, 12, .inl (fun _ => (-1)))), (q23, .inl (cI, 12, .inl (fun _ => (-1))))] t) (va_A [(h0, .inr (0, [.null, .null, .null, .int 0]))] sz)) 3 36 (va_A [(h0, .inr (0, [.null, .null, .null, .int 0]))] sz) := by
  refine Met.ofW (cc := b_As_init) (maxL := 1) (ret := none) (by decide) rfl ?_
  intro p e s m args below meth c s₁ B hml hv
  obtain ⟨rfl, hsz, hP, hK, hD0, hX⟩ := hv
  have hx := B.exec
  have hb := B.bytes
  have hr := B.returns
  have hts0 := atoms_spec (ws := w_As_init) B.pre
  have hts : ∀ w ∈ TB, w.before _ s = true := fun w h => hts0 w (List.mem_cons_of_mem _ h)
  have hown : s.vm.findClass R_As = some m.cls := findClass_of_methodNamed B.named
  have hlocks := B.notSynchronized
  have hin : meth.name = "<init>" := (name_of_methodNamed B.named B.method).1
  subst hsz
  have hXl := tx_lt hX
  have hXn := tx_far hP hX
  have hD := hD0.self (sz := s.heap.size)
  generalize hAe : va_A [(h0, .inr (0, [.null, .null, .null, .int 0]))] s.heap.size = A at hD hXn ⊢
  have hA : ∀ q : Nat, s.heap.size ≤ q → A q := fun q h => by rw [← hAe]; exact Or.inr h
  have hS : va_S A s.heap s.heap [] := va_S.rf
  have hXH : s.heap[aT]? = s.heap[aT]? := rfl
  have hl := lv_entry ([.ref h0]) (n := 1) (Nat.le_of_ble_eq_true rfl)
  rw [lg_entry_eq]
  generalize (lg_sl ([.ref h0]) ++ List.replicate (1 - (lg_sl ([.ref h0])).length) Slot.unset).toArray = ls at hl ⊢
  have hl : lv_has ls 1 [(0, .ref h0)] := hl
  refine lv_aload_n hx hb d_As_init_0 rfl (lv_at hl 0 rfl) ?_
  refine W.objInit hx hb hown (hts _ wd_160) (hts _ wd_23) (hts _ wd_24) rfl (by rw [hml]; exact hl.1) rfl d_As_init_1 (Nat.le_of_ble_eq_true rfl) (Nat.le_of_ble_eq_true rfl) ?_
  refine W.eq (g2 := F0 m 4 ls []) rfl ?_
  refine lv_aload_n hx hb d_As_init_4 rfl (lv_at hl 0 rfl) ?_
  refine lv_bipush (v := 12) hx hb d_As_init_5 (by decide) ?_
  refine tn_newi (N' := 12) hx hb (hts _ wd_52) hK hP hD hS hA (t0 := 0) rfl (by decide) (by decide) (by decide) (Nat.le_of_ble_eq_true rfl) (Nat.le_of_ble_eq_true rfl) d_As_init_7 (fun q7 H hP hD hS => ?_)
  have hP : va_P D vwCl [(h0, .inr (0, [.null, .null, .null, .int 0])), (q7, .inl (cI, 12, .inl (fun _ => 0)))] H := hP
  have hD : va_D A [(h0, .inr (0, [.null, .null, .null, .int 0])), (q7, .inl (cI, 12, .inl (fun _ => 0)))] := hD
  refine W.widen (k := 1) (n := 12) (by omega) (by omega) ?_
  refine va_putF (D := D) (ci := 0) (v := .ref q7) (ty := .array .int) (C := R_As) (T := T_As) (N := 4) hx hb hts hin_As ty_As tyok_As nm_As hown hK hP hD hS 0 rfl rfl 0 (by decide) (hts _ wd_162) (fun _ h9 => h9) rfl hin rfl (by decide +kernel) rfl rfl (Nat.le_of_ble_eq_true rfl) d_As_init_9 (fun H locs hP hD hS => ?_)
  have hP : va_P D vwCl [(h0, .inr (0, [.ref q7, .null, .null, .int 0])), (q7, .inl (cI, 12, .inl (fun _ => 0)))] H := hP
  have hD : va_D A [(h0, .inr (0, [.ref q7, .null, .null, .int 0])), (q7, .inl (cI, 12, .inl (fun _ => 0)))] := hD
  refine lv_aload_n hx hb d_As_init_12 rfl (lv_at hl 0 rfl) ?_
  refine lv_bipush (v := 12) hx hb d_As_init_13 (by decide) ?_
  refine tn_newi (N' := 12) hx hb (hts _ wd_52) hK hP hD hS hA (t0 := 0) rfl (by decide) (by decide) (by decide) (Nat.le_of_ble_eq_true rfl) (Nat.le_of_ble_eq_true rfl) d_As_init_15 (fun q15 H hP hD hS => ?_)
  have hP : va_P D vwCl [(h0, .inr (0, [.ref q7, .null, .null, .int 0])), (q7, .inl (cI, 12, .inl (fun _ => 0))), (q15, .inl (cI, 12, .inl (fun _ => 0)))] H := hP
  have hD : va_D A [(h0, .inr (0, [.ref q7, .null, .null, .int 0])), (q7, .inl (cI, 12, .inl (fun _ => 0))), (q15, .inl (cI, 12, .inl (fun _ => 0)))] := hD
  refine W.widen (k := 2) (n := 24) (by omega) (by omega) ?_
  refine va_putF (D := D) (ci := 0) (v := .ref q15) (ty := .array .int) (C := R_As) (T := T_As) (N := 4) hx hb hts hin_As ty_As tyok_As nm_As hown hK hP hD hS 0 rfl rfl 1 (by decide) (hts _ wd_165) (fun _ h9 => h9) rfl hin rfl (by decide +kernel) rfl rfl (Nat.le_of_ble_eq_true rfl) d_As_init_17 (fun H locs hP hD hS => ?_)
  have hP : va_P D vwCl [(h0, .inr (0, [.ref q7, .ref q15, .null, .int 0])), (q7, .inl (cI, 12, .inl (fun _ => 0))), (q15, .inl (cI, 12, .inl (fun _ => 0)))] H := hP
  have hD : va_D A [(h0, .inr (0, [.ref q7, .ref q15, .null, .int 0])), (q7, .inl (cI, 12, .inl (fun _ => 0))), (q15, .inl (cI, 12, .inl (fun _ => 0)))] := hD
  refine lv_aload_n hx hb d_As_init_20 rfl (lv_at hl 0 rfl) ?_
  refine lv_bipush (v := 12) hx hb d_As_init_21 (by decide) ?_
  refine tn_newi (N' := 12) hx hb (hts _ wd_52) hK hP hD hS hA (t0 := 0) rfl (by decide) (by decide) (by decide) (Nat.le_of_ble_eq_true rfl) (Nat.le_of_ble_eq_true rfl) d_As_init_23 (fun q23 H hP hD hS => ?_)
  have hP : va_P D vwCl [(h0, .inr (0, [.ref q7, .ref q15, .null, .int 0])), (q7, .inl (cI, 12, .inl (fun _ => 0))), (q15, .inl (cI, 12, .inl (fun _ => 0))), (q23, .inl (cI, 12, .inl (fun _ => 0)))] H := hP
  have hD : va_D A [(h0, .inr (0, [.ref q7, .ref q15, .null, .int 0])), (q7, .inl (cI, 12, .inl (fun _ => 0))), (q15, .inl (cI, 12, .inl (fun _ => 0))), (q23, .inl (cI, 12, .inl (fun _ => 0)))] := hD
  refine W.widen (k := 3) (n := 36) (by omega) (by omega) ?_
  refine va_putF (D := D) (ci := 0) (v := .ref q23) (ty := .array .int) (C := R_As) (T := T_As) (N := 4) hx hb hts hin_As ty_As tyok_As nm_As hown hK hP hD hS 0 rfl rfl 2 (by decide) (hts _ wd_168) (fun _ h9 => h9) rfl hin rfl (by decide +kernel) rfl rfl (Nat.le_of_ble_eq_true rfl) d_As_init_25 (fun H locs hP hD hS => ?_)
  have hP : va_P D vwCl [(h0, .inr (0, [.ref q7, .ref q15, .ref q23, .int 0])), (q7, .inl (cI, 12, .inl (fun _ => 0))), (q15, .inl (cI, 12, .inl (fun _ => 0))), (q23, .inl (cI, 12, .inl (fun _ => 0)))] H := hP
  have hD : va_D A [(h0, .inr (0, [.ref q7, .ref q15, .ref q23, .int 0])), (q7, .inl (cI, 12, .inl (fun _ => 0))), (q15, .inl (cI, 12, .inl (fun _ => 0))), (q23, .inl (cI, 12, .inl (fun _ => 0)))] := hD
  refine lv_aload_n hx hb d_As_init_28 rfl (lv_at hl 0 rfl) ?_
  refine va_get (D := D) (ci := 0) (v := .ref q7) (C := R_As) (T := T_As) (N := 4) hx hb hts hin_As hown hK hP 0 rfl rfl 0 (by decide) (hts _ wd_162) (fun _ h9 => h9) rfl d_As_init_29 ?_
  refine lv_iconst (v := (-1)) hx hb d_As_init_32 (by decide) ?_
  have hPc := hP.sub (ws' := [(q7, .inl (cI, 12, .inl (fun _ => 0)))]) [1] rfl
  have hDc := hD.sub (ws' := [(q7, .inl (cI, 12, .inl (fun _ => 0)))]) [1] (by decide) rfl
  have hFc := va_free (wc := [(q7, .inl (cI, 12, .inl (fun _ => 0)))]) hD hS hA [1] rfl
  refine va_callv (va_runS (As := [.ref q7, .int (-1)]) (rest := []) ⟨hx, hb, hml, hown, hts⟩ (c_Ar_fill l D cI cZ cJ cS aT ceT H.size q7 12 (fun _ => 0) (-1) (by decide)) (va_cwS 2 hts (tb_3 wd_161 wd_60 wd_4 (tb_c wd_61)) rfl rfl rfl ⟨by decide, by decide, by decide +kernel⟩ ⟨Nat.le_of_ble_eq_true rfl, Nat.le_of_ble_eq_true rfl⟩) (tH_S hK hX (hS.2.1 aT hXl hXn) hPc hDc) rfl rfl hl.1 rfl (lv_room (Nat.le_of_ble_eq_true rfl)) d_As_init_33 ⟨Nat.le_of_ble_eq_true rfl, Nat.le_of_ble_eq_true rfl⟩) hS (fun q _ h => hFc q h) hFc (fun u t H1 locs ht hvm h9 hB hz1 hk1 hS => ?_)
  obtain ⟨hP1, hD1⟩ := hB
  rw [ht] at hP1
  obtain ⟨hP, hD⟩ := va_join (wr := [(h0, .inr (0, [.ref q7, .ref q15, .ref q23, .int 0])), (q15, .inl (cI, 12, .inl (fun _ => 0))), (q23, .inl (cI, 12, .inl (fun _ => 0)))]) (w1 := [(q7, .inl (cI, 12, .inl (fun _ => (-1 : Int32))))]) hP hD [1] [0, 2, 3] rfl rfl (by decide) (by decide) hk1 hFc hP1 hD1
  generalize H1 = H at hP hS ⊢
  have hP : va_P D vwCl [(h0, .inr (0, [.ref q7, .ref q15, .ref q23, .int 0])), (q15, .inl (cI, 12, .inl (fun _ => 0))), (q23, .inl (cI, 12, .inl (fun _ => 0))), (q7, .inl (cI, 12, .inl (fun _ => (-1 : Int32))))] H := hP
  have hD : va_D A [(h0, .inr (0, [.ref q7, .ref q15, .ref q23, .int 0])), (q15, .inl (cI, 12, .inl (fun _ => 0))), (q23, .inl (cI, 12, .inl (fun _ => 0))), (q7, .inl (cI, 12, .inl (fun _ => (-1 : Int32))))] := hD
  refine lv_aload_n hx hb d_As_init_36 rfl (lv_at hl 0 rfl) ?_
  refine va_get (D := D) (ci := 0) (v := .ref q15) (C := R_As) (T := T_As) (N := 4) hx hb hts hin_As hown hK hP 0 rfl rfl 1 (by decide) (hts _ wd_165) (fun _ h9 => h9) rfl d_As_init_37 ?_
  refine lv_iconst (v := (-1)) hx hb d_As_init_40 (by decide) ?_
  have hPc := hP.sub (ws' := [(q15, .inl (cI, 12, .inl (fun _ => 0)))]) [1] rfl
  have hDc := hD.sub (ws' := [(q15, .inl (cI, 12, .inl (fun _ => 0)))]) [1] (by decide) rfl
  have hFc := va_free (wc := [(q15, .inl (cI, 12, .inl (fun _ => 0)))]) hD hS hA [1] rfl
  refine va_callv (va_runS (As := [.ref q15, .int (-1)]) (rest := []) ⟨hx, hb, hml, hown, hts⟩ (c_Ar_fill l D cI cZ cJ cS aT ceT H.size q15 12 (fun _ => 0) (-1) (by decide)) (va_cwS 2 hts (tb_3 wd_161 wd_60 wd_4 (tb_c wd_61)) rfl rfl rfl ⟨by decide, by decide, by decide +kernel⟩ ⟨Nat.le_of_ble_eq_true rfl, Nat.le_of_ble_eq_true rfl⟩) (tH_S hK hX (hS.2.1 aT hXl hXn) hPc hDc) rfl rfl hl.1 rfl (lv_room (Nat.le_of_ble_eq_true rfl)) d_As_init_41 ⟨Nat.le_of_ble_eq_true rfl, Nat.le_of_ble_eq_true rfl⟩) hS (fun q _ h => hFc q h) hFc (fun u t H1 locs ht hvm h9 hB hz1 hk1 hS => ?_)
  obtain ⟨hP1, hD1⟩ := hB
  rw [ht] at hP1
  obtain ⟨hP, hD⟩ := va_join (wr := [(h0, .inr (0, [.ref q7, .ref q15, .ref q23, .int 0])), (q23, .inl (cI, 12, .inl (fun _ => 0))), (q7, .inl (cI, 12, .inl (fun _ => (-1 : Int32))))]) (w1 := [(q15, .inl (cI, 12, .inl (fun _ => (-1 : Int32))))]) hP hD [1] [0, 2, 3] rfl rfl (by decide) (by decide) hk1 hFc hP1 hD1
  generalize H1 = H at hP hS ⊢
  have hP : va_P D vwCl [(h0, .inr (0, [.ref q7, .ref q15, .ref q23, .int 0])), (q23, .inl (cI, 12, .inl (fun _ => 0))), (q7, .inl (cI, 12, .inl (fun _ => (-1 : Int32)))), (q15, .inl (cI, 12, .inl (fun _ => (-1 : Int32))))] H := hP
  have hD : va_D A [(h0, .inr (0, [.ref q7, .ref q15, .ref q23, .int 0])), (q23, .inl (cI, 12, .inl (fun _ => 0))), (q7, .inl (cI, 12, .inl (fun _ => (-1 : Int32)))), (q15, .inl (cI, 12, .inl (fun _ => (-1 : Int32))))] := hD
  refine lv_aload_n hx hb d_As_init_44 rfl (lv_at hl 0 rfl) ?_
  refine va_get (D := D) (ci := 0) (v := .ref q23) (C := R_As) (T := T_As) (N := 4) hx hb hts hin_As hown hK hP 0 rfl rfl 2 (by decide) (hts _ wd_168) (fun _ h9 => h9) rfl d_As_init_45 ?_
  refine lv_iconst (v := (-1)) hx hb d_As_init_48 (by decide) ?_
  have hPc := hP.sub (ws' := [(q23, .inl (cI, 12, .inl (fun _ => 0)))]) [1] rfl
  have hDc := hD.sub (ws' := [(q23, .inl (cI, 12, .inl (fun _ => 0)))]) [1] (by decide) rfl
  have hFc := va_free (wc := [(q23, .inl (cI, 12, .inl (fun _ => 0)))]) hD hS hA [1] rfl
  refine va_callv (va_runS (As := [.ref q23, .int (-1)]) (rest := []) ⟨hx, hb, hml, hown, hts⟩ (c_Ar_fill l D cI cZ cJ cS aT ceT H.size q23 12 (fun _ => 0) (-1) (by decide)) (va_cwS 2 hts (tb_3 wd_161 wd_60 wd_4 (tb_c wd_61)) rfl rfl rfl ⟨by decide, by decide, by decide +kernel⟩ ⟨Nat.le_of_ble_eq_true rfl, Nat.le_of_ble_eq_true rfl⟩) (tH_S hK hX (hS.2.1 aT hXl hXn) hPc hDc) rfl rfl hl.1 rfl (lv_room (Nat.le_of_ble_eq_true rfl)) d_As_init_49 ⟨Nat.le_of_ble_eq_true rfl, Nat.le_of_ble_eq_true rfl⟩) hS (fun q _ h => hFc q h) hFc (fun u t H1 locs ht hvm h9 hB hz1 hk1 hS => ?_)
  obtain ⟨hP1, hD1⟩ := hB
  rw [ht] at hP1
  obtain ⟨hP, hD⟩ := va_join (wr := [(h0, .inr (0, [.ref q7, .ref q15, .ref q23, .int 0])), (q7, .inl (cI, 12, .inl (fun _ => (-1 : Int32)))), (q15, .inl (cI, 12, .inl (fun _ => (-1 : Int32))))]) (w1 := [(q23, .inl (cI, 12, .inl (fun _ => (-1 : Int32))))]) hP hD [1] [0, 2, 3] rfl rfl (by decide) (by decide) hk1 hFc hP1 hD1
  generalize H1 = H at hP hS ⊢
  have hP : va_P D vwCl [(h0, .inr (0, [.ref q7, .ref q15, .ref q23, .int 0])), (q7, .inl (cI, 12, .inl (fun _ => (-1 : Int32)))), (q15, .inl (cI, 12, .inl (fun _ => (-1 : Int32)))), (q23, .inl (cI, 12, .inl (fun _ => (-1 : Int32))))] H := hP
  have hD : va_D A [(h0, .inr (0, [.ref q7, .ref q15, .ref q23, .int 0])), (q7, .inl (cI, 12, .inl (fun _ => (-1 : Int32)))), (q15, .inl (cI, 12, .inl (fun _ => (-1 : Int32)))), (q23, .inl (cI, 12, .inl (fun _ => (-1 : Int32))))] := hD
  have hP9 := hP.sub (ws' := [(h0, .inr (0, [.ref q7, .ref q15, .ref q23, .int 0])), (q7, .inl (cI, 12, .inl (fun _ => (-1 : Int32)))), (q15, .inl (cI, 12, .inl (fun _ => (-1 : Int32)))), (q23, .inl (cI, 12, .inl (fun _ => (-1 : Int32))))]) [0, 1, 2, 3] rfl
  have hD9 := hD.sub (ws' := [(h0, .inr (0, [.ref q7, .ref q15, .ref q23, .int 0])), (q7, .inl (cI, 12, .inl (fun _ => (-1 : Int32)))), (q15, .inl (cI, 12, .inl (fun _ => (-1 : Int32)))), (q23, .inl (cI, 12, .inl (fun _ => (-1 : Int32))))]) [0, 1, 2, 3] (by decide) rfl
  refine W.widen (k := 3) (n := 36) (by omega) (by omega) ?_
  exact W.vret hx hb hr (fun t ht hW => ⟨⟨(), rfl, trivial, q7, q15, q23, by rw [ht]; exact hP9, hD9⟩, hS.F ht⟩) hS.2.2 d_As_init_52

theorem d_Se_init_0 : decode b_Se_init 0 = .ok (.aload_n 0, 1) := by decide +kernel
theorem d_Se_init_1 : decode b_Se_init 1 = .ok (.invokespecial 3, 3) := by decide +kernel
theorem d_Se_init_4 : decode b_Se_init 4 = .ok (.aload_n 0, 1) := by decide +kernel
theorem d_Se_init_5 : decode b_Se_init 5 = .ok (.bipush 12, 2) := by decide +kernel
theorem d_Se_init_7 : decode b_Se_init 7 = .ok (.newarray .int, 2) := by decide +kernel
theorem d_Se_init_9 : decode b_Se_init 9 = .ok (.putfield 9, 3) := by decide +kernel
theorem d_Se_init_12 : decode b_Se_init 12 = .ok (.aload_n 0, 1) := by decide +kernel
theorem d_Se_init_13 : decode b_Se_init 13 = .ok (.bipush 12, 2) := by decide +kernel
theorem d_Se_init_15 : decode b_Se_init 15 = .ok (.newarray .int, 2) := by decide +kernel
theorem d_Se_init_17 : decode b_Se_init 17 = .ok (.putfield 15, 3) := by decide +kernel
theorem d_Se_init_20 : decode b_Se_init 20 = .ok (.aload_n 0, 1) := by decide +kernel
theorem d_Se_init_21 : decode b_Se_init 21 = .ok (.bipush 12, 2) := by decide +kernel
theorem d_Se_init_23 : decode b_Se_init 23 = .ok (.newarray .int, 2) := by decide +kernel
theorem d_Se_init_25 : decode b_Se_init 25 = .ok (.putfield 18, 3) := by decide +kernel
theorem d_Se_init_28 : decode b_Se_init 28 = .ok (.aload_n 0, 1) := by decide +kernel
theorem d_Se_init_29 : decode b_Se_init 29 = .ok (.iconst 4, 1) := by decide +kernel
theorem d_Se_init_30 : decode b_Se_init 30 = .ok (.newarray .int, 2) := by decide +kernel
theorem d_Se_init_32 : decode b_Se_init 32 = .ok (.putfield 21, 3) := by decide +kernel
theorem d_Se_init_35 : decode b_Se_init 35 = .ok (.aload_n 0, 1) := by decide +kernel
theorem d_Se_init_36 : decode b_Se_init 36 = .ok (.bipush 12, 2) := by decide +kernel
theorem d_Se_init_38 : decode b_Se_init 38 = .ok (.newarray .int, 2) := by decide +kernel
theorem d_Se_init_40 : decode b_Se_init 40 = .ok (.putfield 24, 3) := by decide +kernel
theorem d_Se_init_43 : decode b_Se_init 43 = .ok (.aload_n 0, 1) := by decide +kernel
theorem d_Se_init_44 : decode b_Se_init 44 = .ok (.aload_n 1, 1) := by decide +kernel
theorem d_Se_init_45 : decode b_Se_init 45 = .ok (.putfield 27, 3) := by decide +kernel
theorem d_Se_init_48 : decode b_Se_init 48 = .ok (.aload_n 0, 1) := by decide +kernel
theorem d_Se_init_49 : decode b_Se_init 49 = .ok (.aload_n 2, 1) := by decide +kernel
theorem d_Se_init_50 : decode b_Se_init 50 = .ok (.putfield 31, 3) := by decide +kernel
theorem d_Se_init_53 : decode b_Se_init 53 = .ok (.return_, 1) := by decide +kernel
theorem wd_102 : (Cond.methodLink "SheetWar$Settling" (3 : Nat) ({ cls := "java/lang/Object", name := "<init>", desc := "()V" } : MethodName)) ∈ TB := tb_t 102 (by decide +kernel) (by decide +kernel)
theorem wd_109 : (Cond.fieldLink "SheetWar$Settling" (9 : Nat) "SheetWar$Settling" "movesTo" "[I") ∈ TB := tb_t 109 (by decide +kernel) (by decide +kernel)
theorem wd_110 : (Cond.fieldLink "SheetWar$Settling" (15 : Nat) "SheetWar$Settling" "backers" "[I") ∈ TB := tb_t 110 (by decide +kernel) (by decide +kernel)
theorem wd_111 : (Cond.fieldLink "SheetWar$Settling" (18 : Nat) "SheetWar$Settling" "carriers" "[I") ∈ TB := tb_t 111 (by decide +kernel) (by decide +kernel)
theorem wd_112 : (Cond.fieldLink "SheetWar$Settling" (21 : Nat) "SheetWar$Settling" "unitsOfPlayer" "[I") ∈ TB := tb_t 112 (by decide +kernel) (by decide +kernel)
theorem wd_119 : (Cond.fieldLink "SheetWar$Settling" (24 : Nat) "SheetWar$Settling" "lifted" "[I") ∈ TB := tb_t 119 (by decide +kernel) (by decide +kernel)
theorem wd_103 : (Cond.fieldLink "SheetWar$Settling" (27 : Nat) "SheetWar$Settling" "map" "LSheetWar$WarMap;") ∈ TB := tb_t 103 (by decide +kernel) (by decide +kernel)
theorem wd_104 : (Cond.fieldLink "SheetWar$Settling" (31 : Nat) "SheetWar$Settling" "sheet" "LSheetWar$Sheet;") ∈ TB := tb_t 104 (by decide +kernel) (by decide +kernel)
set_option maxHeartbeats 4000000 in
set_option maxRecDepth 100000 in
theorem c_Se_init (l : Launch) (D : va_G) (cI cZ cJ cS : ClassId) (aT : Nat) (ceT : Cell) (sz : Nat) (h0 hm hh : Nat)  : Met l y_Se_init w_Se_init ({ frames := 1, cells := 5, slots := 52, locals := 16 }) (tH D cI cZ cJ cS aT ceT [.ref h0, .ref hm, .ref hh] sz [(h0, .inr (2, [.null, .null, .int 0, .int 0, .int 0, .int 0, .null, .null, .null, .null, .int 0, .int 0, .int 0, .int 0, .int 0, .int 0, .null]))]) (va_Qv (fun _ : Unit => True) (fun _ t => ∃ (q7 : Nat) (q15 : Nat) (q23 : Nat) (q30 : Nat) (q38 : Nat), tB D (va_A [(h0, .inr (2, [.null, .null, .int 0, .int 0, .int 0, .int 0, .null, .null, .null, .null, .int 0, .int 0, .int 0, .int 0, .int 0, .int 0, .null]))] sz) [(h0, .inr (2, [.ref hm, .ref hh, .int 0, .int 0, .int 0, .int 0, .ref q7, .ref q15, .ref q23, .ref q30, .int 0, .int 0, .int 0, .int 0, .int 0, .int 0, .ref q38])), (q7, .inl (cI, 12, .inl (fun _ => 0))), (q15, .inl (cI, 12, .inl (fun _ => 0))), (q23, .inl (cI, 12, .inl (fun _ => 0))), (q30, .inl (cI, 4, .inl (fun _ => 0))), (q38, .inl (cI, 12, .inl (fun _ => 0)))] t) (va_A [(h0, .inr (2, [.null, .null, .int 0, .int 0, .int 0, .int 0, .null, .null, .null, .null, .int 0, .int 0, .int 0, .int 0, .int 0, .int 0, .null]))] sz)) 5 52 (va_A [(h0, .inr (2, [.null, .null, .int 0, .int 0, .int 0, .int 0, .null, .null, .null, .null, .int 0, .int 0, .int 0, .int 0, .int 0, .int 0, .null]))] sz) := by
  refine Met.ofW (cc := b_Se_init) (maxL := 3) (ret := none) (by decide) rfl ?_
  intro p e s m args below meth c s₁ B hml hv
  obtain ⟨rfl, hsz, hP, hK, hD0, hX⟩ := hv
  have hx := B.exec
  have hb := B.bytes
  have hr := B.returns
  have hts0 := atoms_spec (ws := w_Se_init) B.pre
  have hts : ∀ w ∈ TB, w.before _ s = true := fun w h => hts0 w (List.mem_cons_of_mem _ h)
  have hown : s.vm.findClass R_Se = some m.cls := findClass_of_methodNamed B.named
  have hlocks := B.notSynchronized
  have hin : meth.name = "<init>" := (name_of_methodNamed B.named B.method).1
  subst hsz
  have hXl := tx_lt hX
  have hXn := tx_far hP hX
  have hD := hD0.self (sz := s.heap.size)
  generalize hAe : va_A [(h0, .inr (2, [.null, .null, .int 0, .int 0, .int 0, .int 0, .null, .null, .null, .null, .int 0, .int 0, .int 0, .int 0, .int 0, .int 0, .null]))] s.heap.size = A at hD hXn ⊢
  have hA : ∀ q : Nat, s.heap.size ≤ q → A q := fun q h => by rw [← hAe]; exact Or.inr h
  have hS : va_S A s.heap s.heap [] := va_S.rf
  have hXH : s.heap[aT]? = s.heap[aT]? := rfl
  have hl := lv_entry ([.ref h0, .ref hm, .ref hh]) (n := 3) (Nat.le_of_ble_eq_true rfl)
  rw [lg_entry_eq]
  generalize (lg_sl ([.ref h0, .ref hm, .ref hh]) ++ List.replicate (3 - (lg_sl ([.ref h0, .ref hm, .ref hh])).length) Slot.unset).toArray = ls at hl ⊢
  have hl : lv_has ls 3 [(0, .ref h0), (1, .ref hm), (2, .ref hh)] := hl
  refine lv_aload_n hx hb d_Se_init_0 rfl (lv_at hl 0 rfl) ?_
  refine W.objInit hx hb hown (hts _ wd_102) (hts _ wd_23) (hts _ wd_24) rfl (by rw [hml]; exact hl.1) rfl d_Se_init_1 (Nat.le_of_ble_eq_true rfl) (Nat.le_of_ble_eq_true rfl) ?_
  refine W.eq (g2 := F0 m 4 ls []) rfl ?_
  refine lv_aload_n hx hb d_Se_init_4 rfl (lv_at hl 0 rfl) ?_
  refine lv_bipush (v := 12) hx hb d_Se_init_5 (by decide) ?_
  refine tn_newi (N' := 12) hx hb (hts _ wd_52) hK hP hD hS hA (t0 := 0) rfl (by decide) (by decide) (by decide) (Nat.le_of_ble_eq_true rfl) (Nat.le_of_ble_eq_true rfl) d_Se_init_7 (fun q7 H hP hD hS => ?_)
  have hP : va_P D vwCl [(h0, .inr (2, [.null, .null, .int 0, .int 0, .int 0, .int 0, .null, .null, .null, .null, .int 0, .int 0, .int 0, .int 0, .int 0, .int 0, .null])), (q7, .inl (cI, 12, .inl (fun _ => 0)))] H := hP
  have hD : va_D A [(h0, .inr (2, [.null, .null, .int 0, .int 0, .int 0, .int 0, .null, .null, .null, .null, .int 0, .int 0, .int 0, .int 0, .int 0, .int 0, .null])), (q7, .inl (cI, 12, .inl (fun _ => 0)))] := hD
  refine W.widen (k := 1) (n := 12) (by omega) (by omega) ?_
  refine va_putF (D := D) (ci := 2) (v := .ref q7) (ty := .array .int) (C := R_Se) (T := T_Se) (N := 17) hx hb hts hin_Se ty_Se tyok_Se nm_Se hown hK hP hD hS 0 rfl rfl 6 (by decide) (hts _ wd_109) (fun _ h9 => h9) rfl hin rfl (by decide +kernel) rfl rfl (Nat.le_of_ble_eq_true rfl) d_Se_init_9 (fun H locs hP hD hS => ?_)
  have hP : va_P D vwCl [(h0, .inr (2, [.null, .null, .int 0, .int 0, .int 0, .int 0, .ref q7, .null, .null, .null, .int 0, .int 0, .int 0, .int 0, .int 0, .int 0, .null])), (q7, .inl (cI, 12, .inl (fun _ => 0)))] H := hP
  have hD : va_D A [(h0, .inr (2, [.null, .null, .int 0, .int 0, .int 0, .int 0, .ref q7, .null, .null, .null, .int 0, .int 0, .int 0, .int 0, .int 0, .int 0, .null])), (q7, .inl (cI, 12, .inl (fun _ => 0)))] := hD
  refine lv_aload_n hx hb d_Se_init_12 rfl (lv_at hl 0 rfl) ?_
  refine lv_bipush (v := 12) hx hb d_Se_init_13 (by decide) ?_
  refine tn_newi (N' := 12) hx hb (hts _ wd_52) hK hP hD hS hA (t0 := 0) rfl (by decide) (by decide) (by decide) (Nat.le_of_ble_eq_true rfl) (Nat.le_of_ble_eq_true rfl) d_Se_init_15 (fun q15 H hP hD hS => ?_)
  have hP : va_P D vwCl [(h0, .inr (2, [.null, .null, .int 0, .int 0, .int 0, .int 0, .ref q7, .null, .null, .null, .int 0, .int 0, .int 0, .int 0, .int 0, .int 0, .null])), (q7, .inl (cI, 12, .inl (fun _ => 0))), (q15, .inl (cI, 12, .inl (fun _ => 0)))] H := hP
  have hD : va_D A [(h0, .inr (2, [.null, .null, .int 0, .int 0, .int 0, .int 0, .ref q7, .null, .null, .null, .int 0, .int 0, .int 0, .int 0, .int 0, .int 0, .null])), (q7, .inl (cI, 12, .inl (fun _ => 0))), (q15, .inl (cI, 12, .inl (fun _ => 0)))] := hD
  refine W.widen (k := 2) (n := 24) (by omega) (by omega) ?_
  refine va_putF (D := D) (ci := 2) (v := .ref q15) (ty := .array .int) (C := R_Se) (T := T_Se) (N := 17) hx hb hts hin_Se ty_Se tyok_Se nm_Se hown hK hP hD hS 0 rfl rfl 7 (by decide) (hts _ wd_110) (fun _ h9 => h9) rfl hin rfl (by decide +kernel) rfl rfl (Nat.le_of_ble_eq_true rfl) d_Se_init_17 (fun H locs hP hD hS => ?_)
  have hP : va_P D vwCl [(h0, .inr (2, [.null, .null, .int 0, .int 0, .int 0, .int 0, .ref q7, .ref q15, .null, .null, .int 0, .int 0, .int 0, .int 0, .int 0, .int 0, .null])), (q7, .inl (cI, 12, .inl (fun _ => 0))), (q15, .inl (cI, 12, .inl (fun _ => 0)))] H := hP
  have hD : va_D A [(h0, .inr (2, [.null, .null, .int 0, .int 0, .int 0, .int 0, .ref q7, .ref q15, .null, .null, .int 0, .int 0, .int 0, .int 0, .int 0, .int 0, .null])), (q7, .inl (cI, 12, .inl (fun _ => 0))), (q15, .inl (cI, 12, .inl (fun _ => 0)))] := hD
  refine lv_aload_n hx hb d_Se_init_20 rfl (lv_at hl 0 rfl) ?_
  refine lv_bipush (v := 12) hx hb d_Se_init_21 (by decide) ?_
  refine tn_newi (N' := 12) hx hb (hts _ wd_52) hK hP hD hS hA (t0 := 0) rfl (by decide) (by decide) (by decide) (Nat.le_of_ble_eq_true rfl) (Nat.le_of_ble_eq_true rfl) d_Se_init_23 (fun q23 H hP hD hS => ?_)
  have hP : va_P D vwCl [(h0, .inr (2, [.null, .null, .int 0, .int 0, .int 0, .int 0, .ref q7, .ref q15, .null, .null, .int 0, .int 0, .int 0, .int 0, .int 0, .int 0, .null])), (q7, .inl (cI, 12, .inl (fun _ => 0))), (q15, .inl (cI, 12, .inl (fun _ => 0))), (q23, .inl (cI, 12, .inl (fun _ => 0)))] H := hP
  have hD : va_D A [(h0, .inr (2, [.null, .null, .int 0, .int 0, .int 0, .int 0, .ref q7, .ref q15, .null, .null, .int 0, .int 0, .int 0, .int 0, .int 0, .int 0, .null])), (q7, .inl (cI, 12, .inl (fun _ => 0))), (q15, .inl (cI, 12, .inl (fun _ => 0))), (q23, .inl (cI, 12, .inl (fun _ => 0)))] := hD
  refine W.widen (k := 3) (n := 36) (by omega) (by omega) ?_
  refine va_putF (D := D) (ci := 2) (v := .ref q23) (ty := .array .int) (C := R_Se) (T := T_Se) (N := 17) hx hb hts hin_Se ty_Se tyok_Se nm_Se hown hK hP hD hS 0 rfl rfl 8 (by decide) (hts _ wd_111) (fun _ h9 => h9) rfl hin rfl (by decide +kernel) rfl rfl (Nat.le_of_ble_eq_true rfl) d_Se_init_25 (fun H locs hP hD hS => ?_)
  have hP : va_P D vwCl [(h0, .inr (2, [.null, .null, .int 0, .int 0, .int 0, .int 0, .ref q7, .ref q15, .ref q23, .null, .int 0, .int 0, .int 0, .int 0, .int 0, .int 0, .null])), (q7, .inl (cI, 12, .inl (fun _ => 0))), (q15, .inl (cI, 12, .inl (fun _ => 0))), (q23, .inl (cI, 12, .inl (fun _ => 0)))] H := hP
  have hD : va_D A [(h0, .inr (2, [.null, .null, .int 0, .int 0, .int 0, .int 0, .ref q7, .ref q15, .ref q23, .null, .int 0, .int 0, .int 0, .int 0, .int 0, .int 0, .null])), (q7, .inl (cI, 12, .inl (fun _ => 0))), (q15, .inl (cI, 12, .inl (fun _ => 0))), (q23, .inl (cI, 12, .inl (fun _ => 0)))] := hD
  refine lv_aload_n hx hb d_Se_init_28 rfl (lv_at hl 0 rfl) ?_
  refine lv_iconst (v := 4) hx hb d_Se_init_29 (by decide) ?_
  refine tn_newi (N' := 4) hx hb (hts _ wd_52) hK hP hD hS hA (t0 := 0) rfl (by decide) (by decide) (by decide) (Nat.le_of_ble_eq_true rfl) (Nat.le_of_ble_eq_true rfl) d_Se_init_30 (fun q30 H hP hD hS => ?_)
  have hP : va_P D vwCl [(h0, .inr (2, [.null, .null, .int 0, .int 0, .int 0, .int 0, .ref q7, .ref q15, .ref q23, .null, .int 0, .int 0, .int 0, .int 0, .int 0, .int 0, .null])), (q7, .inl (cI, 12, .inl (fun _ => 0))), (q15, .inl (cI, 12, .inl (fun _ => 0))), (q23, .inl (cI, 12, .inl (fun _ => 0))), (q30, .inl (cI, 4, .inl (fun _ => 0)))] H := hP
  have hD : va_D A [(h0, .inr (2, [.null, .null, .int 0, .int 0, .int 0, .int 0, .ref q7, .ref q15, .ref q23, .null, .int 0, .int 0, .int 0, .int 0, .int 0, .int 0, .null])), (q7, .inl (cI, 12, .inl (fun _ => 0))), (q15, .inl (cI, 12, .inl (fun _ => 0))), (q23, .inl (cI, 12, .inl (fun _ => 0))), (q30, .inl (cI, 4, .inl (fun _ => 0)))] := hD
  refine W.widen (k := 4) (n := 40) (by omega) (by omega) ?_
  refine va_putF (D := D) (ci := 2) (v := .ref q30) (ty := .array .int) (C := R_Se) (T := T_Se) (N := 17) hx hb hts hin_Se ty_Se tyok_Se nm_Se hown hK hP hD hS 0 rfl rfl 9 (by decide) (hts _ wd_112) (fun _ h9 => h9) rfl hin rfl (by decide +kernel) rfl rfl (Nat.le_of_ble_eq_true rfl) d_Se_init_32 (fun H locs hP hD hS => ?_)
  have hP : va_P D vwCl [(h0, .inr (2, [.null, .null, .int 0, .int 0, .int 0, .int 0, .ref q7, .ref q15, .ref q23, .ref q30, .int 0, .int 0, .int 0, .int 0, .int 0, .int 0, .null])), (q7, .inl (cI, 12, .inl (fun _ => 0))), (q15, .inl (cI, 12, .inl (fun _ => 0))), (q23, .inl (cI, 12, .inl (fun _ => 0))), (q30, .inl (cI, 4, .inl (fun _ => 0)))] H := hP
  have hD : va_D A [(h0, .inr (2, [.null, .null, .int 0, .int 0, .int 0, .int 0, .ref q7, .ref q15, .ref q23, .ref q30, .int 0, .int 0, .int 0, .int 0, .int 0, .int 0, .null])), (q7, .inl (cI, 12, .inl (fun _ => 0))), (q15, .inl (cI, 12, .inl (fun _ => 0))), (q23, .inl (cI, 12, .inl (fun _ => 0))), (q30, .inl (cI, 4, .inl (fun _ => 0)))] := hD
  refine lv_aload_n hx hb d_Se_init_35 rfl (lv_at hl 0 rfl) ?_
  refine lv_bipush (v := 12) hx hb d_Se_init_36 (by decide) ?_
  refine tn_newi (N' := 12) hx hb (hts _ wd_52) hK hP hD hS hA (t0 := 0) rfl (by decide) (by decide) (by decide) (Nat.le_of_ble_eq_true rfl) (Nat.le_of_ble_eq_true rfl) d_Se_init_38 (fun q38 H hP hD hS => ?_)
  have hP : va_P D vwCl [(h0, .inr (2, [.null, .null, .int 0, .int 0, .int 0, .int 0, .ref q7, .ref q15, .ref q23, .ref q30, .int 0, .int 0, .int 0, .int 0, .int 0, .int 0, .null])), (q7, .inl (cI, 12, .inl (fun _ => 0))), (q15, .inl (cI, 12, .inl (fun _ => 0))), (q23, .inl (cI, 12, .inl (fun _ => 0))), (q30, .inl (cI, 4, .inl (fun _ => 0))), (q38, .inl (cI, 12, .inl (fun _ => 0)))] H := hP
  have hD : va_D A [(h0, .inr (2, [.null, .null, .int 0, .int 0, .int 0, .int 0, .ref q7, .ref q15, .ref q23, .ref q30, .int 0, .int 0, .int 0, .int 0, .int 0, .int 0, .null])), (q7, .inl (cI, 12, .inl (fun _ => 0))), (q15, .inl (cI, 12, .inl (fun _ => 0))), (q23, .inl (cI, 12, .inl (fun _ => 0))), (q30, .inl (cI, 4, .inl (fun _ => 0))), (q38, .inl (cI, 12, .inl (fun _ => 0)))] := hD
  refine W.widen (k := 5) (n := 52) (by omega) (by omega) ?_
  refine va_putF (D := D) (ci := 2) (v := .ref q38) (ty := .array .int) (C := R_Se) (T := T_Se) (N := 17) hx hb hts hin_Se ty_Se tyok_Se nm_Se hown hK hP hD hS 0 rfl rfl 16 (by decide) (hts _ wd_119) (fun _ h9 => h9) rfl hin rfl (by decide +kernel) rfl rfl (Nat.le_of_ble_eq_true rfl) d_Se_init_40 (fun H locs hP hD hS => ?_)
  have hP : va_P D vwCl [(h0, .inr (2, [.null, .null, .int 0, .int 0, .int 0, .int 0, .ref q7, .ref q15, .ref q23, .ref q30, .int 0, .int 0, .int 0, .int 0, .int 0, .int 0, .ref q38])), (q7, .inl (cI, 12, .inl (fun _ => 0))), (q15, .inl (cI, 12, .inl (fun _ => 0))), (q23, .inl (cI, 12, .inl (fun _ => 0))), (q30, .inl (cI, 4, .inl (fun _ => 0))), (q38, .inl (cI, 12, .inl (fun _ => 0)))] H := hP
  have hD : va_D A [(h0, .inr (2, [.null, .null, .int 0, .int 0, .int 0, .int 0, .ref q7, .ref q15, .ref q23, .ref q30, .int 0, .int 0, .int 0, .int 0, .int 0, .int 0, .ref q38])), (q7, .inl (cI, 12, .inl (fun _ => 0))), (q15, .inl (cI, 12, .inl (fun _ => 0))), (q23, .inl (cI, 12, .inl (fun _ => 0))), (q30, .inl (cI, 4, .inl (fun _ => 0))), (q38, .inl (cI, 12, .inl (fun _ => 0)))] := hD
  refine lv_aload_n hx hb d_Se_init_43 rfl (lv_at hl 0 rfl) ?_
  refine lv_aload_n hx hb d_Se_init_44 rfl (lv_at hl 1 rfl) ?_
  refine va_putF (D := D) (ci := 2) (v := .ref hm) (ty := .object "SheetWar$WarMap") (C := R_Se) (T := T_Se) (N := 17) hx hb hts hin_Se ty_Se tyok_Se nm_Se hown hK hP hD hS 0 rfl rfl 0 (by decide) (hts _ wd_103) (fun _ h9 => h9) rfl hin rfl (by decide +kernel) rfl rfl (Nat.le_of_ble_eq_true rfl) d_Se_init_45 (fun H locs hP hD hS => ?_)
  have hP : va_P D vwCl [(h0, .inr (2, [.ref hm, .null, .int 0, .int 0, .int 0, .int 0, .ref q7, .ref q15, .ref q23, .ref q30, .int 0, .int 0, .int 0, .int 0, .int 0, .int 0, .ref q38])), (q7, .inl (cI, 12, .inl (fun _ => 0))), (q15, .inl (cI, 12, .inl (fun _ => 0))), (q23, .inl (cI, 12, .inl (fun _ => 0))), (q30, .inl (cI, 4, .inl (fun _ => 0))), (q38, .inl (cI, 12, .inl (fun _ => 0)))] H := hP
  have hD : va_D A [(h0, .inr (2, [.ref hm, .null, .int 0, .int 0, .int 0, .int 0, .ref q7, .ref q15, .ref q23, .ref q30, .int 0, .int 0, .int 0, .int 0, .int 0, .int 0, .ref q38])), (q7, .inl (cI, 12, .inl (fun _ => 0))), (q15, .inl (cI, 12, .inl (fun _ => 0))), (q23, .inl (cI, 12, .inl (fun _ => 0))), (q30, .inl (cI, 4, .inl (fun _ => 0))), (q38, .inl (cI, 12, .inl (fun _ => 0)))] := hD
  refine lv_aload_n hx hb d_Se_init_48 rfl (lv_at hl 0 rfl) ?_
  refine lv_aload_n hx hb d_Se_init_49 rfl (lv_at hl 2 rfl) ?_
  refine va_putF (D := D) (ci := 2) (v := .ref hh) (ty := .object "SheetWar$Sheet") (C := R_Se) (T := T_Se) (N := 17) hx hb hts hin_Se ty_Se tyok_Se nm_Se hown hK hP hD hS 0 rfl rfl 1 (by decide) (hts _ wd_104) (fun _ h9 => h9) rfl hin rfl (by decide +kernel) rfl rfl (Nat.le_of_ble_eq_true rfl) d_Se_init_50 (fun H locs hP hD hS => ?_)
  have hP : va_P D vwCl [(h0, .inr (2, [.ref hm, .ref hh, .int 0, .int 0, .int 0, .int 0, .ref q7, .ref q15, .ref q23, .ref q30, .int 0, .int 0, .int 0, .int 0, .int 0, .int 0, .ref q38])), (q7, .inl (cI, 12, .inl (fun _ => 0))), (q15, .inl (cI, 12, .inl (fun _ => 0))), (q23, .inl (cI, 12, .inl (fun _ => 0))), (q30, .inl (cI, 4, .inl (fun _ => 0))), (q38, .inl (cI, 12, .inl (fun _ => 0)))] H := hP
  have hD : va_D A [(h0, .inr (2, [.ref hm, .ref hh, .int 0, .int 0, .int 0, .int 0, .ref q7, .ref q15, .ref q23, .ref q30, .int 0, .int 0, .int 0, .int 0, .int 0, .int 0, .ref q38])), (q7, .inl (cI, 12, .inl (fun _ => 0))), (q15, .inl (cI, 12, .inl (fun _ => 0))), (q23, .inl (cI, 12, .inl (fun _ => 0))), (q30, .inl (cI, 4, .inl (fun _ => 0))), (q38, .inl (cI, 12, .inl (fun _ => 0)))] := hD
  have hP9 := hP.sub (ws' := [(h0, .inr (2, [.ref hm, .ref hh, .int 0, .int 0, .int 0, .int 0, .ref q7, .ref q15, .ref q23, .ref q30, .int 0, .int 0, .int 0, .int 0, .int 0, .int 0, .ref q38])), (q7, .inl (cI, 12, .inl (fun _ => 0))), (q15, .inl (cI, 12, .inl (fun _ => 0))), (q23, .inl (cI, 12, .inl (fun _ => 0))), (q30, .inl (cI, 4, .inl (fun _ => 0))), (q38, .inl (cI, 12, .inl (fun _ => 0)))]) [0, 1, 2, 3, 4, 5] rfl
  have hD9 := hD.sub (ws' := [(h0, .inr (2, [.ref hm, .ref hh, .int 0, .int 0, .int 0, .int 0, .ref q7, .ref q15, .ref q23, .ref q30, .int 0, .int 0, .int 0, .int 0, .int 0, .int 0, .ref q38])), (q7, .inl (cI, 12, .inl (fun _ => 0))), (q15, .inl (cI, 12, .inl (fun _ => 0))), (q23, .inl (cI, 12, .inl (fun _ => 0))), (q30, .inl (cI, 4, .inl (fun _ => 0))), (q38, .inl (cI, 12, .inl (fun _ => 0)))]) [0, 1, 2, 3, 4, 5] (by decide) rfl
  refine W.widen (k := 5) (n := 52) (by omega) (by omega) ?_
  exact W.vret hx hb hr (fun t ht hW => ⟨⟨(), rfl, trivial, q7, q15, q23, q30, q38, by rw [ht]; exact hP9, hD9⟩, hS.F ht⟩) hS.2.2 d_Se_init_53

theorem d_Pa_init_0 : decode b_Pa_init 0 = .ok (.aload_n 0, 1) := by decide +kernel
theorem d_Pa_init_1 : decode b_Pa_init 1 = .ok (.invokespecial 1, 3) := by decide +kernel
theorem d_Pa_init_4 : decode b_Pa_init 4 = .ok (.aload_n 0, 1) := by decide +kernel
theorem d_Pa_init_5 : decode b_Pa_init 5 = .ok (.bipush 8, 2) := by decide +kernel
theorem d_Pa_init_7 : decode b_Pa_init 7 = .ok (.anewarray 9, 3) := by decide +kernel
theorem d_Pa_init_10 : decode b_Pa_init 10 = .ok (.putfield 11, 3) := by decide +kernel
theorem d_Pa_init_13 : decode b_Pa_init 13 = .ok (.iconst 0, 1) := by decide +kernel
theorem d_Pa_init_14 : decode b_Pa_init 14 = .ok (.istore_n 1, 1) := by decide +kernel
theorem d_Pa_init_15 : decode b_Pa_init 15 = .ok (.iload_n 1, 1) := by decide +kernel
theorem d_Pa_init_16 : decode b_Pa_init 16 = .ok (.bipush 8, 2) := by decide +kernel
theorem d_Pa_init_18 : decode b_Pa_init 18 = .ok (.if_icmp .ge 22, 3) := by decide +kernel
theorem d_Pa_init_21 : decode b_Pa_init 21 = .ok (.aload_n 0, 1) := by decide +kernel
theorem d_Pa_init_22 : decode b_Pa_init 22 = .ok (.getfield 11, 3) := by decide +kernel
theorem d_Pa_init_25 : decode b_Pa_init 25 = .ok (.iload_n 1, 1) := by decide +kernel
theorem d_Pa_init_26 : decode b_Pa_init 26 = .ok (.new 9, 3) := by decide +kernel
theorem d_Pa_init_29 : decode b_Pa_init 29 = .ok (.dup, 1) := by decide +kernel
theorem d_Pa_init_30 : decode b_Pa_init 30 = .ok (.invokespecial 15, 3) := by decide +kernel
theorem d_Pa_init_33 : decode b_Pa_init 33 = .ok (.aastore, 1) := by decide +kernel
theorem d_Pa_init_34 : decode b_Pa_init 34 = .ok (.iinc 1 1, 3) := by decide +kernel
theorem d_Pa_init_37 : decode b_Pa_init 37 = .ok (.goto (-22), 3) := by decide +kernel
theorem d_Pa_init_40 : decode b_Pa_init 40 = .ok (.return_, 1) := by decide +kernel
theorem wd_187 : (Cond.methodLink "SheetWar$Past" (1 : Nat) ({ cls := "java/lang/Object", name := "<init>", desc := "()V" } : MethodName)) ∈ TB := tb_t 187 (by decide +kernel) (by decide +kernel)
theorem wd_188 : (Cond.classLink "SheetWar$Past" (9 : Nat) "SheetWar$Sheet") ∈ TB := tb_t 188 (by decide +kernel) (by decide +kernel)
theorem wd_191 : (Cond.fieldLink "SheetWar$Past" (11 : Nat) "SheetWar$Past" "kept" "[LSheetWar$Sheet;") ∈ TB := tb_t 191 (by decide +kernel) (by decide +kernel)
theorem wd_54 : (Cond.instantiable "SheetWar$Sheet" (7 : Nat)) ∈ TB := tb_t 54 (by decide +kernel) (by decide +kernel)
theorem wd_3 : (Cond.initialized "SheetWar$Sheet") ∈ TB := tb_t 3 (by decide +kernel) (by decide +kernel)
theorem wd_57 : (Cond.code ({ cls := "SheetWar$Sheet", name := "<init>", desc := "()V" } : MethodName) prog_5_method_1_code (1 : Nat) (Option.none : Option FieldType)) ∈ TB := tb_t 57 (by decide +kernel) (by decide +kernel)
theorem wd_190 : (Cond.methodLink "SheetWar$Past" (15 : Nat) ({ cls := "SheetWar$Sheet", name := "<init>", desc := "()V" } : MethodName)) ∈ TB := tb_t 190 (by decide +kernel) (by decide +kernel)
theorem wd_56 : (Cond.instanceMethod ({ cls := "SheetWar$Sheet", name := "<init>", desc := "()V" } : MethodName)) ∈ TB := tb_t 56 (by decide +kernel) (by decide +kernel)
set_option maxHeartbeats 4000000 in
set_option maxRecDepth 100000 in
theorem c_Pa_init0 (l : Launch) (D : va_G) (cI cZ cJ cS : ClassId) (aT : Nat) (ceT : Cell) (sz : Nat) (h0 : Nat)  : Met l y_Pa_init w_Pa_init ({ frames := 2, cells := 57, slots := 640, locals := 43 }) (tH D cI cZ cJ cS aT ceT [.ref h0] sz [(h0, .inr (1, [.null, .int 0, .int 0]))]) (va_Qv (fun _ : Unit => True) (fun _ t => ∃ (q7 : Nat), tB D (va_A [(h0, .inr (1, [.null, .int 0, .int 0]))] sz) [(h0, .inr (1, [.ref q7, .int 0, .int 0]))] t) (va_A [(h0, .inr (1, [.null, .int 0, .int 0]))] sz)) 57 640 (va_A [(h0, .inr (1, [.null, .int 0, .int 0]))] sz) := by
  refine Met.ofW (cc := b_Pa_init) (maxL := 2) (ret := none) (by decide) rfl ?_
  intro p e s m args below meth c s₁ B hml hv
  obtain ⟨rfl, hsz, hP, hK, hD0, hX⟩ := hv
  have hx := B.exec
  have hb := B.bytes
  have hr := B.returns
  have hts0 := atoms_spec (ws := w_Pa_init) B.pre
  have hts : ∀ w ∈ TB, w.before _ s = true := fun w h => hts0 w (List.mem_cons_of_mem _ h)
  have hown : s.vm.findClass R_Pa = some m.cls := findClass_of_methodNamed B.named
  have hlocks := B.notSynchronized
  have hin : meth.name = "<init>" := (name_of_methodNamed B.named B.method).1
  subst hsz
  have hXl := tx_lt hX
  have hXn := tx_far hP hX
  have hD := hD0.self (sz := s.heap.size)
  generalize hAe : va_A [(h0, .inr (1, [.null, .int 0, .int 0]))] s.heap.size = A at hD hXn ⊢
  have hA : ∀ q : Nat, s.heap.size ≤ q → A q := fun q h => by rw [← hAe]; exact Or.inr h
  have hS : va_S A s.heap s.heap [] := va_S.rf
  have hXH : s.heap[aT]? = s.heap[aT]? := rfl
  have hl := lv_entry ([.ref h0]) (n := 2) (Nat.le_of_ble_eq_true rfl)
  rw [lg_entry_eq]
  generalize (lg_sl ([.ref h0]) ++ List.replicate (2 - (lg_sl ([.ref h0])).length) Slot.unset).toArray = ls at hl ⊢
  have hl : lv_has ls 2 [(0, .ref h0)] := hl
  refine lv_aload_n hx hb d_Pa_init_0 rfl (lv_at hl 0 rfl) ?_
  refine W.objInit hx hb hown (hts _ wd_187) (hts _ wd_23) (hts _ wd_24) rfl (by rw [hml]; exact hl.1) rfl d_Pa_init_1 (Nat.le_of_ble_eq_true rfl) (Nat.le_of_ble_eq_true rfl) ?_
  refine W.eq (g2 := F0 m 4 ls []) rfl ?_
  refine lv_aload_n hx hb d_Pa_init_4 rfl (lv_at hl 0 rfl) ?_
  refine lv_bipush (v := 8) hx hb d_Pa_init_5 (by decide) ?_
  refine tn_newq (N' := 8) hx hb hown (hts _ wd_188) hX.2.2.2.2.2.2.2.2.2.1 hK hP hD hS hA (t0 := 3) rfl (by decide) (by decide) (by decide) (Nat.le_of_ble_eq_true rfl) (Nat.le_of_ble_eq_true rfl) d_Pa_init_7 (fun q7 H hP hD hS => ?_)
  have hP : va_P D vwCl [(h0, .inr (1, [.null, .int 0, .int 0])), (q7, .inl (cS, 8, .inr (.inr (.inr (.inr (fun _ => none))))))] H := hP
  have hD : va_D A [(h0, .inr (1, [.null, .int 0, .int 0])), (q7, .inl (cS, 8, .inr (.inr (.inr (.inr (fun _ => none))))))] := hD
  refine W.widen (k := 1) (n := 8) (by omega) (by omega) ?_
  refine va_putF (D := D) (ci := 1) (v := .ref q7) (ty := .array (.object "SheetWar$Sheet")) (C := R_Pa) (T := T_Pa) (N := 3) hx hb hts hin_Pa ty_Pa tyok_Pa nm_Pa hown hK hP hD hS 0 rfl rfl 0 (by decide) (hts _ wd_191) (fun _ h9 => h9) rfl hin rfl (by decide +kernel) rfl rfl (Nat.le_of_ble_eq_true rfl) d_Pa_init_10 (fun H locs hP hD hS => ?_)
  have hP : va_P D vwCl [(h0, .inr (1, [.ref q7, .int 0, .int 0])), (q7, .inl (cS, 8, .inr (.inr (.inr (.inr (fun _ => none))))))] H := hP
  have hD : va_D A [(h0, .inr (1, [.ref q7, .int 0, .int 0])), (q7, .inl (cS, 8, .inr (.inr (.inr (.inr (fun _ => none))))))] := hD
  refine lv_iconst (v := 0) hx hb d_Pa_init_13 (by decide) ?_
  refine lv_istore_n (lv' := [(1, .int 0), (0, .ref h0)]) hx hb d_Pa_init_14 rfl hl (by decide) rfl (fun ls hl => ?_)
  refine lv_iload_n hx hb d_Pa_init_15 rfl (lv_at hl 0 rfl) ?_
  refine lv_bipush (v := 8) hx hb d_Pa_init_16 (by decide) ?_
  refine lv_icmp_ge (tgt := 40) hx hb d_Pa_init_18 (by decide) (fun h0 => absurd h0 (by decide)) (fun _ => ?_)
  refine lv_aload_n hx hb d_Pa_init_21 rfl (lv_at hl 1 rfl) ?_
  refine va_get (D := D) (ci := 1) (v := .ref q7) (C := R_Pa) (T := T_Pa) (N := 3) hx hb hts hin_Pa hown hK hP 0 rfl rfl 0 (by decide) (hts _ wd_191) (fun _ h9 => h9) rfl d_Pa_init_22 ?_
  refine lv_iload_n hx hb d_Pa_init_25 rfl (lv_at hl 0 rfl) ?_
  refine va_new (ci := 3) (fs := [.int 0, .null, .null, .null, .null, .null, .null]) (C := R_Sh) (T := T_Sh) (N := 7) hx hb hts hin_Sh ty_Sh tyok_Sh hown (hts _ wd_188) (hts _ wd_54) (hts _ wd_3) hK hP hD hS hA rfl (fun j hj => by rcases (show j = 0 ∨ j = 1 ∨ j = 2 ∨ j = 3 ∨ j = 4 ∨ j = 5 ∨ j = 6 by omega) with rfl | rfl | rfl | rfl | rfl | rfl | rfl <;> rfl) (Nat.le_of_ble_eq_true rfl) (Nat.le_of_ble_eq_true rfl) d_Pa_init_26 (fun q26 H hP hD hS => ?_)
  have hP : va_P D vwCl [(h0, .inr (1, [.ref q7, .int 0, .int 0])), (q7, .inl (cS, 8, .inr (.inr (.inr (.inr (fun _ => none)))))), (q26, .inr (3, [.int 0, .null, .null, .null, .null, .null, .null]))] H := hP
  have hD : va_D A [(h0, .inr (1, [.ref q7, .int 0, .int 0])), (q7, .inl (cS, 8, .inr (.inr (.inr (.inr (fun _ => none)))))), (q26, .inr (3, [.int 0, .null, .null, .null, .null, .null, .null]))] := hD
  refine W.widen (k := 2) (n := 15) (by omega) (by omega) ?_
  refine lv_dup hx hb d_Pa_init_29 rfl ?_
  have hPc := hP.sub (ws' := [(q26, .inr (3, [.int 0, .null, .null, .null, .null, .null, .null]))]) [2] rfl
  have hDc := hD.sub (ws' := [(q26, .inr (3, [.int 0, .null, .null, .null, .null, .null, .null]))]) [2] (by decide) rfl
  have hFc := va_free (wc := [(q26, .inr (3, [.int 0, .null, .null, .null, .null, .null, .null]))]) hD hS hA [2] rfl
  refine va_callv (va_runI (As := []) (rest := [.ref q26, .int 0, .ref q7]) ⟨hx, hb, hml, hown, hts⟩ (c_Sh_init l D cI cZ cJ cS aT ceT H.size q26 ) (cwI 0 hts (tb_c wd_57) rfl rfl rfl (hts _ wd_3) (hts _ wd_190) (hts _ wd_56) rfl ⟨by decide, by decide, by decide +kernel⟩ ⟨Nat.le_of_ble_eq_true rfl, Nat.le_of_ble_eq_true rfl⟩) (tH_S hK hX (hS.2.1 aT hXl hXn) hPc hDc) rfl rfl hl.1 rfl (lv_room (Nat.le_of_ble_eq_true rfl)) d_Pa_init_30 ⟨Nat.le_of_ble_eq_true rfl, Nat.le_of_ble_eq_true rfl⟩) hS (fun q _ h => hFc q h) hFc (fun u t H1 locs ht hvm h9 hB hz1 hk1 hS => ?_)
  obtain ⟨q7_30, q15_30, q23_30, q31_30, q39_30, q47_30, hP1, hD1⟩ := hB
  rw [ht] at hP1
  obtain ⟨hP, hD⟩ := va_join (wr := [(h0, .inr (1, [.ref q7, .int 0, .int 0])), (q7, .inl (cS, 8, .inr (.inr (.inr (.inr (fun _ => none))))))]) (w1 := [(q26, .inr (3, [.int 0, .ref q7_30, .ref q15_30, .ref q23_30, .ref q31_30, .ref q39_30, .ref q47_30])), (q7_30, .inl (cI, 12, .inl (fun _ => (-1)))), (q15_30, .inl (cI, 12, .inl (fun _ => 0))), (q23_30, .inl (cI, 12, .inl (fun _ => 0))), (q31_30, .inl (cI, 12, .inl (fun _ => 0))), (q39_30, .inl (cI, 12, .inl (fun _ => 0))), (q47_30, .inl (cI, 12, .inl (fun _ => (-1))))]) hP hD [2] [0, 1] rfl rfl (by decide) (by decide) hk1 hFc hP1 hD1
  generalize H1 = H at hP hS ⊢
  have hP : va_P D vwCl [(h0, .inr (1, [.ref q7, .int 0, .int 0])), (q7, .inl (cS, 8, .inr (.inr (.inr (.inr (fun _ => none)))))), (q26, .inr (3, [.int 0, .ref q7_30, .ref q15_30, .ref q23_30, .ref q31_30, .ref q39_30, .ref q47_30])), (q7_30, .inl (cI, 12, .inl (fun _ => (-1)))), (q15_30, .inl (cI, 12, .inl (fun _ => 0))), (q23_30, .inl (cI, 12, .inl (fun _ => 0))), (q31_30, .inl (cI, 12, .inl (fun _ => 0))), (q39_30, .inl (cI, 12, .inl (fun _ => 0))), (q47_30, .inl (cI, 12, .inl (fun _ => (-1))))] H := hP
  have hD : va_D A [(h0, .inr (1, [.ref q7, .int 0, .int 0])), (q7, .inl (cS, 8, .inr (.inr (.inr (.inr (fun _ => none)))))), (q26, .inr (3, [.int 0, .ref q7_30, .ref q15_30, .ref q23_30, .ref q31_30, .ref q39_30, .ref q47_30])), (q7_30, .inl (cI, 12, .inl (fun _ => (-1)))), (q15_30, .inl (cI, 12, .inl (fun _ => 0))), (q23_30, .inl (cI, 12, .inl (fun _ => 0))), (q31_30, .inl (cI, 12, .inl (fun _ => 0))), (q39_30, .inl (cI, 12, .inl (fun _ => 0))), (q47_30, .inl (cI, 12, .inl (fun _ => (-1))))] := hD
  refine W.widen (k := 8) (n := 87) (by omega) (by omega) ?_
  refine va_astq (r := (R_Sh, T_Sh, 7)) hx hb hK hP hD hS 1 3 2 3 rfl rfl rfl rfl (by unfold vp_in; decide) d_Pa_init_33 (fun H locs hP hD hS => ?_)
  have hP : va_P D vwCl [(h0, .inr (1, [.ref q7, .int 0, .int 0])), (q7, .inl (cS, 8, .inr (.inr (.inr (.inr (va_up (fun _ => none) (0 : Int32).toNatClampNeg (some q26))))))), (q26, .inr (3, [.int 0, .ref q7_30, .ref q15_30, .ref q23_30, .ref q31_30, .ref q39_30, .ref q47_30])), (q7_30, .inl (cI, 12, .inl (fun _ => (-1)))), (q15_30, .inl (cI, 12, .inl (fun _ => 0))), (q23_30, .inl (cI, 12, .inl (fun _ => 0))), (q31_30, .inl (cI, 12, .inl (fun _ => 0))), (q39_30, .inl (cI, 12, .inl (fun _ => 0))), (q47_30, .inl (cI, 12, .inl (fun _ => (-1))))] H := hP
  have hD : va_D A [(h0, .inr (1, [.ref q7, .int 0, .int 0])), (q7, .inl (cS, 8, .inr (.inr (.inr (.inr (va_up (fun _ => none) (0 : Int32).toNatClampNeg (some q26))))))), (q26, .inr (3, [.int 0, .ref q7_30, .ref q15_30, .ref q23_30, .ref q31_30, .ref q39_30, .ref q47_30])), (q7_30, .inl (cI, 12, .inl (fun _ => (-1)))), (q15_30, .inl (cI, 12, .inl (fun _ => 0))), (q23_30, .inl (cI, 12, .inl (fun _ => 0))), (q31_30, .inl (cI, 12, .inl (fun _ => 0))), (q39_30, .inl (cI, 12, .inl (fun _ => 0))), (q47_30, .inl (cI, 12, .inl (fun _ => (-1))))] := hD
  have hP := hP.sub (ws' := [(h0, .inr (1, [.ref q7, .int 0, .int 0])), (q7, .inl (cS, 8, .inr (.inr (.inr (.inr (va_up (fun _ => none) (0 : Int32).toNatClampNeg (some q26)))))))]) [0, 1] rfl
  have hD := hD.sub (ws' := [(h0, .inr (1, [.ref q7, .int 0, .int 0])), (q7, .inl (cS, 8, .inr (.inr (.inr (.inr (va_up (fun _ => none) (0 : Int32).toNatClampNeg (some q26)))))))]) [0, 1] (by decide) rfl
  refine lv_iinc (lv' := [(1, .int 1), (0, .ref h0)]) hx hb d_Pa_init_34 hl (k := 0) rfl (by decide) (by decide) rfl (fun ls hl => ?_)
  refine lv_goto (tgt := 15) hx hb d_Pa_init_37 (by decide) ?_
  refine lv_iload_n hx hb d_Pa_init_15 rfl (lv_at hl 0 rfl) ?_
  refine lv_bipush (v := 8) hx hb d_Pa_init_16 (by decide) ?_
  refine lv_icmp_ge (tgt := 40) hx hb d_Pa_init_18 (by decide) (fun h0 => absurd h0 (by decide)) (fun _ => ?_)
  refine lv_aload_n hx hb d_Pa_init_21 rfl (lv_at hl 1 rfl) ?_
  refine va_get (D := D) (ci := 1) (v := .ref q7) (C := R_Pa) (T := T_Pa) (N := 3) hx hb hts hin_Pa hown hK hP 0 rfl rfl 0 (by decide) (hts _ wd_191) (fun _ h9 => h9) rfl d_Pa_init_22 ?_
  refine lv_iload_n hx hb d_Pa_init_25 rfl (lv_at hl 0 rfl) ?_
  refine va_new (ci := 3) (fs := [.int 0, .null, .null, .null, .null, .null, .null]) (C := R_Sh) (T := T_Sh) (N := 7) hx hb hts hin_Sh ty_Sh tyok_Sh hown (hts _ wd_188) (hts _ wd_54) (hts _ wd_3) hK hP hD hS hA rfl (fun j hj => by rcases (show j = 0 ∨ j = 1 ∨ j = 2 ∨ j = 3 ∨ j = 4 ∨ j = 5 ∨ j = 6 by omega) with rfl | rfl | rfl | rfl | rfl | rfl | rfl <;> rfl) (Nat.le_of_ble_eq_true rfl) (Nat.le_of_ble_eq_true rfl) d_Pa_init_26 (fun q26_v1 H hP hD hS => ?_)
  have hP : va_P D vwCl [(h0, .inr (1, [.ref q7, .int 0, .int 0])), (q7, .inl (cS, 8, .inr (.inr (.inr (.inr (va_up (fun _ => none) (0 : Int32).toNatClampNeg (some q26))))))), (q26_v1, .inr (3, [.int 0, .null, .null, .null, .null, .null, .null]))] H := hP
  have hD : va_D A [(h0, .inr (1, [.ref q7, .int 0, .int 0])), (q7, .inl (cS, 8, .inr (.inr (.inr (.inr (va_up (fun _ => none) (0 : Int32).toNatClampNeg (some q26))))))), (q26_v1, .inr (3, [.int 0, .null, .null, .null, .null, .null, .null]))] := hD
  refine W.widen (k := 9) (n := 94) (by omega) (by omega) ?_
  refine lv_dup hx hb d_Pa_init_29 rfl ?_
  have hPc := hP.sub (ws' := [(q26_v1, .inr (3, [.int 0, .null, .null, .null, .null, .null, .null]))]) [2] rfl
  have hDc := hD.sub (ws' := [(q26_v1, .inr (3, [.int 0, .null, .null, .null, .null, .null, .null]))]) [2] (by decide) rfl
  have hFc := va_free (wc := [(q26_v1, .inr (3, [.int 0, .null, .null, .null, .null, .null, .null]))]) hD hS hA [2] rfl
  refine va_callv (va_runI (As := []) (rest := [.ref q26_v1, .int 1, .ref q7]) ⟨hx, hb, hml, hown, hts⟩ (c_Sh_init l D cI cZ cJ cS aT ceT H.size q26_v1 ) (cwI 0 hts (tb_c wd_57) rfl rfl rfl (hts _ wd_3) (hts _ wd_190) (hts _ wd_56) rfl ⟨by decide, by decide, by decide +kernel⟩ ⟨Nat.le_of_ble_eq_true rfl, Nat.le_of_ble_eq_true rfl⟩) (tH_S hK hX (hS.2.1 aT hXl hXn) hPc hDc) rfl rfl hl.1 rfl (lv_room (Nat.le_of_ble_eq_true rfl)) d_Pa_init_30 ⟨Nat.le_of_ble_eq_true rfl, Nat.le_of_ble_eq_true rfl⟩) hS (fun q _ h => hFc q h) hFc (fun u t H1 locs ht hvm h9 hB hz1 hk1 hS => ?_)
  obtain ⟨q7_30_v1, q15_30_v1, q23_30_v1, q31_30_v1, q39_30_v1, q47_30_v1, hP1, hD1⟩ := hB
  rw [ht] at hP1
  obtain ⟨hP, hD⟩ := va_join (wr := [(h0, .inr (1, [.ref q7, .int 0, .int 0])), (q7, .inl (cS, 8, .inr (.inr (.inr (.inr (va_up (fun _ => none) (0 : Int32).toNatClampNeg (some q26)))))))]) (w1 := [(q26_v1, .inr (3, [.int 0, .ref q7_30_v1, .ref q15_30_v1, .ref q23_30_v1, .ref q31_30_v1, .ref q39_30_v1, .ref q47_30_v1])), (q7_30_v1, .inl (cI, 12, .inl (fun _ => (-1)))), (q15_30_v1, .inl (cI, 12, .inl (fun _ => 0))), (q23_30_v1, .inl (cI, 12, .inl (fun _ => 0))), (q31_30_v1, .inl (cI, 12, .inl (fun _ => 0))), (q39_30_v1, .inl (cI, 12, .inl (fun _ => 0))), (q47_30_v1, .inl (cI, 12, .inl (fun _ => (-1))))]) hP hD [2] [0, 1] rfl rfl (by decide) (by decide) hk1 hFc hP1 hD1
  generalize H1 = H at hP hS ⊢
  have hP : va_P D vwCl [(h0, .inr (1, [.ref q7, .int 0, .int 0])), (q7, .inl (cS, 8, .inr (.inr (.inr (.inr (va_up (fun _ => none) (0 : Int32).toNatClampNeg (some q26))))))), (q26_v1, .inr (3, [.int 0, .ref q7_30_v1, .ref q15_30_v1, .ref q23_30_v1, .ref q31_30_v1, .ref q39_30_v1, .ref q47_30_v1])), (q7_30_v1, .inl (cI, 12, .inl (fun _ => (-1)))), (q15_30_v1, .inl (cI, 12, .inl (fun _ => 0))), (q23_30_v1, .inl (cI, 12, .inl (fun _ => 0))), (q31_30_v1, .inl (cI, 12, .inl (fun _ => 0))), (q39_30_v1, .inl (cI, 12, .inl (fun _ => 0))), (q47_30_v1, .inl (cI, 12, .inl (fun _ => (-1))))] H := hP
  have hD : va_D A [(h0, .inr (1, [.ref q7, .int 0, .int 0])), (q7, .inl (cS, 8, .inr (.inr (.inr (.inr (va_up (fun _ => none) (0 : Int32).toNatClampNeg (some q26))))))), (q26_v1, .inr (3, [.int 0, .ref q7_30_v1, .ref q15_30_v1, .ref q23_30_v1, .ref q31_30_v1, .ref q39_30_v1, .ref q47_30_v1])), (q7_30_v1, .inl (cI, 12, .inl (fun _ => (-1)))), (q15_30_v1, .inl (cI, 12, .inl (fun _ => 0))), (q23_30_v1, .inl (cI, 12, .inl (fun _ => 0))), (q31_30_v1, .inl (cI, 12, .inl (fun _ => 0))), (q39_30_v1, .inl (cI, 12, .inl (fun _ => 0))), (q47_30_v1, .inl (cI, 12, .inl (fun _ => (-1))))] := hD
  refine W.widen (k := 15) (n := 166) (by omega) (by omega) ?_
  refine va_astq (r := (R_Sh, T_Sh, 7)) hx hb hK hP hD hS 1 3 2 3 rfl rfl rfl rfl (by unfold vp_in; decide) d_Pa_init_33 (fun H locs hP hD hS => ?_)
  have hP : va_P D vwCl [(h0, .inr (1, [.ref q7, .int 0, .int 0])), (q7, .inl (cS, 8, .inr (.inr (.inr (.inr (va_up (va_up (fun _ => none) (0 : Int32).toNatClampNeg (some q26)) (1 : Int32).toNatClampNeg (some q26_v1))))))), (q26_v1, .inr (3, [.int 0, .ref q7_30_v1, .ref q15_30_v1, .ref q23_30_v1, .ref q31_30_v1, .ref q39_30_v1, .ref q47_30_v1])), (q7_30_v1, .inl (cI, 12, .inl (fun _ => (-1)))), (q15_30_v1, .inl (cI, 12, .inl (fun _ => 0))), (q23_30_v1, .inl (cI, 12, .inl (fun _ => 0))), (q31_30_v1, .inl (cI, 12, .inl (fun _ => 0))), (q39_30_v1, .inl (cI, 12, .inl (fun _ => 0))), (q47_30_v1, .inl (cI, 12, .inl (fun _ => (-1))))] H := hP
  have hD : va_D A [(h0, .inr (1, [.ref q7, .int 0, .int 0])), (q7, .inl (cS, 8, .inr (.inr (.inr (.inr (va_up (va_up (fun _ => none) (0 : Int32).toNatClampNeg (some q26)) (1 : Int32).toNatClampNeg (some q26_v1))))))), (q26_v1, .inr (3, [.int 0, .ref q7_30_v1, .ref q15_30_v1, .ref q23_30_v1, .ref q31_30_v1, .ref q39_30_v1, .ref q47_30_v1])), (q7_30_v1, .inl (cI, 12, .inl (fun _ => (-1)))), (q15_30_v1, .inl (cI, 12, .inl (fun _ => 0))), (q23_30_v1, .inl (cI, 12, .inl (fun _ => 0))), (q31_30_v1, .inl (cI, 12, .inl (fun _ => 0))), (q39_30_v1, .inl (cI, 12, .inl (fun _ => 0))), (q47_30_v1, .inl (cI, 12, .inl (fun _ => (-1))))] := hD
  have hP := hP.sub (ws' := [(h0, .inr (1, [.ref q7, .int 0, .int 0])), (q7, .inl (cS, 8, .inr (.inr (.inr (.inr (va_up (va_up (fun _ => none) (0 : Int32).toNatClampNeg (some q26)) (1 : Int32).toNatClampNeg (some q26_v1)))))))]) [0, 1] rfl
  have hD := hD.sub (ws' := [(h0, .inr (1, [.ref q7, .int 0, .int 0])), (q7, .inl (cS, 8, .inr (.inr (.inr (.inr (va_up (va_up (fun _ => none) (0 : Int32).toNatClampNeg (some q26)) (1 : Int32).toNatClampNeg (some q26_v1)))))))]) [0, 1] (by decide) rfl
  refine lv_iinc (lv' := [(1, .int 2), (0, .ref h0)]) hx hb d_Pa_init_34 hl (k := 0) rfl (by decide) (by decide) rfl (fun ls hl => ?_)
  refine lv_goto (tgt := 15) hx hb d_Pa_init_37 (by decide) ?_
  refine lv_iload_n hx hb d_Pa_init_15 rfl (lv_at hl 0 rfl) ?_
  refine lv_bipush (v := 8) hx hb d_Pa_init_16 (by decide) ?_
  refine lv_icmp_ge (tgt := 40) hx hb d_Pa_init_18 (by decide) (fun h0 => absurd h0 (by decide)) (fun _ => ?_)
  refine lv_aload_n hx hb d_Pa_init_21 rfl (lv_at hl 1 rfl) ?_
  refine va_get (D := D) (ci := 1) (v := .ref q7) (C := R_Pa) (T := T_Pa) (N := 3) hx hb hts hin_Pa hown hK hP 0 rfl rfl 0 (by decide) (hts _ wd_191) (fun _ h9 => h9) rfl d_Pa_init_22 ?_
  refine lv_iload_n hx hb d_Pa_init_25 rfl (lv_at hl 0 rfl) ?_
  refine va_new (ci := 3) (fs := [.int 0, .null, .null, .null, .null, .null, .null]) (C := R_Sh) (T := T_Sh) (N := 7) hx hb hts hin_Sh ty_Sh tyok_Sh hown (hts _ wd_188) (hts _ wd_54) (hts _ wd_3) hK hP hD hS hA rfl (fun j hj => by rcases (show j = 0 ∨ j = 1 ∨ j = 2 ∨ j = 3 ∨ j = 4 ∨ j = 5 ∨ j = 6 by omega) with rfl | rfl | rfl | rfl | rfl | rfl | rfl <;> rfl) (Nat.le_of_ble_eq_true rfl) (Nat.le_of_ble_eq_true rfl) d_Pa_init_26 (fun q26_v2 H hP hD hS => ?_)
  have hP : va_P D vwCl [(h0, .inr (1, [.ref q7, .int 0, .int 0])), (q7, .inl (cS, 8, .inr (.inr (.inr (.inr (va_up (va_up (fun _ => none) (0 : Int32).toNatClampNeg (some q26)) (1 : Int32).toNatClampNeg (some q26_v1))))))), (q26_v2, .inr (3, [.int 0, .null, .null, .null, .null, .null, .null]))] H := hP
  have hD : va_D A [(h0, .inr (1, [.ref q7, .int 0, .int 0])), (q7, .inl (cS, 8, .inr (.inr (.inr (.inr (va_up (va_up (fun _ => none) (0 : Int32).toNatClampNeg (some q26)) (1 : Int32).toNatClampNeg (some q26_v1))))))), (q26_v2, .inr (3, [.int 0, .null, .null, .null, .null, .null, .null]))] := hD
  refine W.widen (k := 16) (n := 173) (by omega) (by omega) ?_
  refine lv_dup hx hb d_Pa_init_29 rfl ?_
  have hPc := hP.sub (ws' := [(q26_v2, .inr (3, [.int 0, .null, .null, .null, .null, .null, .null]))]) [2] rfl
  have hDc := hD.sub (ws' := [(q26_v2, .inr (3, [.int 0, .null, .null, .null, .null, .null, .null]))]) [2] (by decide) rfl
  have hFc := va_free (wc := [(q26_v2, .inr (3, [.int 0, .null, .null, .null, .null, .null, .null]))]) hD hS hA [2] rfl
  refine va_callv (va_runI (As := []) (rest := [.ref q26_v2, .int 2, .ref q7]) ⟨hx, hb, hml, hown, hts⟩ (c_Sh_init l D cI cZ cJ cS aT ceT H.size q26_v2 ) (cwI 0 hts (tb_c wd_57) rfl rfl rfl (hts _ wd_3) (hts _ wd_190) (hts _ wd_56) rfl ⟨by decide, by decide, by decide +kernel⟩ ⟨Nat.le_of_ble_eq_true rfl, Nat.le_of_ble_eq_true rfl⟩) (tH_S hK hX (hS.2.1 aT hXl hXn) hPc hDc) rfl rfl hl.1 rfl (lv_room (Nat.le_of_ble_eq_true rfl)) d_Pa_init_30 ⟨Nat.le_of_ble_eq_true rfl, Nat.le_of_ble_eq_true rfl⟩) hS (fun q _ h => hFc q h) hFc (fun u t H1 locs ht hvm h9 hB hz1 hk1 hS => ?_)
  obtain ⟨q7_30_v2, q15_30_v2, q23_30_v2, q31_30_v2, q39_30_v2, q47_30_v2, hP1, hD1⟩ := hB
  rw [ht] at hP1
  obtain ⟨hP, hD⟩ := va_join (wr := [(h0, .inr (1, [.ref q7, .int 0, .int 0])), (q7, .inl (cS, 8, .inr (.inr (.inr (.inr (va_up (va_up (fun _ => none) (0 : Int32).toNatClampNeg (some q26)) (1 : Int32).toNatClampNeg (some q26_v1)))))))]) (w1 := [(q26_v2, .inr (3, [.int 0, .ref q7_30_v2, .ref q15_30_v2, .ref q23_30_v2, .ref q31_30_v2, .ref q39_30_v2, .ref q47_30_v2])), (q7_30_v2, .inl (cI, 12, .inl (fun _ => (-1)))), (q15_30_v2, .inl (cI, 12, .inl (fun _ => 0))), (q23_30_v2, .inl (cI, 12, .inl (fun _ => 0))), (q31_30_v2, .inl (cI, 12, .inl (fun _ => 0))), (q39_30_v2, .inl (cI, 12, .inl (fun _ => 0))), (q47_30_v2, .inl (cI, 12, .inl (fun _ => (-1))))]) hP hD [2] [0, 1] rfl rfl (by decide) (by decide) hk1 hFc hP1 hD1
  generalize H1 = H at hP hS ⊢
  have hP : va_P D vwCl [(h0, .inr (1, [.ref q7, .int 0, .int 0])), (q7, .inl (cS, 8, .inr (.inr (.inr (.inr (va_up (va_up (fun _ => none) (0 : Int32).toNatClampNeg (some q26)) (1 : Int32).toNatClampNeg (some q26_v1))))))), (q26_v2, .inr (3, [.int 0, .ref q7_30_v2, .ref q15_30_v2, .ref q23_30_v2, .ref q31_30_v2, .ref q39_30_v2, .ref q47_30_v2])), (q7_30_v2, .inl (cI, 12, .inl (fun _ => (-1)))), (q15_30_v2, .inl (cI, 12, .inl (fun _ => 0))), (q23_30_v2, .inl (cI, 12, .inl (fun _ => 0))), (q31_30_v2, .inl (cI, 12, .inl (fun _ => 0))), (q39_30_v2, .inl (cI, 12, .inl (fun _ => 0))), (q47_30_v2, .inl (cI, 12, .inl (fun _ => (-1))))] H := hP
  have hD : va_D A [(h0, .inr (1, [.ref q7, .int 0, .int 0])), (q7, .inl (cS, 8, .inr (.inr (.inr (.inr (va_up (va_up (fun _ => none) (0 : Int32).toNatClampNeg (some q26)) (1 : Int32).toNatClampNeg (some q26_v1))))))), (q26_v2, .inr (3, [.int 0, .ref q7_30_v2, .ref q15_30_v2, .ref q23_30_v2, .ref q31_30_v2, .ref q39_30_v2, .ref q47_30_v2])), (q7_30_v2, .inl (cI, 12, .inl (fun _ => (-1)))), (q15_30_v2, .inl (cI, 12, .inl (fun _ => 0))), (q23_30_v2, .inl (cI, 12, .inl (fun _ => 0))), (q31_30_v2, .inl (cI, 12, .inl (fun _ => 0))), (q39_30_v2, .inl (cI, 12, .inl (fun _ => 0))), (q47_30_v2, .inl (cI, 12, .inl (fun _ => (-1))))] := hD
  refine W.widen (k := 22) (n := 245) (by omega) (by omega) ?_
  refine va_astq (r := (R_Sh, T_Sh, 7)) hx hb hK hP hD hS 1 3 2 3 rfl rfl rfl rfl (by unfold vp_in; decide) d_Pa_init_33 (fun H locs hP hD hS => ?_)
  have hP : va_P D vwCl [(h0, .inr (1, [.ref q7, .int 0, .int 0])), (q7, .inl (cS, 8, .inr (.inr (.inr (.inr (va_up (va_up (va_up (fun _ => none) (0 : Int32).toNatClampNeg (some q26)) (1 : Int32).toNatClampNeg (some q26_v1)) (2 : Int32).toNatClampNeg (some q26_v2))))))), (q26_v2, .inr (3, [.int 0, .ref q7_30_v2, .ref q15_30_v2, .ref q23_30_v2, .ref q31_30_v2, .ref q39_30_v2, .ref q47_30_v2])), (q7_30_v2, .inl (cI, 12, .inl (fun _ => (-1)))), (q15_30_v2, .inl (cI, 12, .inl (fun _ => 0))), (q23_30_v2, .inl (cI, 12, .inl (fun _ => 0))), (q31_30_v2, .inl (cI, 12, .inl (fun _ => 0))), (q39_30_v2, .inl (cI, 12, .inl (fun _ => 0))), (q47_30_v2, .inl (cI, 12, .inl (fun _ => (-1))))] H := hP
  have hD : va_D A [(h0, .inr (1, [.ref q7, .int 0, .int 0])), (q7, .inl (cS, 8, .inr (.inr (.inr (.inr (va_up (va_up (va_up (fun _ => none) (0 : Int32).toNatClampNeg (some q26)) (1 : Int32).toNatClampNeg (some q26_v1)) (2 : Int32).toNatClampNeg (some q26_v2))))))), (q26_v2, .inr (3, [.int 0, .ref q7_30_v2, .ref q15_30_v2, .ref q23_30_v2, .ref q31_30_v2, .ref q39_30_v2, .ref q47_30_v2])), (q7_30_v2, .inl (cI, 12, .inl (fun _ => (-1)))), (q15_30_v2, .inl (cI, 12, .inl (fun _ => 0))), (q23_30_v2, .inl (cI, 12, .inl (fun _ => 0))), (q31_30_v2, .inl (cI, 12, .inl (fun _ => 0))), (q39_30_v2, .inl (cI, 12, .inl (fun _ => 0))), (q47_30_v2, .inl (cI, 12, .inl (fun _ => (-1))))] := hD
  have hP := hP.sub (ws' := [(h0, .inr (1, [.ref q7, .int 0, .int 0])), (q7, .inl (cS, 8, .inr (.inr (.inr (.inr (va_up (va_up (va_up (fun _ => none) (0 : Int32).toNatClampNeg (some q26)) (1 : Int32).toNatClampNeg (some q26_v1)) (2 : Int32).toNatClampNeg (some q26_v2)))))))]) [0, 1] rfl
  have hD := hD.sub (ws' := [(h0, .inr (1, [.ref q7, .int 0, .int 0])), (q7, .inl (cS, 8, .inr (.inr (.inr (.inr (va_up (va_up (va_up (fun _ => none) (0 : Int32).toNatClampNeg (some q26)) (1 : Int32).toNatClampNeg (some q26_v1)) (2 : Int32).toNatClampNeg (some q26_v2)))))))]) [0, 1] (by decide) rfl
  refine lv_iinc (lv' := [(1, .int 3), (0, .ref h0)]) hx hb d_Pa_init_34 hl (k := 0) rfl (by decide) (by decide) rfl (fun ls hl => ?_)
  refine lv_goto (tgt := 15) hx hb d_Pa_init_37 (by decide) ?_
  refine lv_iload_n hx hb d_Pa_init_15 rfl (lv_at hl 0 rfl) ?_
  refine lv_bipush (v := 8) hx hb d_Pa_init_16 (by decide) ?_
  refine lv_icmp_ge (tgt := 40) hx hb d_Pa_init_18 (by decide) (fun h0 => absurd h0 (by decide)) (fun _ => ?_)
  refine lv_aload_n hx hb d_Pa_init_21 rfl (lv_at hl 1 rfl) ?_
  refine va_get (D := D) (ci := 1) (v := .ref q7) (C := R_Pa) (T := T_Pa) (N := 3) hx hb hts hin_Pa hown hK hP 0 rfl rfl 0 (by decide) (hts _ wd_191) (fun _ h9 => h9) rfl d_Pa_init_22 ?_
  refine lv_iload_n hx hb d_Pa_init_25 rfl (lv_at hl 0 rfl) ?_
  refine va_new (ci := 3) (fs := [.int 0, .null, .null, .null, .null, .null, .null]) (C := R_Sh) (T := T_Sh) (N := 7) hx hb hts hin_Sh ty_Sh tyok_Sh hown (hts _ wd_188) (hts _ wd_54) (hts _ wd_3) hK hP hD hS hA rfl (fun j hj => by rcases (show j = 0 ∨ j = 1 ∨ j = 2 ∨ j = 3 ∨ j = 4 ∨ j = 5 ∨ j = 6 by omega) with rfl | rfl | rfl | rfl | rfl | rfl | rfl <;> rfl) (Nat.le_of_ble_eq_true rfl) (Nat.le_of_ble_eq_true rfl) d_Pa_init_26 (fun q26_v3 H hP hD hS => ?_)
  have hP : va_P D vwCl [(h0, .inr (1, [.ref q7, .int 0, .int 0])), (q7, .inl (cS, 8, .inr (.inr (.inr (.inr (va_up (va_up (va_up (fun _ => none) (0 : Int32).toNatClampNeg (some q26)) (1 : Int32).toNatClampNeg (some q26_v1)) (2 : Int32).toNatClampNeg (some q26_v2))))))), (q26_v3, .inr (3, [.int 0, .null, .null, .null, .null, .null, .null]))] H := hP
  have hD : va_D A [(h0, .inr (1, [.ref q7, .int 0, .int 0])), (q7, .inl (cS, 8, .inr (.inr (.inr (.inr (va_up (va_up (va_up (fun _ => none) (0 : Int32).toNatClampNeg (some q26)) (1 : Int32).toNatClampNeg (some q26_v1)) (2 : Int32).toNatClampNeg (some q26_v2))))))), (q26_v3, .inr (3, [.int 0, .null, .null, .null, .null, .null, .null]))] := hD
  refine W.widen (k := 23) (n := 252) (by omega) (by omega) ?_
  refine lv_dup hx hb d_Pa_init_29 rfl ?_
  have hPc := hP.sub (ws' := [(q26_v3, .inr (3, [.int 0, .null, .null, .null, .null, .null, .null]))]) [2] rfl
  have hDc := hD.sub (ws' := [(q26_v3, .inr (3, [.int 0, .null, .null, .null, .null, .null, .null]))]) [2] (by decide) rfl
  have hFc := va_free (wc := [(q26_v3, .inr (3, [.int 0, .null, .null, .null, .null, .null, .null]))]) hD hS hA [2] rfl
  refine va_callv (va_runI (As := []) (rest := [.ref q26_v3, .int 3, .ref q7]) ⟨hx, hb, hml, hown, hts⟩ (c_Sh_init l D cI cZ cJ cS aT ceT H.size q26_v3 ) (cwI 0 hts (tb_c wd_57) rfl rfl rfl (hts _ wd_3) (hts _ wd_190) (hts _ wd_56) rfl ⟨by decide, by decide, by decide +kernel⟩ ⟨Nat.le_of_ble_eq_true rfl, Nat.le_of_ble_eq_true rfl⟩) (tH_S hK hX (hS.2.1 aT hXl hXn) hPc hDc) rfl rfl hl.1 rfl (lv_room (Nat.le_of_ble_eq_true rfl)) d_Pa_init_30 ⟨Nat.le_of_ble_eq_true rfl, Nat.le_of_ble_eq_true rfl⟩) hS (fun q _ h => hFc q h) hFc (fun u t H1 locs ht hvm h9 hB hz1 hk1 hS => ?_)
  obtain ⟨q7_30_v3, q15_30_v3, q23_30_v3, q31_30_v3, q39_30_v3, q47_30_v3, hP1, hD1⟩ := hB
  rw [ht] at hP1
  obtain ⟨hP, hD⟩ := va_join (wr := [(h0, .inr (1, [.ref q7, .int 0, .int 0])), (q7, .inl (cS, 8, .inr (.inr (.inr (.inr (va_up (va_up (va_up (fun _ => none) (0 : Int32).toNatClampNeg (some q26)) (1 : Int32).toNatClampNeg (some q26_v1)) (2 : Int32).toNatClampNeg (some q26_v2)))))))]) (w1 := [(q26_v3, .inr (3, [.int 0, .ref q7_30_v3, .ref q15_30_v3, .ref q23_30_v3, .ref q31_30_v3, .ref q39_30_v3, .ref q47_30_v3])), (q7_30_v3, .inl (cI, 12, .inl (fun _ => (-1)))), (q15_30_v3, .inl (cI, 12, .inl (fun _ => 0))), (q23_30_v3, .inl (cI, 12, .inl (fun _ => 0))), (q31_30_v3, .inl (cI, 12, .inl (fun _ => 0))), (q39_30_v3, .inl (cI, 12, .inl (fun _ => 0))), (q47_30_v3, .inl (cI, 12, .inl (fun _ => (-1))))]) hP hD [2] [0, 1] rfl rfl (by decide) (by decide) hk1 hFc hP1 hD1
  generalize H1 = H at hP hS ⊢
  have hP : va_P D vwCl [(h0, .inr (1, [.ref q7, .int 0, .int 0])), (q7, .inl (cS, 8, .inr (.inr (.inr (.inr (va_up (va_up (va_up (fun _ => none) (0 : Int32).toNatClampNeg (some q26)) (1 : Int32).toNatClampNeg (some q26_v1)) (2 : Int32).toNatClampNeg (some q26_v2))))))), (q26_v3, .inr (3, [.int 0, .ref q7_30_v3, .ref q15_30_v3, .ref q23_30_v3, .ref q31_30_v3, .ref q39_30_v3, .ref q47_30_v3])), (q7_30_v3, .inl (cI, 12, .inl (fun _ => (-1)))), (q15_30_v3, .inl (cI, 12, .inl (fun _ => 0))), (q23_30_v3, .inl (cI, 12, .inl (fun _ => 0))), (q31_30_v3, .inl (cI, 12, .inl (fun _ => 0))), (q39_30_v3, .inl (cI, 12, .inl (fun _ => 0))), (q47_30_v3, .inl (cI, 12, .inl (fun _ => (-1))))] H := hP
  have hD : va_D A [(h0, .inr (1, [.ref q7, .int 0, .int 0])), (q7, .inl (cS, 8, .inr (.inr (.inr (.inr (va_up (va_up (va_up (fun _ => none) (0 : Int32).toNatClampNeg (some q26)) (1 : Int32).toNatClampNeg (some q26_v1)) (2 : Int32).toNatClampNeg (some q26_v2))))))), (q26_v3, .inr (3, [.int 0, .ref q7_30_v3, .ref q15_30_v3, .ref q23_30_v3, .ref q31_30_v3, .ref q39_30_v3, .ref q47_30_v3])), (q7_30_v3, .inl (cI, 12, .inl (fun _ => (-1)))), (q15_30_v3, .inl (cI, 12, .inl (fun _ => 0))), (q23_30_v3, .inl (cI, 12, .inl (fun _ => 0))), (q31_30_v3, .inl (cI, 12, .inl (fun _ => 0))), (q39_30_v3, .inl (cI, 12, .inl (fun _ => 0))), (q47_30_v3, .inl (cI, 12, .inl (fun _ => (-1))))] := hD
  refine W.widen (k := 29) (n := 324) (by omega) (by omega) ?_
  refine va_astq (r := (R_Sh, T_Sh, 7)) hx hb hK hP hD hS 1 3 2 3 rfl rfl rfl rfl (by unfold vp_in; decide) d_Pa_init_33 (fun H locs hP hD hS => ?_)
  have hP : va_P D vwCl [(h0, .inr (1, [.ref q7, .int 0, .int 0])), (q7, .inl (cS, 8, .inr (.inr (.inr (.inr (va_up (va_up (va_up (va_up (fun _ => none) (0 : Int32).toNatClampNeg (some q26)) (1 : Int32).toNatClampNeg (some q26_v1)) (2 : Int32).toNatClampNeg (some q26_v2)) (3 : Int32).toNatClampNeg (some q26_v3))))))), (q26_v3, .inr (3, [.int 0, .ref q7_30_v3, .ref q15_30_v3, .ref q23_30_v3, .ref q31_30_v3, .ref q39_30_v3, .ref q47_30_v3])), (q7_30_v3, .inl (cI, 12, .inl (fun _ => (-1)))), (q15_30_v3, .inl (cI, 12, .inl (fun _ => 0))), (q23_30_v3, .inl (cI, 12, .inl (fun _ => 0))), (q31_30_v3, .inl (cI, 12, .inl (fun _ => 0))), (q39_30_v3, .inl (cI, 12, .inl (fun _ => 0))), (q47_30_v3, .inl (cI, 12, .inl (fun _ => (-1))))] H := hP
  have hD : va_D A [(h0, .inr (1, [.ref q7, .int 0, .int 0])), (q7, .inl (cS, 8, .inr (.inr (.inr (.inr (va_up (va_up (va_up (va_up (fun _ => none) (0 : Int32).toNatClampNeg (some q26)) (1 : Int32).toNatClampNeg (some q26_v1)) (2 : Int32).toNatClampNeg (some q26_v2)) (3 : Int32).toNatClampNeg (some q26_v3))))))), (q26_v3, .inr (3, [.int 0, .ref q7_30_v3, .ref q15_30_v3, .ref q23_30_v3, .ref q31_30_v3, .ref q39_30_v3, .ref q47_30_v3])), (q7_30_v3, .inl (cI, 12, .inl (fun _ => (-1)))), (q15_30_v3, .inl (cI, 12, .inl (fun _ => 0))), (q23_30_v3, .inl (cI, 12, .inl (fun _ => 0))), (q31_30_v3, .inl (cI, 12, .inl (fun _ => 0))), (q39_30_v3, .inl (cI, 12, .inl (fun _ => 0))), (q47_30_v3, .inl (cI, 12, .inl (fun _ => (-1))))] := hD
  have hP := hP.sub (ws' := [(h0, .inr (1, [.ref q7, .int 0, .int 0])), (q7, .inl (cS, 8, .inr (.inr (.inr (.inr (va_up (va_up (va_up (va_up (fun _ => none) (0 : Int32).toNatClampNeg (some q26)) (1 : Int32).toNatClampNeg (some q26_v1)) (2 : Int32).toNatClampNeg (some q26_v2)) (3 : Int32).toNatClampNeg (some q26_v3)))))))]) [0, 1] rfl
  have hD := hD.sub (ws' := [(h0, .inr (1, [.ref q7, .int 0, .int 0])), (q7, .inl (cS, 8, .inr (.inr (.inr (.inr (va_up (va_up (va_up (va_up (fun _ => none) (0 : Int32).toNatClampNeg (some q26)) (1 : Int32).toNatClampNeg (some q26_v1)) (2 : Int32).toNatClampNeg (some q26_v2)) (3 : Int32).toNatClampNeg (some q26_v3)))))))]) [0, 1] (by decide) rfl
  refine lv_iinc (lv' := [(1, .int 4), (0, .ref h0)]) hx hb d_Pa_init_34 hl (k := 0) rfl (by decide) (by decide) rfl (fun ls hl => ?_)
  refine lv_goto (tgt := 15) hx hb d_Pa_init_37 (by decide) ?_
  refine lv_iload_n hx hb d_Pa_init_15 rfl (lv_at hl 0 rfl) ?_
  refine lv_bipush (v := 8) hx hb d_Pa_init_16 (by decide) ?_
  refine lv_icmp_ge (tgt := 40) hx hb d_Pa_init_18 (by decide) (fun h0 => absurd h0 (by decide)) (fun _ => ?_)
  refine lv_aload_n hx hb d_Pa_init_21 rfl (lv_at hl 1 rfl) ?_
  refine va_get (D := D) (ci := 1) (v := .ref q7) (C := R_Pa) (T := T_Pa) (N := 3) hx hb hts hin_Pa hown hK hP 0 rfl rfl 0 (by decide) (hts _ wd_191) (fun _ h9 => h9) rfl d_Pa_init_22 ?_
  refine lv_iload_n hx hb d_Pa_init_25 rfl (lv_at hl 0 rfl) ?_
  refine va_new (ci := 3) (fs := [.int 0, .null, .null, .null, .null, .null, .null]) (C := R_Sh) (T := T_Sh) (N := 7) hx hb hts hin_Sh ty_Sh tyok_Sh hown (hts _ wd_188) (hts _ wd_54) (hts _ wd_3) hK hP hD hS hA rfl (fun j hj => by rcases (show j = 0 ∨ j = 1 ∨ j = 2 ∨ j = 3 ∨ j = 4 ∨ j = 5 ∨ j = 6 by omega) with rfl | rfl | rfl | rfl | rfl | rfl | rfl <;> rfl) (Nat.le_of_ble_eq_true rfl) (Nat.le_of_ble_eq_true rfl) d_Pa_init_26 (fun q26_v4 H hP hD hS => ?_)
  have hP : va_P D vwCl [(h0, .inr (1, [.ref q7, .int 0, .int 0])), (q7, .inl (cS, 8, .inr (.inr (.inr (.inr (va_up (va_up (va_up (va_up (fun _ => none) (0 : Int32).toNatClampNeg (some q26)) (1 : Int32).toNatClampNeg (some q26_v1)) (2 : Int32).toNatClampNeg (some q26_v2)) (3 : Int32).toNatClampNeg (some q26_v3))))))), (q26_v4, .inr (3, [.int 0, .null, .null, .null, .null, .null, .null]))] H := hP
  have hD : va_D A [(h0, .inr (1, [.ref q7, .int 0, .int 0])), (q7, .inl (cS, 8, .inr (.inr (.inr (.inr (va_up (va_up (va_up (va_up (fun _ => none) (0 : Int32).toNatClampNeg (some q26)) (1 : Int32).toNatClampNeg (some q26_v1)) (2 : Int32).toNatClampNeg (some q26_v2)) (3 : Int32).toNatClampNeg (some q26_v3))))))), (q26_v4, .inr (3, [.int 0, .null, .null, .null, .null, .null, .null]))] := hD
  refine W.widen (k := 30) (n := 331) (by omega) (by omega) ?_
  refine lv_dup hx hb d_Pa_init_29 rfl ?_
  have hPc := hP.sub (ws' := [(q26_v4, .inr (3, [.int 0, .null, .null, .null, .null, .null, .null]))]) [2] rfl
  have hDc := hD.sub (ws' := [(q26_v4, .inr (3, [.int 0, .null, .null, .null, .null, .null, .null]))]) [2] (by decide) rfl
  have hFc := va_free (wc := [(q26_v4, .inr (3, [.int 0, .null, .null, .null, .null, .null, .null]))]) hD hS hA [2] rfl
  refine va_callv (va_runI (As := []) (rest := [.ref q26_v4, .int 4, .ref q7]) ⟨hx, hb, hml, hown, hts⟩ (c_Sh_init l D cI cZ cJ cS aT ceT H.size q26_v4 ) (cwI 0 hts (tb_c wd_57) rfl rfl rfl (hts _ wd_3) (hts _ wd_190) (hts _ wd_56) rfl ⟨by decide, by decide, by decide +kernel⟩ ⟨Nat.le_of_ble_eq_true rfl, Nat.le_of_ble_eq_true rfl⟩) (tH_S hK hX (hS.2.1 aT hXl hXn) hPc hDc) rfl rfl hl.1 rfl (lv_room (Nat.le_of_ble_eq_true rfl)) d_Pa_init_30 ⟨Nat.le_of_ble_eq_true rfl, Nat.le_of_ble_eq_true rfl⟩) hS (fun q _ h => hFc q h) hFc (fun u t H1 locs ht hvm h9 hB hz1 hk1 hS => ?_)
  obtain ⟨q7_30_v4, q15_30_v4, q23_30_v4, q31_30_v4, q39_30_v4, q47_30_v4, hP1, hD1⟩ := hB
  rw [ht] at hP1
  obtain ⟨hP, hD⟩ := va_join (wr := [(h0, .inr (1, [.ref q7, .int 0, .int 0])), (q7, .inl (cS, 8, .inr (.inr (.inr (.inr (va_up (va_up (va_up (va_up (fun _ => none) (0 : Int32).toNatClampNeg (some q26)) (1 : Int32).toNatClampNeg (some q26_v1)) (2 : Int32).toNatClampNeg (some q26_v2)) (3 : Int32).toNatClampNeg (some q26_v3)))))))]) (w1 := [(q26_v4, .inr (3, [.int 0, .ref q7_30_v4, .ref q15_30_v4, .ref q23_30_v4, .ref q31_30_v4, .ref q39_30_v4, .ref q47_30_v4])), (q7_30_v4, .inl (cI, 12, .inl (fun _ => (-1)))), (q15_30_v4, .inl (cI, 12, .inl (fun _ => 0))), (q23_30_v4, .inl (cI, 12, .inl (fun _ => 0))), (q31_30_v4, .inl (cI, 12, .inl (fun _ => 0))), (q39_30_v4, .inl (cI, 12, .inl (fun _ => 0))), (q47_30_v4, .inl (cI, 12, .inl (fun _ => (-1))))]) hP hD [2] [0, 1] rfl rfl (by decide) (by decide) hk1 hFc hP1 hD1
  generalize H1 = H at hP hS ⊢
  have hP : va_P D vwCl [(h0, .inr (1, [.ref q7, .int 0, .int 0])), (q7, .inl (cS, 8, .inr (.inr (.inr (.inr (va_up (va_up (va_up (va_up (fun _ => none) (0 : Int32).toNatClampNeg (some q26)) (1 : Int32).toNatClampNeg (some q26_v1)) (2 : Int32).toNatClampNeg (some q26_v2)) (3 : Int32).toNatClampNeg (some q26_v3))))))), (q26_v4, .inr (3, [.int 0, .ref q7_30_v4, .ref q15_30_v4, .ref q23_30_v4, .ref q31_30_v4, .ref q39_30_v4, .ref q47_30_v4])), (q7_30_v4, .inl (cI, 12, .inl (fun _ => (-1)))), (q15_30_v4, .inl (cI, 12, .inl (fun _ => 0))), (q23_30_v4, .inl (cI, 12, .inl (fun _ => 0))), (q31_30_v4, .inl (cI, 12, .inl (fun _ => 0))), (q39_30_v4, .inl (cI, 12, .inl (fun _ => 0))), (q47_30_v4, .inl (cI, 12, .inl (fun _ => (-1))))] H := hP
  have hD : va_D A [(h0, .inr (1, [.ref q7, .int 0, .int 0])), (q7, .inl (cS, 8, .inr (.inr (.inr (.inr (va_up (va_up (va_up (va_up (fun _ => none) (0 : Int32).toNatClampNeg (some q26)) (1 : Int32).toNatClampNeg (some q26_v1)) (2 : Int32).toNatClampNeg (some q26_v2)) (3 : Int32).toNatClampNeg (some q26_v3))))))), (q26_v4, .inr (3, [.int 0, .ref q7_30_v4, .ref q15_30_v4, .ref q23_30_v4, .ref q31_30_v4, .ref q39_30_v4, .ref q47_30_v4])), (q7_30_v4, .inl (cI, 12, .inl (fun _ => (-1)))), (q15_30_v4, .inl (cI, 12, .inl (fun _ => 0))), (q23_30_v4, .inl (cI, 12, .inl (fun _ => 0))), (q31_30_v4, .inl (cI, 12, .inl (fun _ => 0))), (q39_30_v4, .inl (cI, 12, .inl (fun _ => 0))), (q47_30_v4, .inl (cI, 12, .inl (fun _ => (-1))))] := hD
  refine W.widen (k := 36) (n := 403) (by omega) (by omega) ?_
  refine va_astq (r := (R_Sh, T_Sh, 7)) hx hb hK hP hD hS 1 3 2 3 rfl rfl rfl rfl (by unfold vp_in; decide) d_Pa_init_33 (fun H locs hP hD hS => ?_)
  have hP : va_P D vwCl [(h0, .inr (1, [.ref q7, .int 0, .int 0])), (q7, .inl (cS, 8, .inr (.inr (.inr (.inr (va_up (va_up (va_up (va_up (va_up (fun _ => none) (0 : Int32).toNatClampNeg (some q26)) (1 : Int32).toNatClampNeg (some q26_v1)) (2 : Int32).toNatClampNeg (some q26_v2)) (3 : Int32).toNatClampNeg (some q26_v3)) (4 : Int32).toNatClampNeg (some q26_v4))))))), (q26_v4, .inr (3, [.int 0, .ref q7_30_v4, .ref q15_30_v4, .ref q23_30_v4, .ref q31_30_v4, .ref q39_30_v4, .ref q47_30_v4])), (q7_30_v4, .inl (cI, 12, .inl (fun _ => (-1)))), (q15_30_v4, .inl (cI, 12, .inl (fun _ => 0))), (q23_30_v4, .inl (cI, 12, .inl (fun _ => 0))), (q31_30_v4, .inl (cI, 12, .inl (fun _ => 0))), (q39_30_v4, .inl (cI, 12, .inl (fun _ => 0))), (q47_30_v4, .inl (cI, 12, .inl (fun _ => (-1))))] H := hP
  have hD : va_D A [(h0, .inr (1, [.ref q7, .int 0, .int 0])), (q7, .inl (cS, 8, .inr (.inr (.inr (.inr (va_up (va_up (va_up (va_up (va_up (fun _ => none) (0 : Int32).toNatClampNeg (some q26)) (1 : Int32).toNatClampNeg (some q26_v1)) (2 : Int32).toNatClampNeg (some q26_v2)) (3 : Int32).toNatClampNeg (some q26_v3)) (4 : Int32).toNatClampNeg (some q26_v4))))))), (q26_v4, .inr (3, [.int 0, .ref q7_30_v4, .ref q15_30_v4, .ref q23_30_v4, .ref q31_30_v4, .ref q39_30_v4, .ref q47_30_v4])), (q7_30_v4, .inl (cI, 12, .inl (fun _ => (-1)))), (q15_30_v4, .inl (cI, 12, .inl (fun _ => 0))), (q23_30_v4, .inl (cI, 12, .inl (fun _ => 0))), (q31_30_v4, .inl (cI, 12, .inl (fun _ => 0))), (q39_30_v4, .inl (cI, 12, .inl (fun _ => 0))), (q47_30_v4, .inl (cI, 12, .inl (fun _ => (-1))))] := hD
  have hP := hP.sub (ws' := [(h0, .inr (1, [.ref q7, .int 0, .int 0])), (q7, .inl (cS, 8, .inr (.inr (.inr (.inr (va_up (va_up (va_up (va_up (va_up (fun _ => none) (0 : Int32).toNatClampNeg (some q26)) (1 : Int32).toNatClampNeg (some q26_v1)) (2 : Int32).toNatClampNeg (some q26_v2)) (3 : Int32).toNatClampNeg (some q26_v3)) (4 : Int32).toNatClampNeg (some q26_v4)))))))]) [0, 1] rfl
  have hD := hD.sub (ws' := [(h0, .inr (1, [.ref q7, .int 0, .int 0])), (q7, .inl (cS, 8, .inr (.inr (.inr (.inr (va_up (va_up (va_up (va_up (va_up (fun _ => none) (0 : Int32).toNatClampNeg (some q26)) (1 : Int32).toNatClampNeg (some q26_v1)) (2 : Int32).toNatClampNeg (some q26_v2)) (3 : Int32).toNatClampNeg (some q26_v3)) (4 : Int32).toNatClampNeg (some q26_v4)))))))]) [0, 1] (by decide) rfl
  refine lv_iinc (lv' := [(1, .int 5), (0, .ref h0)]) hx hb d_Pa_init_34 hl (k := 0) rfl (by decide) (by decide) rfl (fun ls hl => ?_)
  refine lv_goto (tgt := 15) hx hb d_Pa_init_37 (by decide) ?_
  refine lv_iload_n hx hb d_Pa_init_15 rfl (lv_at hl 0 rfl) ?_
  refine lv_bipush (v := 8) hx hb d_Pa_init_16 (by decide) ?_
  refine lv_icmp_ge (tgt := 40) hx hb d_Pa_init_18 (by decide) (fun h0 => absurd h0 (by decide)) (fun _ => ?_)
  refine lv_aload_n hx hb d_Pa_init_21 rfl (lv_at hl 1 rfl) ?_
  refine va_get (D := D) (ci := 1) (v := .ref q7) (C := R_Pa) (T := T_Pa) (N := 3) hx hb hts hin_Pa hown hK hP 0 rfl rfl 0 (by decide) (hts _ wd_191) (fun _ h9 => h9) rfl d_Pa_init_22 ?_
  refine lv_iload_n hx hb d_Pa_init_25 rfl (lv_at hl 0 rfl) ?_
  refine va_new (ci := 3) (fs := [.int 0, .null, .null, .null, .null, .null, .null]) (C := R_Sh) (T := T_Sh) (N := 7) hx hb hts hin_Sh ty_Sh tyok_Sh hown (hts _ wd_188) (hts _ wd_54) (hts _ wd_3) hK hP hD hS hA rfl (fun j hj => by rcases (show j = 0 ∨ j = 1 ∨ j = 2 ∨ j = 3 ∨ j = 4 ∨ j = 5 ∨ j = 6 by omega) with rfl | rfl | rfl | rfl | rfl | rfl | rfl <;> rfl) (Nat.le_of_ble_eq_true rfl) (Nat.le_of_ble_eq_true rfl) d_Pa_init_26 (fun q26_v5 H hP hD hS => ?_)
  have hP : va_P D vwCl [(h0, .inr (1, [.ref q7, .int 0, .int 0])), (q7, .inl (cS, 8, .inr (.inr (.inr (.inr (va_up (va_up (va_up (va_up (va_up (fun _ => none) (0 : Int32).toNatClampNeg (some q26)) (1 : Int32).toNatClampNeg (some q26_v1)) (2 : Int32).toNatClampNeg (some q26_v2)) (3 : Int32).toNatClampNeg (some q26_v3)) (4 : Int32).toNatClampNeg (some q26_v4))))))), (q26_v5, .inr (3, [.int 0, .null, .null, .null, .null, .null, .null]))] H := hP
  have hD : va_D A [(h0, .inr (1, [.ref q7, .int 0, .int 0])), (q7, .inl (cS, 8, .inr (.inr (.inr (.inr (va_up (va_up (va_up (va_up (va_up (fun _ => none) (0 : Int32).toNatClampNeg (some q26)) (1 : Int32).toNatClampNeg (some q26_v1)) (2 : Int32).toNatClampNeg (some q26_v2)) (3 : Int32).toNatClampNeg (some q26_v3)) (4 : Int32).toNatClampNeg (some q26_v4))))))), (q26_v5, .inr (3, [.int 0, .null, .null, .null, .null, .null, .null]))] := hD
  refine W.widen (k := 37) (n := 410) (by omega) (by omega) ?_
  refine lv_dup hx hb d_Pa_init_29 rfl ?_
  have hPc := hP.sub (ws' := [(q26_v5, .inr (3, [.int 0, .null, .null, .null, .null, .null, .null]))]) [2] rfl
  have hDc := hD.sub (ws' := [(q26_v5, .inr (3, [.int 0, .null, .null, .null, .null, .null, .null]))]) [2] (by decide) rfl
  have hFc := va_free (wc := [(q26_v5, .inr (3, [.int 0, .null, .null, .null, .null, .null, .null]))]) hD hS hA [2] rfl
  refine va_callv (va_runI (As := []) (rest := [.ref q26_v5, .int 5, .ref q7]) ⟨hx, hb, hml, hown, hts⟩ (c_Sh_init l D cI cZ cJ cS aT ceT H.size q26_v5 ) (cwI 0 hts (tb_c wd_57) rfl rfl rfl (hts _ wd_3) (hts _ wd_190) (hts _ wd_56) rfl ⟨by decide, by decide, by decide +kernel⟩ ⟨Nat.le_of_ble_eq_true rfl, Nat.le_of_ble_eq_true rfl⟩) (tH_S hK hX (hS.2.1 aT hXl hXn) hPc hDc) rfl rfl hl.1 rfl (lv_room (Nat.le_of_ble_eq_true rfl)) d_Pa_init_30 ⟨Nat.le_of_ble_eq_true rfl, Nat.le_of_ble_eq_true rfl⟩) hS (fun q _ h => hFc q h) hFc (fun u t H1 locs ht hvm h9 hB hz1 hk1 hS => ?_)
  obtain ⟨q7_30_v5, q15_30_v5, q23_30_v5, q31_30_v5, q39_30_v5, q47_30_v5, hP1, hD1⟩ := hB
  rw [ht] at hP1
  obtain ⟨hP, hD⟩ := va_join (wr := [(h0, .inr (1, [.ref q7, .int 0, .int 0])), (q7, .inl (cS, 8, .inr (.inr (.inr (.inr (va_up (va_up (va_up (va_up (va_up (fun _ => none) (0 : Int32).toNatClampNeg (some q26)) (1 : Int32).toNatClampNeg (some q26_v1)) (2 : Int32).toNatClampNeg (some q26_v2)) (3 : Int32).toNatClampNeg (some q26_v3)) (4 : Int32).toNatClampNeg (some q26_v4)))))))]) (w1 := [(q26_v5, .inr (3, [.int 0, .ref q7_30_v5, .ref q15_30_v5, .ref q23_30_v5, .ref q31_30_v5, .ref q39_30_v5, .ref q47_30_v5])), (q7_30_v5, .inl (cI, 12, .inl (fun _ => (-1)))), (q15_30_v5, .inl (cI, 12, .inl (fun _ => 0))), (q23_30_v5, .inl (cI, 12, .inl (fun _ => 0))), (q31_30_v5, .inl (cI, 12, .inl (fun _ => 0))), (q39_30_v5, .inl (cI, 12, .inl (fun _ => 0))), (q47_30_v5, .inl (cI, 12, .inl (fun _ => (-1))))]) hP hD [2] [0, 1] rfl rfl (by decide) (by decide) hk1 hFc hP1 hD1
  generalize H1 = H at hP hS ⊢
  have hP : va_P D vwCl [(h0, .inr (1, [.ref q7, .int 0, .int 0])), (q7, .inl (cS, 8, .inr (.inr (.inr (.inr (va_up (va_up (va_up (va_up (va_up (fun _ => none) (0 : Int32).toNatClampNeg (some q26)) (1 : Int32).toNatClampNeg (some q26_v1)) (2 : Int32).toNatClampNeg (some q26_v2)) (3 : Int32).toNatClampNeg (some q26_v3)) (4 : Int32).toNatClampNeg (some q26_v4))))))), (q26_v5, .inr (3, [.int 0, .ref q7_30_v5, .ref q15_30_v5, .ref q23_30_v5, .ref q31_30_v5, .ref q39_30_v5, .ref q47_30_v5])), (q7_30_v5, .inl (cI, 12, .inl (fun _ => (-1)))), (q15_30_v5, .inl (cI, 12, .inl (fun _ => 0))), (q23_30_v5, .inl (cI, 12, .inl (fun _ => 0))), (q31_30_v5, .inl (cI, 12, .inl (fun _ => 0))), (q39_30_v5, .inl (cI, 12, .inl (fun _ => 0))), (q47_30_v5, .inl (cI, 12, .inl (fun _ => (-1))))] H := hP
  have hD : va_D A [(h0, .inr (1, [.ref q7, .int 0, .int 0])), (q7, .inl (cS, 8, .inr (.inr (.inr (.inr (va_up (va_up (va_up (va_up (va_up (fun _ => none) (0 : Int32).toNatClampNeg (some q26)) (1 : Int32).toNatClampNeg (some q26_v1)) (2 : Int32).toNatClampNeg (some q26_v2)) (3 : Int32).toNatClampNeg (some q26_v3)) (4 : Int32).toNatClampNeg (some q26_v4))))))), (q26_v5, .inr (3, [.int 0, .ref q7_30_v5, .ref q15_30_v5, .ref q23_30_v5, .ref q31_30_v5, .ref q39_30_v5, .ref q47_30_v5])), (q7_30_v5, .inl (cI, 12, .inl (fun _ => (-1)))), (q15_30_v5, .inl (cI, 12, .inl (fun _ => 0))), (q23_30_v5, .inl (cI, 12, .inl (fun _ => 0))), (q31_30_v5, .inl (cI, 12, .inl (fun _ => 0))), (q39_30_v5, .inl (cI, 12, .inl (fun _ => 0))), (q47_30_v5, .inl (cI, 12, .inl (fun _ => (-1))))] := hD
  refine W.widen (k := 43) (n := 482) (by omega) (by omega) ?_
  refine va_astq (r := (R_Sh, T_Sh, 7)) hx hb hK hP hD hS 1 3 2 3 rfl rfl rfl rfl (by unfold vp_in; decide) d_Pa_init_33 (fun H locs hP hD hS => ?_)
  have hP : va_P D vwCl [(h0, .inr (1, [.ref q7, .int 0, .int 0])), (q7, .inl (cS, 8, .inr (.inr (.inr (.inr (va_up (va_up (va_up (va_up (va_up (va_up (fun _ => none) (0 : Int32).toNatClampNeg (some q26)) (1 : Int32).toNatClampNeg (some q26_v1)) (2 : Int32).toNatClampNeg (some q26_v2)) (3 : Int32).toNatClampNeg (some q26_v3)) (4 : Int32).toNatClampNeg (some q26_v4)) (5 : Int32).toNatClampNeg (some q26_v5))))))), (q26_v5, .inr (3, [.int 0, .ref q7_30_v5, .ref q15_30_v5, .ref q23_30_v5, .ref q31_30_v5, .ref q39_30_v5, .ref q47_30_v5])), (q7_30_v5, .inl (cI, 12, .inl (fun _ => (-1)))), (q15_30_v5, .inl (cI, 12, .inl (fun _ => 0))), (q23_30_v5, .inl (cI, 12, .inl (fun _ => 0))), (q31_30_v5, .inl (cI, 12, .inl (fun _ => 0))), (q39_30_v5, .inl (cI, 12, .inl (fun _ => 0))), (q47_30_v5, .inl (cI, 12, .inl (fun _ => (-1))))] H := hP
  have hD : va_D A [(h0, .inr (1, [.ref q7, .int 0, .int 0])), (q7, .inl (cS, 8, .inr (.inr (.inr (.inr (va_up (va_up (va_up (va_up (va_up (va_up (fun _ => none) (0 : Int32).toNatClampNeg (some q26)) (1 : Int32).toNatClampNeg (some q26_v1)) (2 : Int32).toNatClampNeg (some q26_v2)) (3 : Int32).toNatClampNeg (some q26_v3)) (4 : Int32).toNatClampNeg (some q26_v4)) (5 : Int32).toNatClampNeg (some q26_v5))))))), (q26_v5, .inr (3, [.int 0, .ref q7_30_v5, .ref q15_30_v5, .ref q23_30_v5, .ref q31_30_v5, .ref q39_30_v5, .ref q47_30_v5])), (q7_30_v5, .inl (cI, 12, .inl (fun _ => (-1)))), (q15_30_v5, .inl (cI, 12, .inl (fun _ => 0))), (q23_30_v5, .inl (cI, 12, .inl (fun _ => 0))), (q31_30_v5, .inl (cI, 12, .inl (fun _ => 0))), (q39_30_v5, .inl (cI, 12, .inl (fun _ => 0))), (q47_30_v5, .inl (cI, 12, .inl (fun _ => (-1))))] := hD
  have hP := hP.sub (ws' := [(h0, .inr (1, [.ref q7, .int 0, .int 0])), (q7, .inl (cS, 8, .inr (.inr (.inr (.inr (va_up (va_up (va_up (va_up (va_up (va_up (fun _ => none) (0 : Int32).toNatClampNeg (some q26)) (1 : Int32).toNatClampNeg (some q26_v1)) (2 : Int32).toNatClampNeg (some q26_v2)) (3 : Int32).toNatClampNeg (some q26_v3)) (4 : Int32).toNatClampNeg (some q26_v4)) (5 : Int32).toNatClampNeg (some q26_v5)))))))]) [0, 1] rfl
  have hD := hD.sub (ws' := [(h0, .inr (1, [.ref q7, .int 0, .int 0])), (q7, .inl (cS, 8, .inr (.inr (.inr (.inr (va_up (va_up (va_up (va_up (va_up (va_up (fun _ => none) (0 : Int32).toNatClampNeg (some q26)) (1 : Int32).toNatClampNeg (some q26_v1)) (2 : Int32).toNatClampNeg (some q26_v2)) (3 : Int32).toNatClampNeg (some q26_v3)) (4 : Int32).toNatClampNeg (some q26_v4)) (5 : Int32).toNatClampNeg (some q26_v5)))))))]) [0, 1] (by decide) rfl
  refine lv_iinc (lv' := [(1, .int 6), (0, .ref h0)]) hx hb d_Pa_init_34 hl (k := 0) rfl (by decide) (by decide) rfl (fun ls hl => ?_)
  refine lv_goto (tgt := 15) hx hb d_Pa_init_37 (by decide) ?_
  refine lv_iload_n hx hb d_Pa_init_15 rfl (lv_at hl 0 rfl) ?_
  refine lv_bipush (v := 8) hx hb d_Pa_init_16 (by decide) ?_
  refine lv_icmp_ge (tgt := 40) hx hb d_Pa_init_18 (by decide) (fun h0 => absurd h0 (by decide)) (fun _ => ?_)
  refine lv_aload_n hx hb d_Pa_init_21 rfl (lv_at hl 1 rfl) ?_
  refine va_get (D := D) (ci := 1) (v := .ref q7) (C := R_Pa) (T := T_Pa) (N := 3) hx hb hts hin_Pa hown hK hP 0 rfl rfl 0 (by decide) (hts _ wd_191) (fun _ h9 => h9) rfl d_Pa_init_22 ?_
  refine lv_iload_n hx hb d_Pa_init_25 rfl (lv_at hl 0 rfl) ?_
  refine va_new (ci := 3) (fs := [.int 0, .null, .null, .null, .null, .null, .null]) (C := R_Sh) (T := T_Sh) (N := 7) hx hb hts hin_Sh ty_Sh tyok_Sh hown (hts _ wd_188) (hts _ wd_54) (hts _ wd_3) hK hP hD hS hA rfl (fun j hj => by rcases (show j = 0 ∨ j = 1 ∨ j = 2 ∨ j = 3 ∨ j = 4 ∨ j = 5 ∨ j = 6 by omega) with rfl | rfl | rfl | rfl | rfl | rfl | rfl <;> rfl) (Nat.le_of_ble_eq_true rfl) (Nat.le_of_ble_eq_true rfl) d_Pa_init_26 (fun q26_v6 H hP hD hS => ?_)
  have hP : va_P D vwCl [(h0, .inr (1, [.ref q7, .int 0, .int 0])), (q7, .inl (cS, 8, .inr (.inr (.inr (.inr (va_up (va_up (va_up (va_up (va_up (va_up (fun _ => none) (0 : Int32).toNatClampNeg (some q26)) (1 : Int32).toNatClampNeg (some q26_v1)) (2 : Int32).toNatClampNeg (some q26_v2)) (3 : Int32).toNatClampNeg (some q26_v3)) (4 : Int32).toNatClampNeg (some q26_v4)) (5 : Int32).toNatClampNeg (some q26_v5))))))), (q26_v6, .inr (3, [.int 0, .null, .null, .null, .null, .null, .null]))] H := hP
  have hD : va_D A [(h0, .inr (1, [.ref q7, .int 0, .int 0])), (q7, .inl (cS, 8, .inr (.inr (.inr (.inr (va_up (va_up (va_up (va_up (va_up (va_up (fun _ => none) (0 : Int32).toNatClampNeg (some q26)) (1 : Int32).toNatClampNeg (some q26_v1)) (2 : Int32).toNatClampNeg (some q26_v2)) (3 : Int32).toNatClampNeg (some q26_v3)) (4 : Int32).toNatClampNeg (some q26_v4)) (5 : Int32).toNatClampNeg (some q26_v5))))))), (q26_v6, .inr (3, [.int 0, .null, .null, .null, .null, .null, .null]))] := hD
  refine W.widen (k := 44) (n := 489) (by omega) (by omega) ?_
  refine lv_dup hx hb d_Pa_init_29 rfl ?_
  have hPc := hP.sub (ws' := [(q26_v6, .inr (3, [.int 0, .null, .null, .null, .null, .null, .null]))]) [2] rfl
  have hDc := hD.sub (ws' := [(q26_v6, .inr (3, [.int 0, .null, .null, .null, .null, .null, .null]))]) [2] (by decide) rfl
  have hFc := va_free (wc := [(q26_v6, .inr (3, [.int 0, .null, .null, .null, .null, .null, .null]))]) hD hS hA [2] rfl
  refine va_callv (va_runI (As := []) (rest := [.ref q26_v6, .int 6, .ref q7]) ⟨hx, hb, hml, hown, hts⟩ (c_Sh_init l D cI cZ cJ cS aT ceT H.size q26_v6 ) (cwI 0 hts (tb_c wd_57) rfl rfl rfl (hts _ wd_3) (hts _ wd_190) (hts _ wd_56) rfl ⟨by decide, by decide, by decide +kernel⟩ ⟨Nat.le_of_ble_eq_true rfl, Nat.le_of_ble_eq_true rfl⟩) (tH_S hK hX (hS.2.1 aT hXl hXn) hPc hDc) rfl rfl hl.1 rfl (lv_room (Nat.le_of_ble_eq_true rfl)) d_Pa_init_30 ⟨Nat.le_of_ble_eq_true rfl, Nat.le_of_ble_eq_true rfl⟩) hS (fun q _ h => hFc q h) hFc (fun u t H1 locs ht hvm h9 hB hz1 hk1 hS => ?_)
  obtain ⟨q7_30_v6, q15_30_v6, q23_30_v6, q31_30_v6, q39_30_v6, q47_30_v6, hP1, hD1⟩ := hB
  rw [ht] at hP1
  obtain ⟨hP, hD⟩ := va_join (wr := [(h0, .inr (1, [.ref q7, .int 0, .int 0])), (q7, .inl (cS, 8, .inr (.inr (.inr (.inr (va_up (va_up (va_up (va_up (va_up (va_up (fun _ => none) (0 : Int32).toNatClampNeg (some q26)) (1 : Int32).toNatClampNeg (some q26_v1)) (2 : Int32).toNatClampNeg (some q26_v2)) (3 : Int32).toNatClampNeg (some q26_v3)) (4 : Int32).toNatClampNeg (some q26_v4)) (5 : Int32).toNatClampNeg (some q26_v5)))))))]) (w1 := [(q26_v6, .inr (3, [.int 0, .ref q7_30_v6, .ref q15_30_v6, .ref q23_30_v6, .ref q31_30_v6, .ref q39_30_v6, .ref q47_30_v6])), (q7_30_v6, .inl (cI, 12, .inl (fun _ => (-1)))), (q15_30_v6, .inl (cI, 12, .inl (fun _ => 0))), (q23_30_v6, .inl (cI, 12, .inl (fun _ => 0))), (q31_30_v6, .inl (cI, 12, .inl (fun _ => 0))), (q39_30_v6, .inl (cI, 12, .inl (fun _ => 0))), (q47_30_v6, .inl (cI, 12, .inl (fun _ => (-1))))]) hP hD [2] [0, 1] rfl rfl (by decide) (by decide) hk1 hFc hP1 hD1
  generalize H1 = H at hP hS ⊢
  have hP : va_P D vwCl [(h0, .inr (1, [.ref q7, .int 0, .int 0])), (q7, .inl (cS, 8, .inr (.inr (.inr (.inr (va_up (va_up (va_up (va_up (va_up (va_up (fun _ => none) (0 : Int32).toNatClampNeg (some q26)) (1 : Int32).toNatClampNeg (some q26_v1)) (2 : Int32).toNatClampNeg (some q26_v2)) (3 : Int32).toNatClampNeg (some q26_v3)) (4 : Int32).toNatClampNeg (some q26_v4)) (5 : Int32).toNatClampNeg (some q26_v5))))))), (q26_v6, .inr (3, [.int 0, .ref q7_30_v6, .ref q15_30_v6, .ref q23_30_v6, .ref q31_30_v6, .ref q39_30_v6, .ref q47_30_v6])), (q7_30_v6, .inl (cI, 12, .inl (fun _ => (-1)))), (q15_30_v6, .inl (cI, 12, .inl (fun _ => 0))), (q23_30_v6, .inl (cI, 12, .inl (fun _ => 0))), (q31_30_v6, .inl (cI, 12, .inl (fun _ => 0))), (q39_30_v6, .inl (cI, 12, .inl (fun _ => 0))), (q47_30_v6, .inl (cI, 12, .inl (fun _ => (-1))))] H := hP
  have hD : va_D A [(h0, .inr (1, [.ref q7, .int 0, .int 0])), (q7, .inl (cS, 8, .inr (.inr (.inr (.inr (va_up (va_up (va_up (va_up (va_up (va_up (fun _ => none) (0 : Int32).toNatClampNeg (some q26)) (1 : Int32).toNatClampNeg (some q26_v1)) (2 : Int32).toNatClampNeg (some q26_v2)) (3 : Int32).toNatClampNeg (some q26_v3)) (4 : Int32).toNatClampNeg (some q26_v4)) (5 : Int32).toNatClampNeg (some q26_v5))))))), (q26_v6, .inr (3, [.int 0, .ref q7_30_v6, .ref q15_30_v6, .ref q23_30_v6, .ref q31_30_v6, .ref q39_30_v6, .ref q47_30_v6])), (q7_30_v6, .inl (cI, 12, .inl (fun _ => (-1)))), (q15_30_v6, .inl (cI, 12, .inl (fun _ => 0))), (q23_30_v6, .inl (cI, 12, .inl (fun _ => 0))), (q31_30_v6, .inl (cI, 12, .inl (fun _ => 0))), (q39_30_v6, .inl (cI, 12, .inl (fun _ => 0))), (q47_30_v6, .inl (cI, 12, .inl (fun _ => (-1))))] := hD
  refine W.widen (k := 50) (n := 561) (by omega) (by omega) ?_
  refine va_astq (r := (R_Sh, T_Sh, 7)) hx hb hK hP hD hS 1 3 2 3 rfl rfl rfl rfl (by unfold vp_in; decide) d_Pa_init_33 (fun H locs hP hD hS => ?_)
  have hP : va_P D vwCl [(h0, .inr (1, [.ref q7, .int 0, .int 0])), (q7, .inl (cS, 8, .inr (.inr (.inr (.inr (va_up (va_up (va_up (va_up (va_up (va_up (va_up (fun _ => none) (0 : Int32).toNatClampNeg (some q26)) (1 : Int32).toNatClampNeg (some q26_v1)) (2 : Int32).toNatClampNeg (some q26_v2)) (3 : Int32).toNatClampNeg (some q26_v3)) (4 : Int32).toNatClampNeg (some q26_v4)) (5 : Int32).toNatClampNeg (some q26_v5)) (6 : Int32).toNatClampNeg (some q26_v6))))))), (q26_v6, .inr (3, [.int 0, .ref q7_30_v6, .ref q15_30_v6, .ref q23_30_v6, .ref q31_30_v6, .ref q39_30_v6, .ref q47_30_v6])), (q7_30_v6, .inl (cI, 12, .inl (fun _ => (-1)))), (q15_30_v6, .inl (cI, 12, .inl (fun _ => 0))), (q23_30_v6, .inl (cI, 12, .inl (fun _ => 0))), (q31_30_v6, .inl (cI, 12, .inl (fun _ => 0))), (q39_30_v6, .inl (cI, 12, .inl (fun _ => 0))), (q47_30_v6, .inl (cI, 12, .inl (fun _ => (-1))))] H := hP
  have hD : va_D A [(h0, .inr (1, [.ref q7, .int 0, .int 0])), (q7, .inl (cS, 8, .inr (.inr (.inr (.inr (va_up (va_up (va_up (va_up (va_up (va_up (va_up (fun _ => none) (0 : Int32).toNatClampNeg (some q26)) (1 : Int32).toNatClampNeg (some q26_v1)) (2 : Int32).toNatClampNeg (some q26_v2)) (3 : Int32).toNatClampNeg (some q26_v3)) (4 : Int32).toNatClampNeg (some q26_v4)) (5 : Int32).toNatClampNeg (some q26_v5)) (6 : Int32).toNatClampNeg (some q26_v6))))))), (q26_v6, .inr (3, [.int 0, .ref q7_30_v6, .ref q15_30_v6, .ref q23_30_v6, .ref q31_30_v6, .ref q39_30_v6, .ref q47_30_v6])), (q7_30_v6, .inl (cI, 12, .inl (fun _ => (-1)))), (q15_30_v6, .inl (cI, 12, .inl (fun _ => 0))), (q23_30_v6, .inl (cI, 12, .inl (fun _ => 0))), (q31_30_v6, .inl (cI, 12, .inl (fun _ => 0))), (q39_30_v6, .inl (cI, 12, .inl (fun _ => 0))), (q47_30_v6, .inl (cI, 12, .inl (fun _ => (-1))))] := hD
  have hP := hP.sub (ws' := [(h0, .inr (1, [.ref q7, .int 0, .int 0])), (q7, .inl (cS, 8, .inr (.inr (.inr (.inr (va_up (va_up (va_up (va_up (va_up (va_up (va_up (fun _ => none) (0 : Int32).toNatClampNeg (some q26)) (1 : Int32).toNatClampNeg (some q26_v1)) (2 : Int32).toNatClampNeg (some q26_v2)) (3 : Int32).toNatClampNeg (some q26_v3)) (4 : Int32).toNatClampNeg (some q26_v4)) (5 : Int32).toNatClampNeg (some q26_v5)) (6 : Int32).toNatClampNeg (some q26_v6)))))))]) [0, 1] rfl
  have hD := hD.sub (ws' := [(h0, .inr (1, [.ref q7, .int 0, .int 0])), (q7, .inl (cS, 8, .inr (.inr (.inr (.inr (va_up (va_up (va_up (va_up (va_up (va_up (va_up (fun _ => none) (0 : Int32).toNatClampNeg (some q26)) (1 : Int32).toNatClampNeg (some q26_v1)) (2 : Int32).toNatClampNeg (some q26_v2)) (3 : Int32).toNatClampNeg (some q26_v3)) (4 : Int32).toNatClampNeg (some q26_v4)) (5 : Int32).toNatClampNeg (some q26_v5)) (6 : Int32).toNatClampNeg (some q26_v6)))))))]) [0, 1] (by decide) rfl
  refine lv_iinc (lv' := [(1, .int 7), (0, .ref h0)]) hx hb d_Pa_init_34 hl (k := 0) rfl (by decide) (by decide) rfl (fun ls hl => ?_)
  refine lv_goto (tgt := 15) hx hb d_Pa_init_37 (by decide) ?_
  refine lv_iload_n hx hb d_Pa_init_15 rfl (lv_at hl 0 rfl) ?_
  refine lv_bipush (v := 8) hx hb d_Pa_init_16 (by decide) ?_
  refine lv_icmp_ge (tgt := 40) hx hb d_Pa_init_18 (by decide) (fun h0 => absurd h0 (by decide)) (fun _ => ?_)
  refine lv_aload_n hx hb d_Pa_init_21 rfl (lv_at hl 1 rfl) ?_
  refine va_get (D := D) (ci := 1) (v := .ref q7) (C := R_Pa) (T := T_Pa) (N := 3) hx hb hts hin_Pa hown hK hP 0 rfl rfl 0 (by decide) (hts _ wd_191) (fun _ h9 => h9) rfl d_Pa_init_22 ?_
  refine lv_iload_n hx hb d_Pa_init_25 rfl (lv_at hl 0 rfl) ?_
  refine va_new (ci := 3) (fs := [.int 0, .null, .null, .null, .null, .null, .null]) (C := R_Sh) (T := T_Sh) (N := 7) hx hb hts hin_Sh ty_Sh tyok_Sh hown (hts _ wd_188) (hts _ wd_54) (hts _ wd_3) hK hP hD hS hA rfl (fun j hj => by rcases (show j = 0 ∨ j = 1 ∨ j = 2 ∨ j = 3 ∨ j = 4 ∨ j = 5 ∨ j = 6 by omega) with rfl | rfl | rfl | rfl | rfl | rfl | rfl <;> rfl) (Nat.le_of_ble_eq_true rfl) (Nat.le_of_ble_eq_true rfl) d_Pa_init_26 (fun q26_v7 H hP hD hS => ?_)
  have hP : va_P D vwCl [(h0, .inr (1, [.ref q7, .int 0, .int 0])), (q7, .inl (cS, 8, .inr (.inr (.inr (.inr (va_up (va_up (va_up (va_up (va_up (va_up (va_up (fun _ => none) (0 : Int32).toNatClampNeg (some q26)) (1 : Int32).toNatClampNeg (some q26_v1)) (2 : Int32).toNatClampNeg (some q26_v2)) (3 : Int32).toNatClampNeg (some q26_v3)) (4 : Int32).toNatClampNeg (some q26_v4)) (5 : Int32).toNatClampNeg (some q26_v5)) (6 : Int32).toNatClampNeg (some q26_v6))))))), (q26_v7, .inr (3, [.int 0, .null, .null, .null, .null, .null, .null]))] H := hP
  have hD : va_D A [(h0, .inr (1, [.ref q7, .int 0, .int 0])), (q7, .inl (cS, 8, .inr (.inr (.inr (.inr (va_up (va_up (va_up (va_up (va_up (va_up (va_up (fun _ => none) (0 : Int32).toNatClampNeg (some q26)) (1 : Int32).toNatClampNeg (some q26_v1)) (2 : Int32).toNatClampNeg (some q26_v2)) (3 : Int32).toNatClampNeg (some q26_v3)) (4 : Int32).toNatClampNeg (some q26_v4)) (5 : Int32).toNatClampNeg (some q26_v5)) (6 : Int32).toNatClampNeg (some q26_v6))))))), (q26_v7, .inr (3, [.int 0, .null, .null, .null, .null, .null, .null]))] := hD
  refine W.widen (k := 51) (n := 568) (by omega) (by omega) ?_
  refine lv_dup hx hb d_Pa_init_29 rfl ?_
  have hPc := hP.sub (ws' := [(q26_v7, .inr (3, [.int 0, .null, .null, .null, .null, .null, .null]))]) [2] rfl
  have hDc := hD.sub (ws' := [(q26_v7, .inr (3, [.int 0, .null, .null, .null, .null, .null, .null]))]) [2] (by decide) rfl
  have hFc := va_free (wc := [(q26_v7, .inr (3, [.int 0, .null, .null, .null, .null, .null, .null]))]) hD hS hA [2] rfl
  refine va_callv (va_runI (As := []) (rest := [.ref q26_v7, .int 7, .ref q7]) ⟨hx, hb, hml, hown, hts⟩ (c_Sh_init l D cI cZ cJ cS aT ceT H.size q26_v7 ) (cwI 0 hts (tb_c wd_57) rfl rfl rfl (hts _ wd_3) (hts _ wd_190) (hts _ wd_56) rfl ⟨by decide, by decide, by decide +kernel⟩ ⟨Nat.le_of_ble_eq_true rfl, Nat.le_of_ble_eq_true rfl⟩) (tH_S hK hX (hS.2.1 aT hXl hXn) hPc hDc) rfl rfl hl.1 rfl (lv_room (Nat.le_of_ble_eq_true rfl)) d_Pa_init_30 ⟨Nat.le_of_ble_eq_true rfl, Nat.le_of_ble_eq_true rfl⟩) hS (fun q _ h => hFc q h) hFc (fun u t H1 locs ht hvm h9 hB hz1 hk1 hS => ?_)
  obtain ⟨q7_30_v7, q15_30_v7, q23_30_v7, q31_30_v7, q39_30_v7, q47_30_v7, hP1, hD1⟩ := hB
  rw [ht] at hP1
  obtain ⟨hP, hD⟩ := va_join (wr := [(h0, .inr (1, [.ref q7, .int 0, .int 0])), (q7, .inl (cS, 8, .inr (.inr (.inr (.inr (va_up (va_up (va_up (va_up (va_up (va_up (va_up (fun _ => none) (0 : Int32).toNatClampNeg (some q26)) (1 : Int32).toNatClampNeg (some q26_v1)) (2 : Int32).toNatClampNeg (some q26_v2)) (3 : Int32).toNatClampNeg (some q26_v3)) (4 : Int32).toNatClampNeg (some q26_v4)) (5 : Int32).toNatClampNeg (some q26_v5)) (6 : Int32).toNatClampNeg (some q26_v6)))))))]) (w1 := [(q26_v7, .inr (3, [.int 0, .ref q7_30_v7, .ref q15_30_v7, .ref q23_30_v7, .ref q31_30_v7, .ref q39_30_v7, .ref q47_30_v7])), (q7_30_v7, .inl (cI, 12, .inl (fun _ => (-1)))), (q15_30_v7, .inl (cI, 12, .inl (fun _ => 0))), (q23_30_v7, .inl (cI, 12, .inl (fun _ => 0))), (q31_30_v7, .inl (cI, 12, .inl (fun _ => 0))), (q39_30_v7, .inl (cI, 12, .inl (fun _ => 0))), (q47_30_v7, .inl (cI, 12, .inl (fun _ => (-1))))]) hP hD [2] [0, 1] rfl rfl (by decide) (by decide) hk1 hFc hP1 hD1
  generalize H1 = H at hP hS ⊢
  have hP : va_P D vwCl [(h0, .inr (1, [.ref q7, .int 0, .int 0])), (q7, .inl (cS, 8, .inr (.inr (.inr (.inr (va_up (va_up (va_up (va_up (va_up (va_up (va_up (fun _ => none) (0 : Int32).toNatClampNeg (some q26)) (1 : Int32).toNatClampNeg (some q26_v1)) (2 : Int32).toNatClampNeg (some q26_v2)) (3 : Int32).toNatClampNeg (some q26_v3)) (4 : Int32).toNatClampNeg (some q26_v4)) (5 : Int32).toNatClampNeg (some q26_v5)) (6 : Int32).toNatClampNeg (some q26_v6))))))), (q26_v7, .inr (3, [.int 0, .ref q7_30_v7, .ref q15_30_v7, .ref q23_30_v7, .ref q31_30_v7, .ref q39_30_v7, .ref q47_30_v7])), (q7_30_v7, .inl (cI, 12, .inl (fun _ => (-1)))), (q15_30_v7, .inl (cI, 12, .inl (fun _ => 0))), (q23_30_v7, .inl (cI, 12, .inl (fun _ => 0))), (q31_30_v7, .inl (cI, 12, .inl (fun _ => 0))), (q39_30_v7, .inl (cI, 12, .inl (fun _ => 0))), (q47_30_v7, .inl (cI, 12, .inl (fun _ => (-1))))] H := hP
  have hD : va_D A [(h0, .inr (1, [.ref q7, .int 0, .int 0])), (q7, .inl (cS, 8, .inr (.inr (.inr (.inr (va_up (va_up (va_up (va_up (va_up (va_up (va_up (fun _ => none) (0 : Int32).toNatClampNeg (some q26)) (1 : Int32).toNatClampNeg (some q26_v1)) (2 : Int32).toNatClampNeg (some q26_v2)) (3 : Int32).toNatClampNeg (some q26_v3)) (4 : Int32).toNatClampNeg (some q26_v4)) (5 : Int32).toNatClampNeg (some q26_v5)) (6 : Int32).toNatClampNeg (some q26_v6))))))), (q26_v7, .inr (3, [.int 0, .ref q7_30_v7, .ref q15_30_v7, .ref q23_30_v7, .ref q31_30_v7, .ref q39_30_v7, .ref q47_30_v7])), (q7_30_v7, .inl (cI, 12, .inl (fun _ => (-1)))), (q15_30_v7, .inl (cI, 12, .inl (fun _ => 0))), (q23_30_v7, .inl (cI, 12, .inl (fun _ => 0))), (q31_30_v7, .inl (cI, 12, .inl (fun _ => 0))), (q39_30_v7, .inl (cI, 12, .inl (fun _ => 0))), (q47_30_v7, .inl (cI, 12, .inl (fun _ => (-1))))] := hD
  refine W.widen (k := 57) (n := 640) (by omega) (by omega) ?_
  refine va_astq (r := (R_Sh, T_Sh, 7)) hx hb hK hP hD hS 1 3 2 3 rfl rfl rfl rfl (by unfold vp_in; decide) d_Pa_init_33 (fun H locs hP hD hS => ?_)
  have hP : va_P D vwCl [(h0, .inr (1, [.ref q7, .int 0, .int 0])), (q7, .inl (cS, 8, .inr (.inr (.inr (.inr (va_up (va_up (va_up (va_up (va_up (va_up (va_up (va_up (fun _ => none) (0 : Int32).toNatClampNeg (some q26)) (1 : Int32).toNatClampNeg (some q26_v1)) (2 : Int32).toNatClampNeg (some q26_v2)) (3 : Int32).toNatClampNeg (some q26_v3)) (4 : Int32).toNatClampNeg (some q26_v4)) (5 : Int32).toNatClampNeg (some q26_v5)) (6 : Int32).toNatClampNeg (some q26_v6)) (7 : Int32).toNatClampNeg (some q26_v7))))))), (q26_v7, .inr (3, [.int 0, .ref q7_30_v7, .ref q15_30_v7, .ref q23_30_v7, .ref q31_30_v7, .ref q39_30_v7, .ref q47_30_v7])), (q7_30_v7, .inl (cI, 12, .inl (fun _ => (-1)))), (q15_30_v7, .inl (cI, 12, .inl (fun _ => 0))), (q23_30_v7, .inl (cI, 12, .inl (fun _ => 0))), (q31_30_v7, .inl (cI, 12, .inl (fun _ => 0))), (q39_30_v7, .inl (cI, 12, .inl (fun _ => 0))), (q47_30_v7, .inl (cI, 12, .inl (fun _ => (-1))))] H := hP
  have hD : va_D A [(h0, .inr (1, [.ref q7, .int 0, .int 0])), (q7, .inl (cS, 8, .inr (.inr (.inr (.inr (va_up (va_up (va_up (va_up (va_up (va_up (va_up (va_up (fun _ => none) (0 : Int32).toNatClampNeg (some q26)) (1 : Int32).toNatClampNeg (some q26_v1)) (2 : Int32).toNatClampNeg (some q26_v2)) (3 : Int32).toNatClampNeg (some q26_v3)) (4 : Int32).toNatClampNeg (some q26_v4)) (5 : Int32).toNatClampNeg (some q26_v5)) (6 : Int32).toNatClampNeg (some q26_v6)) (7 : Int32).toNatClampNeg (some q26_v7))))))), (q26_v7, .inr (3, [.int 0, .ref q7_30_v7, .ref q15_30_v7, .ref q23_30_v7, .ref q31_30_v7, .ref q39_30_v7, .ref q47_30_v7])), (q7_30_v7, .inl (cI, 12, .inl (fun _ => (-1)))), (q15_30_v7, .inl (cI, 12, .inl (fun _ => 0))), (q23_30_v7, .inl (cI, 12, .inl (fun _ => 0))), (q31_30_v7, .inl (cI, 12, .inl (fun _ => 0))), (q39_30_v7, .inl (cI, 12, .inl (fun _ => 0))), (q47_30_v7, .inl (cI, 12, .inl (fun _ => (-1))))] := hD
  have hP := hP.sub (ws' := [(h0, .inr (1, [.ref q7, .int 0, .int 0])), (q7, .inl (cS, 8, .inr (.inr (.inr (.inr (va_up (va_up (va_up (va_up (va_up (va_up (va_up (va_up (fun _ => none) (0 : Int32).toNatClampNeg (some q26)) (1 : Int32).toNatClampNeg (some q26_v1)) (2 : Int32).toNatClampNeg (some q26_v2)) (3 : Int32).toNatClampNeg (some q26_v3)) (4 : Int32).toNatClampNeg (some q26_v4)) (5 : Int32).toNatClampNeg (some q26_v5)) (6 : Int32).toNatClampNeg (some q26_v6)) (7 : Int32).toNatClampNeg (some q26_v7)))))))]) [0, 1] rfl
  have hD := hD.sub (ws' := [(h0, .inr (1, [.ref q7, .int 0, .int 0])), (q7, .inl (cS, 8, .inr (.inr (.inr (.inr (va_up (va_up (va_up (va_up (va_up (va_up (va_up (va_up (fun _ => none) (0 : Int32).toNatClampNeg (some q26)) (1 : Int32).toNatClampNeg (some q26_v1)) (2 : Int32).toNatClampNeg (some q26_v2)) (3 : Int32).toNatClampNeg (some q26_v3)) (4 : Int32).toNatClampNeg (some q26_v4)) (5 : Int32).toNatClampNeg (some q26_v5)) (6 : Int32).toNatClampNeg (some q26_v6)) (7 : Int32).toNatClampNeg (some q26_v7)))))))]) [0, 1] (by decide) rfl
  refine lv_iinc (lv' := [(1, .int 8), (0, .ref h0)]) hx hb d_Pa_init_34 hl (k := 0) rfl (by decide) (by decide) rfl (fun ls hl => ?_)
  refine lv_goto (tgt := 15) hx hb d_Pa_init_37 (by decide) ?_
  refine lv_iload_n hx hb d_Pa_init_15 rfl (lv_at hl 0 rfl) ?_
  refine lv_bipush (v := 8) hx hb d_Pa_init_16 (by decide) ?_
  refine lv_icmp_ge (tgt := 40) hx hb d_Pa_init_18 (by decide) (fun _ => ?_) (fun h0 => absurd (by decide) h0)
  have hP9 := hP.sub (ws' := [(h0, .inr (1, [.ref q7, .int 0, .int 0]))]) [0] rfl
  have hD9 := hD.sub (ws' := [(h0, .inr (1, [.ref q7, .int 0, .int 0]))]) [0] (by decide) rfl
  refine W.widen (k := 57) (n := 640) (by omega) (by omega) ?_
  exact W.vret hx hb hr (fun t ht hW => ⟨⟨(), rfl, trivial, q7, by rw [ht]; exact hP9, hD9⟩, hS.F ht⟩) hS.2.2 d_Pa_init_40
