theorem d_Wm_init_0 : decode b_Wm_init 0 = .ok (.aload_n 0, 1) := by decide +kernel
theorem d_Wm_init_1 : decode b_Wm_init 1 = .ok (.invokespecial 3, 3) := by decide +kernel
theorem d_Wm_init_4 : decode b_Wm_init 4 = .ok (.aload_n 0, 1) := by decide +kernel
theorem d_Wm_init_5 : decode b_Wm_init 5 = .ok (.bipush 12, 2) := by decide +kernel
theorem d_Wm_init_7 : decode b_Wm_init 7 = .ok (.newarray .int, 2) := by decide +kernel
theorem d_Wm_init_9 : decode b_Wm_init 9 = .ok (.putfield 9, 3) := by decide +kernel
theorem d_Wm_init_12 : decode b_Wm_init 12 = .ok (.aload_n 0, 1) := by decide +kernel
theorem d_Wm_init_13 : decode b_Wm_init 13 = .ok (.bipush 12, 2) := by decide +kernel
theorem d_Wm_init_15 : decode b_Wm_init 15 = .ok (.newarray .int, 2) := by decide +kernel
theorem d_Wm_init_17 : decode b_Wm_init 17 = .ok (.putfield 15, 3) := by decide +kernel
theorem d_Wm_init_20 : decode b_Wm_init 20 = .ok (.return_, 1) := by decide +kernel
theorem wd_30 : (Cond.methodLink "SheetWar$WarMap" (3 : Nat) ({ cls := "java/lang/Object", name := "<init>", desc := "()V" } : MethodName)) ∈ TB := tb_t 30 (by decide +kernel) (by decide +kernel)
theorem wd_23 : (Cond.instanceMethod ({ cls := "java/lang/Object", name := "<init>", desc := "()V" } : MethodName)) ∈ TB := tb_t 23 (by decide +kernel) (by decide +kernel)
theorem wd_24 : (Cond.code ({ cls := "java/lang/Object", name := "<init>", desc := "()V" } : MethodName) object_method_1_code (1 : Nat) (Option.none : Option FieldType)) ∈ TB := tb_t 24 (by decide +kernel) (by decide +kernel)
theorem wd_52 : (Cond.arrayClass FieldType.int) ∈ TB := tb_t 52 (by decide +kernel) (by decide +kernel)
theorem wd_37 : (Cond.fieldLink "SheetWar$WarMap" (9 : Nat) "SheetWar$WarMap" "homes" "[I") ∈ TB := tb_t 37 (by decide +kernel) (by decide +kernel)
theorem wd_39 : (Cond.fieldLink "SheetWar$WarMap" (15 : Nat) "SheetWar$WarMap" "neighbours" "[I") ∈ TB := tb_t 39 (by decide +kernel) (by decide +kernel)
set_option maxHeartbeats 4000000 in
set_option maxRecDepth 100000 in
theorem c_Wm_init (l : Launch) (D : va_G) (cI cZ cJ cS : ClassId) (aT : Nat) (ceT : Cell) (sz : Nat) (h0 : Nat)  : Met l y_wmi w_Wm_init ({ frames := 1, cells := 2, slots := 24, locals := 16 }) (tH D cI cZ cJ cS aT ceT [.ref h0] sz [(h0, .inr (4, [.int 0, .int 0, .int 0, .null, .null]))]) (va_Qv (fun _ : Unit => True) (fun _ t => ∃ (q7 : Nat) (q15 : Nat), tB D (va_A [(h0, .inr (4, [.int 0, .int 0, .int 0, .null, .null]))] sz) [(h0, .inr (4, [.int 0, .int 0, .int 0, .ref q7, .ref q15])), (q7, .inl (cI, 12, .inl (fun _ => 0))), (q15, .inl (cI, 12, .inl (fun _ => 0)))] t) (va_A [(h0, .inr (4, [.int 0, .int 0, .int 0, .null, .null]))] sz)) 2 24 (va_A [(h0, .inr (4, [.int 0, .int 0, .int 0, .null, .null]))] sz) := by
  refine Met.ofW (cc := b_Wm_init) (maxL := 1) (ret := none) (by decide) rfl ?_
  intro p e s m args below meth c s₁ B hml hv
  obtain ⟨rfl, hsz, hP, hK, hD0, hX⟩ := hv
  have hx := B.exec
  have hb := B.bytes
  have hr := B.returns
  have hts0 := atoms_spec (ws := w_Wm_init) B.pre
  have hts : ∀ w ∈ TB, w.before _ s = true := fun w h => hts0 w (List.mem_cons_of_mem _ h)
  have hown : s.vm.findClass R_Wm = some m.cls := findClass_of_methodNamed B.named
  have hlocks := B.notSynchronized
  have hin : meth.name = "<init>" := (name_of_methodNamed B.named B.method).1
  subst hsz
  have hXl := tx_lt hX
  have hXn := tx_far hP hX
  have hD := hD0.self (sz := s.heap.size)
  generalize hAe : va_A [(h0, .inr (4, [.int 0, .int 0, .int 0, .null, .null]))] s.heap.size = A at hD hXn ⊢
  have hA : ∀ q : Nat, s.heap.size ≤ q → A q := fun q h => by rw [← hAe]; exact Or.inr h
  have hS : va_S A s.heap s.heap [] := va_S.rf
  have hXH : s.heap[aT]? = s.heap[aT]? := rfl
  have hl := lv_entry ([.ref h0]) (n := 1) (Nat.le_of_ble_eq_true rfl)
  rw [lg_entry_eq]
  generalize (lg_sl ([.ref h0]) ++ List.replicate (1 - (lg_sl ([.ref h0])).length) Slot.unset).toArray = ls at hl ⊢
  have hl : lv_has ls 1 [(0, .ref h0)] := hl
  refine lv_aload_n hx hb d_Wm_init_0 rfl (lv_at hl 0 rfl) ?_
  refine W.objInit hx hb hown (hts _ wd_30) (hts _ wd_23) (hts _ wd_24) rfl (by rw [hml]; exact hl.1) rfl d_Wm_init_1 (Nat.le_of_ble_eq_true rfl) (Nat.le_of_ble_eq_true rfl) ?_
  refine W.eq (g2 := F0 m 4 ls []) rfl ?_
  refine lv_aload_n hx hb d_Wm_init_4 rfl (lv_at hl 0 rfl) ?_
  refine lv_bipush (v := 12) hx hb d_Wm_init_5 (by decide) ?_
  refine tn_newi (N' := 12) hx hb (hts _ wd_52) hK hP hD hS hA (t0 := 0) rfl (by decide) (by decide) (by decide) (Nat.le_of_ble_eq_true rfl) (Nat.le_of_ble_eq_true rfl) d_Wm_init_7 (fun q7 H hP hD hS => ?_)
  have hP : va_P D vwCl [(h0, .inr (4, [.int 0, .int 0, .int 0, .null, .null])), (q7, .inl (cI, 12, .inl (fun _ => 0)))] H := hP
  have hD : va_D A [(h0, .inr (4, [.int 0, .int 0, .int 0, .null, .null])), (q7, .inl (cI, 12, .inl (fun _ => 0)))] := hD
  refine W.widen (k := 1) (n := 12) (by omega) (by omega) ?_
  refine va_putF (D := D) (ci := 4) (v := .ref q7) (ty := .array .int) (C := R_Wm) (T := T_Wm) (N := 5) hx hb hts hin_Wm ty_Wm tyok_Wm nm_Wm hown hK hP hD hS 0 rfl rfl 3 (by decide) (hts _ wd_37) (fun _ h9 => h9) rfl hin rfl (by decide +kernel) rfl rfl (Nat.le_of_ble_eq_true rfl) d_Wm_init_9 (fun H locs hP hD hS => ?_)
  have hP : va_P D vwCl [(h0, .inr (4, [.int 0, .int 0, .int 0, .ref q7, .null])), (q7, .inl (cI, 12, .inl (fun _ => 0)))] H := hP
  have hD : va_D A [(h0, .inr (4, [.int 0, .int 0, .int 0, .ref q7, .null])), (q7, .inl (cI, 12, .inl (fun _ => 0)))] := hD
  refine lv_aload_n hx hb d_Wm_init_12 rfl (lv_at hl 0 rfl) ?_
  refine lv_bipush (v := 12) hx hb d_Wm_init_13 (by decide) ?_
  refine tn_newi (N' := 12) hx hb (hts _ wd_52) hK hP hD hS hA (t0 := 0) rfl (by decide) (by decide) (by decide) (Nat.le_of_ble_eq_true rfl) (Nat.le_of_ble_eq_true rfl) d_Wm_init_15 (fun q15 H hP hD hS => ?_)
  have hP : va_P D vwCl [(h0, .inr (4, [.int 0, .int 0, .int 0, .ref q7, .null])), (q7, .inl (cI, 12, .inl (fun _ => 0))), (q15, .inl (cI, 12, .inl (fun _ => 0)))] H := hP
  have hD : va_D A [(h0, .inr (4, [.int 0, .int 0, .int 0, .ref q7, .null])), (q7, .inl (cI, 12, .inl (fun _ => 0))), (q15, .inl (cI, 12, .inl (fun _ => 0)))] := hD
  refine W.widen (k := 2) (n := 24) (by omega) (by omega) ?_
  refine va_putF (D := D) (ci := 4) (v := .ref q15) (ty := .array .int) (C := R_Wm) (T := T_Wm) (N := 5) hx hb hts hin_Wm ty_Wm tyok_Wm nm_Wm hown hK hP hD hS 0 rfl rfl 4 (by decide) (hts _ wd_39) (fun _ h9 => h9) rfl hin rfl (by decide +kernel) rfl rfl (Nat.le_of_ble_eq_true rfl) d_Wm_init_17 (fun H locs hP hD hS => ?_)
  have hP : va_P D vwCl [(h0, .inr (4, [.int 0, .int 0, .int 0, .ref q7, .ref q15])), (q7, .inl (cI, 12, .inl (fun _ => 0))), (q15, .inl (cI, 12, .inl (fun _ => 0)))] H := hP
  have hD : va_D A [(h0, .inr (4, [.int 0, .int 0, .int 0, .ref q7, .ref q15])), (q7, .inl (cI, 12, .inl (fun _ => 0))), (q15, .inl (cI, 12, .inl (fun _ => 0)))] := hD
  have hP9 := hP.sub (ws' := [(h0, .inr (4, [.int 0, .int 0, .int 0, .ref q7, .ref q15])), (q7, .inl (cI, 12, .inl (fun _ => 0))), (q15, .inl (cI, 12, .inl (fun _ => 0)))]) [0, 1, 2] rfl
  have hD9 := hD.sub (ws' := [(h0, .inr (4, [.int 0, .int 0, .int 0, .ref q7, .ref q15])), (q7, .inl (cI, 12, .inl (fun _ => 0))), (q15, .inl (cI, 12, .inl (fun _ => 0)))]) [0, 1, 2] (by decide) rfl
  refine W.widen (k := 2) (n := 24) (by omega) (by omega) ?_
  exact W.vret hx hb hr (fun t ht hW => ⟨⟨(), rfl, trivial, q7, q15, by rw [ht]; exact hP9, hD9⟩, hS.F ht⟩) hS.2.2 d_Wm_init_20

theorem d_Sh_init_0 : decode b_Sh_init 0 = .ok (.aload_n 0, 1) := by decide +kernel
theorem d_Sh_init_1 : decode b_Sh_init 1 = .ok (.invokespecial 3, 3) := by decide +kernel
theorem d_Sh_init_4 : decode b_Sh_init 4 = .ok (.aload_n 0, 1) := by decide +kernel
theorem d_Sh_init_5 : decode b_Sh_init 5 = .ok (.bipush 12, 2) := by decide +kernel
theorem d_Sh_init_7 : decode b_Sh_init 7 = .ok (.newarray .int, 2) := by decide +kernel
theorem d_Sh_init_9 : decode b_Sh_init 9 = .ok (.putfield 9, 3) := by decide +kernel
theorem d_Sh_init_12 : decode b_Sh_init 12 = .ok (.aload_n 0, 1) := by decide +kernel
theorem d_Sh_init_13 : decode b_Sh_init 13 = .ok (.bipush 12, 2) := by decide +kernel
theorem d_Sh_init_15 : decode b_Sh_init 15 = .ok (.newarray .int, 2) := by decide +kernel
theorem d_Sh_init_17 : decode b_Sh_init 17 = .ok (.putfield 15, 3) := by decide +kernel
theorem d_Sh_init_20 : decode b_Sh_init 20 = .ok (.aload_n 0, 1) := by decide +kernel
theorem d_Sh_init_21 : decode b_Sh_init 21 = .ok (.bipush 12, 2) := by decide +kernel
theorem d_Sh_init_23 : decode b_Sh_init 23 = .ok (.newarray .int, 2) := by decide +kernel
theorem d_Sh_init_25 : decode b_Sh_init 25 = .ok (.putfield 18, 3) := by decide +kernel
theorem d_Sh_init_28 : decode b_Sh_init 28 = .ok (.aload_n 0, 1) := by decide +kernel
theorem d_Sh_init_29 : decode b_Sh_init 29 = .ok (.bipush 12, 2) := by decide +kernel
theorem d_Sh_init_31 : decode b_Sh_init 31 = .ok (.newarray .int, 2) := by decide +kernel
theorem d_Sh_init_33 : decode b_Sh_init 33 = .ok (.putfield 21, 3) := by decide +kernel
theorem d_Sh_init_36 : decode b_Sh_init 36 = .ok (.aload_n 0, 1) := by decide +kernel
theorem d_Sh_init_37 : decode b_Sh_init 37 = .ok (.bipush 12, 2) := by decide +kernel
theorem d_Sh_init_39 : decode b_Sh_init 39 = .ok (.newarray .int, 2) := by decide +kernel
theorem d_Sh_init_41 : decode b_Sh_init 41 = .ok (.putfield 24, 3) := by decide +kernel
theorem d_Sh_init_44 : decode b_Sh_init 44 = .ok (.aload_n 0, 1) := by decide +kernel
theorem d_Sh_init_45 : decode b_Sh_init 45 = .ok (.bipush 12, 2) := by decide +kernel
theorem d_Sh_init_47 : decode b_Sh_init 47 = .ok (.newarray .int, 2) := by decide +kernel
theorem d_Sh_init_49 : decode b_Sh_init 49 = .ok (.putfield 27, 3) := by decide +kernel
theorem d_Sh_init_52 : decode b_Sh_init 52 = .ok (.aload_n 0, 1) := by decide +kernel
theorem d_Sh_init_53 : decode b_Sh_init 53 = .ok (.getfield 9, 3) := by decide +kernel
theorem d_Sh_init_56 : decode b_Sh_init 56 = .ok (.iconst (-1), 1) := by decide +kernel
theorem d_Sh_init_57 : decode b_Sh_init 57 = .ok (.invokestatic 30, 3) := by decide +kernel
theorem d_Sh_init_60 : decode b_Sh_init 60 = .ok (.aload_n 0, 1) := by decide +kernel
theorem d_Sh_init_61 : decode b_Sh_init 61 = .ok (.getfield 27, 3) := by decide +kernel
theorem d_Sh_init_64 : decode b_Sh_init 64 = .ok (.iconst (-1), 1) := by decide +kernel
theorem d_Sh_init_65 : decode b_Sh_init 65 = .ok (.invokestatic 30, 3) := by decide +kernel
theorem d_Sh_init_68 : decode b_Sh_init 68 = .ok (.return_, 1) := by decide +kernel
theorem wd_58 : (Cond.methodLink "SheetWar$Sheet" (3 : Nat) ({ cls := "java/lang/Object", name := "<init>", desc := "()V" } : MethodName)) ∈ TB := tb_t 58 (by decide +kernel) (by decide +kernel)
theorem wd_64 : (Cond.fieldLink "SheetWar$Sheet" (9 : Nat) "SheetWar$Sheet" "units" "[I") ∈ TB := tb_t 64 (by decide +kernel) (by decide +kernel)
theorem wd_68 : (Cond.fieldLink "SheetWar$Sheet" (15 : Nat) "SheetWar$Sheet" "orders" "[I") ∈ TB := tb_t 68 (by decide +kernel) (by decide +kernel)
theorem wd_71 : (Cond.fieldLink "SheetWar$Sheet" (18 : Nat) "SheetWar$Sheet" "xs" "[I") ∈ TB := tb_t 71 (by decide +kernel) (by decide +kernel)
theorem wd_74 : (Cond.fieldLink "SheetWar$Sheet" (21 : Nat) "SheetWar$Sheet" "ys" "[I") ∈ TB := tb_t 74 (by decide +kernel) (by decide +kernel)
theorem wd_77 : (Cond.fieldLink "SheetWar$Sheet" (24 : Nat) "SheetWar$Sheet" "outcomes" "[I") ∈ TB := tb_t 77 (by decide +kernel) (by decide +kernel)
theorem wd_80 : (Cond.fieldLink "SheetWar$Sheet" (27 : Nat) "SheetWar$Sheet" "owners" "[I") ∈ TB := tb_t 80 (by decide +kernel) (by decide +kernel)
theorem wd_61 : (Cond.code ({ cls := "java/util/Arrays", name := "fill", desc := "([II)V" } : MethodName) prog_17_method_103_code (4 : Nat) (Option.none : Option FieldType)) ∈ TB := tb_t 61 (by decide +kernel) (by decide +kernel)
theorem wd_59 : (Cond.methodLink "SheetWar$Sheet" (30 : Nat) ({ cls := "java/util/Arrays", name := "fill", desc := "([II)V" } : MethodName)) ∈ TB := tb_t 59 (by decide +kernel) (by decide +kernel)
theorem wd_60 : (Cond.static ({ cls := "java/util/Arrays", name := "fill", desc := "([II)V" } : MethodName)) ∈ TB := tb_t 60 (by decide +kernel) (by decide +kernel)
theorem wd_4 : (Cond.initialized "java/util/Arrays") ∈ TB := tb_t 4 (by decide +kernel) (by decide +kernel)
set_option maxHeartbeats 4000000 in
set_option maxRecDepth 100000 in
theorem c_Sh_init (l : Launch) (D : va_G) (cI cZ cJ cS : ClassId) (aT : Nat) (ceT : Cell) (sz : Nat) (h0 : Nat)  : Met l y_Sh_init w_Sh_init ({ frames := 1, cells := 6, slots := 72, locals := 23 }) (tH D cI cZ cJ cS aT ceT [.ref h0] sz [(h0, .inr (3, [.int 0, .null, .null, .null, .null, .null, .null]))]) (va_Qv (fun _ : Unit => True) (fun _ t => ∃ (q7 : Nat) (q15 : Nat) (q23 : Nat) (q31 : Nat) (q39 : Nat) (q47 : Nat), tB D (va_A [(h0, .inr (3, [.int 0, .null, .null, .null, .null, .null, .null]))] sz) [(h0, .inr (3, [.int 0, .ref q7, .ref q15, .ref q23, .ref q31, .ref q39, .ref q47])), (q7, .inl (cI, 12, .inl (fun _ => (-1)))), (q15, .inl (cI, 12, .inl (fun _ => 0))), (q23, .inl (cI, 12, .inl (fun _ => 0))), (q31, .inl (cI, 12, .inl (fun _ => 0))), (q39, .inl (cI, 12, .inl (fun _ => 0))), (q47, .inl (cI, 12, .inl (fun _ => (-1))))] t) (va_A [(h0, .inr (3, [.int 0, .null, .null, .null, .null, .null, .null]))] sz)) 6 72 (va_A [(h0, .inr (3, [.int 0, .null, .null, .null, .null, .null, .null]))] sz) := by
  refine Met.ofW (cc := b_Sh_init) (maxL := 1) (ret := none) (by decide) rfl ?_
  intro p e s m args below meth c s₁ B hml hv
  obtain ⟨rfl, hsz, hP, hK, hD0, hX⟩ := hv
  have hx := B.exec
  have hb := B.bytes
  have hr := B.returns
  have hts0 := atoms_spec (ws := w_Sh_init) B.pre
  have hts : ∀ w ∈ TB, w.before _ s = true := fun w h => hts0 w (List.mem_cons_of_mem _ h)
  have hown : s.vm.findClass R_Sh = some m.cls := findClass_of_methodNamed B.named
  have hlocks := B.notSynchronized
  have hin : meth.name = "<init>" := (name_of_methodNamed B.named B.method).1
  subst hsz
  have hXl := tx_lt hX
  have hXn := tx_far hP hX
  have hD := hD0.self (sz := s.heap.size)
  generalize hAe : va_A [(h0, .inr (3, [.int 0, .null, .null, .null, .null, .null, .null]))] s.heap.size = A at hD hXn ⊢
  have hA : ∀ q : Nat, s.heap.size ≤ q → A q := fun q h => by rw [← hAe]; exact Or.inr h
  have hS : va_S A s.heap s.heap [] := va_S.rf
  have hXH : s.heap[aT]? = s.heap[aT]? := rfl
  have hl := lv_entry ([.ref h0]) (n := 1) (Nat.le_of_ble_eq_true rfl)
  rw [lg_entry_eq]
  generalize (lg_sl ([.ref h0]) ++ List.replicate (1 - (lg_sl ([.ref h0])).length) Slot.unset).toArray = ls at hl ⊢
  have hl : lv_has ls 1 [(0, .ref h0)] := hl
  refine lv_aload_n hx hb d_Sh_init_0 rfl (lv_at hl 0 rfl) ?_
  refine W.objInit hx hb hown (hts _ wd_58) (hts _ wd_23) (hts _ wd_24) rfl (by rw [hml]; exact hl.1) rfl d_Sh_init_1 (Nat.le_of_ble_eq_true rfl) (Nat.le_of_ble_eq_true rfl) ?_
  refine W.eq (g2 := F0 m 4 ls []) rfl ?_
  refine lv_aload_n hx hb d_Sh_init_4 rfl (lv_at hl 0 rfl) ?_
  refine lv_bipush (v := 12) hx hb d_Sh_init_5 (by decide) ?_
  refine tn_newi (N' := 12) hx hb (hts _ wd_52) hK hP hD hS hA (t0 := 0) rfl (by decide) (by decide) (by decide) (Nat.le_of_ble_eq_true rfl) (Nat.le_of_ble_eq_true rfl) d_Sh_init_7 (fun q7 H hP hD hS => ?_)
  have hP : va_P D vwCl [(h0, .inr (3, [.int 0, .null, .null, .null, .null, .null, .null])), (q7, .inl (cI, 12, .inl (fun _ => 0)))] H := hP
  have hD : va_D A [(h0, .inr (3, [.int 0, .null, .null, .null, .null, .null, .null])), (q7, .inl (cI, 12, .inl (fun _ => 0)))] := hD
  refine W.widen (k := 1) (n := 12) (by omega) (by omega) ?_
  refine va_putF (D := D) (ci := 3) (v := .ref q7) (ty := .array .int) (C := R_Sh) (T := T_Sh) (N := 7) hx hb hts hin_Sh ty_Sh tyok_Sh nm_Sh hown hK hP hD hS 0 rfl rfl 1 (by decide) (hts _ wd_64) (fun _ h9 => h9) rfl hin rfl (by decide +kernel) rfl rfl (Nat.le_of_ble_eq_true rfl) d_Sh_init_9 (fun H locs hP hD hS => ?_)
  have hP : va_P D vwCl [(h0, .inr (3, [.int 0, .ref q7, .null, .null, .null, .null, .null])), (q7, .inl (cI, 12, .inl (fun _ => 0)))] H := hP
  have hD : va_D A [(h0, .inr (3, [.int 0, .ref q7, .null, .null, .null, .null, .null])), (q7, .inl (cI, 12, .inl (fun _ => 0)))] := hD
  refine lv_aload_n hx hb d_Sh_init_12 rfl (lv_at hl 0 rfl) ?_
  refine lv_bipush (v := 12) hx hb d_Sh_init_13 (by decide) ?_
  refine tn_newi (N' := 12) hx hb (hts _ wd_52) hK hP hD hS hA (t0 := 0) rfl (by decide) (by decide) (by decide) (Nat.le_of_ble_eq_true rfl) (Nat.le_of_ble_eq_true rfl) d_Sh_init_15 (fun q15 H hP hD hS => ?_)
  have hP : va_P D vwCl [(h0, .inr (3, [.int 0, .ref q7, .null, .null, .null, .null, .null])), (q7, .inl (cI, 12, .inl (fun _ => 0))), (q15, .inl (cI, 12, .inl (fun _ => 0)))] H := hP
  have hD : va_D A [(h0, .inr (3, [.int 0, .ref q7, .null, .null, .null, .null, .null])), (q7, .inl (cI, 12, .inl (fun _ => 0))), (q15, .inl (cI, 12, .inl (fun _ => 0)))] := hD
  refine W.widen (k := 2) (n := 24) (by omega) (by omega) ?_
  refine va_putF (D := D) (ci := 3) (v := .ref q15) (ty := .array .int) (C := R_Sh) (T := T_Sh) (N := 7) hx hb hts hin_Sh ty_Sh tyok_Sh nm_Sh hown hK hP hD hS 0 rfl rfl 2 (by decide) (hts _ wd_68) (fun _ h9 => h9) rfl hin rfl (by decide +kernel) rfl rfl (Nat.le_of_ble_eq_true rfl) d_Sh_init_17 (fun H locs hP hD hS => ?_)
  have hP : va_P D vwCl [(h0, .inr (3, [.int 0, .ref q7, .ref q15, .null, .null, .null, .null])), (q7, .inl (cI, 12, .inl (fun _ => 0))), (q15, .inl (cI, 12, .inl (fun _ => 0)))] H := hP
  have hD : va_D A [(h0, .inr (3, [.int 0, .ref q7, .ref q15, .null, .null, .null, .null])), (q7, .inl (cI, 12, .inl (fun _ => 0))), (q15, .inl (cI, 12, .inl (fun _ => 0)))] := hD
  refine lv_aload_n hx hb d_Sh_init_20 rfl (lv_at hl 0 rfl) ?_
  refine lv_bipush (v := 12) hx hb d_Sh_init_21 (by decide) ?_
  refine tn_newi (N' := 12) hx hb (hts _ wd_52) hK hP hD hS hA (t0 := 0) rfl (by decide) (by decide) (by decide) (Nat.le_of_ble_eq_true rfl) (Nat.le_of_ble_eq_true rfl) d_Sh_init_23 (fun q23 H hP hD hS => ?_)
  have hP : va_P D vwCl [(h0, .inr (3, [.int 0, .ref q7, .ref q15, .null, .null, .null, .null])), (q7, .inl (cI, 12, .inl (fun _ => 0))), (q15, .inl (cI, 12, .inl (fun _ => 0))), (q23, .inl (cI, 12, .inl (fun _ => 0)))] H := hP
  have hD : va_D A [(h0, .inr (3, [.int 0, .ref q7, .ref q15, .null, .null, .null, .null])), (q7, .inl (cI, 12, .inl (fun _ => 0))), (q15, .inl (cI, 12, .inl (fun _ => 0))), (q23, .inl (cI, 12, .inl (fun _ => 0)))] := hD
  refine W.widen (k := 3) (n := 36) (by omega) (by omega) ?_
  refine va_putF (D := D) (ci := 3) (v := .ref q23) (ty := .array .int) (C := R_Sh) (T := T_Sh) (N := 7) hx hb hts hin_Sh ty_Sh tyok_Sh nm_Sh hown hK hP hD hS 0 rfl rfl 3 (by decide) (hts _ wd_71) (fun _ h9 => h9) rfl hin rfl (by decide +kernel) rfl rfl (Nat.le_of_ble_eq_true rfl) d_Sh_init_25 (fun H locs hP hD hS => ?_)
  have hP : va_P D vwCl [(h0, .inr (3, [.int 0, .ref q7, .ref q15, .ref q23, .null, .null, .null])), (q7, .inl (cI, 12, .inl (fun _ => 0))), (q15, .inl (cI, 12, .inl (fun _ => 0))), (q23, .inl (cI, 12, .inl (fun _ => 0)))] H := hP
  have hD : va_D A [(h0, .inr (3, [.int 0, .ref q7, .ref q15, .ref q23, .null, .null, .null])), (q7, .inl (cI, 12, .inl (fun _ => 0))), (q15, .inl (cI, 12, .inl (fun _ => 0))), (q23, .inl (cI, 12, .inl (fun _ => 0)))] := hD
  refine lv_aload_n hx hb d_Sh_init_28 rfl (lv_at hl 0 rfl) ?_
  refine lv_bipush (v := 12) hx hb d_Sh_init_29 (by decide) ?_
  refine tn_newi (N' := 12) hx hb (hts _ wd_52) hK hP hD hS hA (t0 := 0) rfl (by decide) (by decide) (by decide) (Nat.le_of_ble_eq_true rfl) (Nat.le_of_ble_eq_true rfl) d_Sh_init_31 (fun q31 H hP hD hS => ?_)
  have hP : va_P D vwCl [(h0, .inr (3, [.int 0, .ref q7, .ref q15, .ref q23, .null, .null, .null])), (q7, .inl (cI, 12, .inl (fun _ => 0))), (q15, .inl (cI, 12, .inl (fun _ => 0))), (q23, .inl (cI, 12, .inl (fun _ => 0))), (q31, .inl (cI, 12, .inl (fun _ => 0)))] H := hP
  have hD : va_D A [(h0, .inr (3, [.int 0, .ref q7, .ref q15, .ref q23, .null, .null, .null])), (q7, .inl (cI, 12, .inl (fun _ => 0))), (q15, .inl (cI, 12, .inl (fun _ => 0))), (q23, .inl (cI, 12, .inl (fun _ => 0))), (q31, .inl (cI, 12, .inl (fun _ => 0)))] := hD
  refine W.widen (k := 4) (n := 48) (by omega) (by omega) ?_
  refine va_putF (D := D) (ci := 3) (v := .ref q31) (ty := .array .int) (C := R_Sh) (T := T_Sh) (N := 7) hx hb hts hin_Sh ty_Sh tyok_Sh nm_Sh hown hK hP hD hS 0 rfl rfl 4 (by decide) (hts _ wd_74) (fun _ h9 => h9) rfl hin rfl (by decide +kernel) rfl rfl (Nat.le_of_ble_eq_true rfl) d_Sh_init_33 (fun H locs hP hD hS => ?_)
  have hP : va_P D vwCl [(h0, .inr (3, [.int 0, .ref q7, .ref q15, .ref q23, .ref q31, .null, .null])), (q7, .inl (cI, 12, .inl (fun _ => 0))), (q15, .inl (cI, 12, .inl (fun _ => 0))), (q23, .inl (cI, 12, .inl (fun _ => 0))), (q31, .inl (cI, 12, .inl (fun _ => 0)))] H := hP
  have hD : va_D A [(h0, .inr (3, [.int 0, .ref q7, .ref q15, .ref q23, .ref q31, .null, .null])), (q7, .inl (cI, 12, .inl (fun _ => 0))), (q15, .inl (cI, 12, .inl (fun _ => 0))), (q23, .inl (cI, 12, .inl (fun _ => 0))), (q31, .inl (cI, 12, .inl (fun _ => 0)))] := hD
  refine lv_aload_n hx hb d_Sh_init_36 rfl (lv_at hl 0 rfl) ?_
  refine lv_bipush (v := 12) hx hb d_Sh_init_37 (by decide) ?_
  refine tn_newi (N' := 12) hx hb (hts _ wd_52) hK hP hD hS hA (t0 := 0) rfl (by decide) (by decide) (by decide) (Nat.le_of_ble_eq_true rfl) (Nat.le_of_ble_eq_true rfl) d_Sh_init_39 (fun q39 H hP hD hS => ?_)
  have hP : va_P D vwCl [(h0, .inr (3, [.int 0, .ref q7, .ref q15, .ref q23, .ref q31, .null, .null])), (q7, .inl (cI, 12, .inl (fun _ => 0))), (q15, .inl (cI, 12, .inl (fun _ => 0))), (q23, .inl (cI, 12, .inl (fun _ => 0))), (q31, .inl (cI, 12, .inl (fun _ => 0))), (q39, .inl (cI, 12, .inl (fun _ => 0)))] H := hP
  have hD : va_D A [(h0, .inr (3, [.int 0, .ref q7, .ref q15, .ref q23, .ref q31, .null, .null])), (q7, .inl (cI, 12, .inl (fun _ => 0))), (q15, .inl (cI, 12, .inl (fun _ => 0))), (q23, .inl (cI, 12, .inl (fun _ => 0))), (q31, .inl (cI, 12, .inl (fun _ => 0))), (q39, .inl (cI, 12, .inl (fun _ => 0)))] := hD
  refine W.widen (k := 5) (n := 60) (by omega) (by omega) ?_
  refine va_putF (D := D) (ci := 3) (v := .ref q39) (ty := .array .int) (C := R_Sh) (T := T_Sh) (N := 7) hx hb hts hin_Sh ty_Sh tyok_Sh nm_Sh hown hK hP hD hS 0 rfl rfl 5 (by decide) (hts _ wd_77) (fun _ h9 => h9) rfl hin rfl (by decide +kernel) rfl rfl (Nat.le_of_ble_eq_true rfl) d_Sh_init_41 (fun H locs hP hD hS => ?_)
  have hP : va_P D vwCl [(h0, .inr (3, [.int 0, .ref q7, .ref q15, .ref q23, .ref q31, .ref q39, .null])), (q7, .inl (cI, 12, .inl (fun _ => 0))), (q15, .inl (cI, 12, .inl (fun _ => 0))), (q23, .inl (cI, 12, .inl (fun _ => 0))), (q31, .inl (cI, 12, .inl (fun _ => 0))), (q39, .inl (cI, 12, .inl (fun _ => 0)))] H := hP
  have hD : va_D A [(h0, .inr (3, [.int 0, .ref q7, .ref q15, .ref q23, .ref q31, .ref q39, .null])), (q7, .inl (cI, 12, .inl (fun _ => 0))), (q15, .inl (cI, 12, .inl (fun _ => 0))), (q23, .inl (cI, 12, .inl (fun _ => 0))), (q31, .inl (cI, 12, .inl (fun _ => 0))), (q39, .inl (cI, 12, .inl (fun _ => 0)))] := hD
  refine lv_aload_n hx hb d_Sh_init_44 rfl (lv_at hl 0 rfl) ?_
  refine lv_bipush (v := 12) hx hb d_Sh_init_45 (by decide) ?_
  refine tn_newi (N' := 12) hx hb (hts _ wd_52) hK hP hD hS hA (t0 := 0) rfl (by decide) (by decide) (by decide) (Nat.le_of_ble_eq_true rfl) (Nat.le_of_ble_eq_true rfl) d_Sh_init_47 (fun q47 H hP hD hS => ?_)
  have hP : va_P D vwCl [(h0, .inr (3, [.int 0, .ref q7, .ref q15, .ref q23, .ref q31, .ref q39, .null])), (q7, .inl (cI, 12, .inl (fun _ => 0))), (q15, .inl (cI, 12, .inl (fun _ => 0))), (q23, .inl (cI, 12, .inl (fun _ => 0))), (q31, .inl (cI, 12, .inl (fun _ => 0))), (q39, .inl (cI, 12, .inl (fun _ => 0))), (q47, .inl (cI, 12, .inl (fun _ => 0)))] H := hP
  have hD : va_D A [(h0, .inr (3, [.int 0, .ref q7, .ref q15, .ref q23, .ref q31, .ref q39, .null])), (q7, .inl (cI, 12, .inl (fun _ => 0))), (q15, .inl (cI, 12, .inl (fun _ => 0))), (q23, .inl (cI, 12, .inl (fun _ => 0))), (q31, .inl (cI, 12, .inl (fun _ => 0))), (q39, .inl (cI, 12, .inl (fun _ => 0))), (q47, .inl (cI, 12, .inl (fun _ => 0)))] := hD
  refine W.widen (k := 6) (n := 72) (by omega) (by omega) ?_
  refine va_putF (D := D) (ci := 3) (v := .ref q47) (ty := .array .int) (C := R_Sh) (T := T_Sh) (N := 7) hx hb hts hin_Sh ty_Sh tyok_Sh nm_Sh hown hK hP hD hS 0 rfl rfl 6 (by decide) (hts _ wd_80) (fun _ h9 => h9) rfl hin rfl (by decide +kernel) rfl rfl (Nat.le_of_ble_eq_true rfl) d_Sh_init_49 (fun H locs hP hD hS => ?_)
  have hP : va_P D vwCl [(h0, .inr (3, [.int 0, .ref q7, .ref q15, .ref q23, .ref q31, .ref q39, .ref q47])), (q7, .inl (cI, 12, .inl (fun _ => 0))), (q15, .inl (cI, 12, .inl (fun _ => 0))), (q23, .inl (cI, 12, .inl (fun _ => 0))), (q31, .inl (cI, 12, .inl (fun _ => 0))), (q39, .inl (cI, 12, .inl (fun _ => 0))), (q47, .inl (cI, 12, .inl (fun _ => 0)))] H := hP
  have hD : va_D A [(h0, .inr (3, [.int 0, .ref q7, .ref q15, .ref q23, .ref q31, .ref q39, .ref q47])), (q7, .inl (cI, 12, .inl (fun _ => 0))), (q15, .inl (cI, 12, .inl (fun _ => 0))), (q23, .inl (cI, 12, .inl (fun _ => 0))), (q31, .inl (cI, 12, .inl (fun _ => 0))), (q39, .inl (cI, 12, .inl (fun _ => 0))), (q47, .inl (cI, 12, .inl (fun _ => 0)))] := hD
  refine lv_aload_n hx hb d_Sh_init_52 rfl (lv_at hl 0 rfl) ?_
  refine va_get (D := D) (ci := 3) (v := .ref q7) (C := R_Sh) (T := T_Sh) (N := 7) hx hb hts hin_Sh hown hK hP 0 rfl rfl 1 (by decide) (hts _ wd_64) (fun _ h9 => h9) rfl d_Sh_init_53 ?_
  refine lv_iconst (v := (-1)) hx hb d_Sh_init_56 (by decide) ?_
  have hPc := hP.sub (ws' := [(q7, .inl (cI, 12, .inl (fun _ => 0)))]) [1] rfl
  have hDc := hD.sub (ws' := [(q7, .inl (cI, 12, .inl (fun _ => 0)))]) [1] (by decide) rfl
  have hFc := va_free (wc := [(q7, .inl (cI, 12, .inl (fun _ => 0)))]) hD hS hA [1] rfl
  refine va_callv (va_runS (As := [.ref q7, .int (-1)]) (rest := []) ⟨hx, hb, hml, hown, hts⟩ (c_Ar_fill l D cI cZ cJ cS aT ceT H.size q7 12 (fun _ => 0) (-1) (by decide)) (va_cwS 2 hts (tb_3 wd_59 wd_60 wd_4 (tb_c wd_61)) rfl rfl rfl ⟨by decide, by decide, by decide +kernel⟩ ⟨Nat.le_of_ble_eq_true rfl, Nat.le_of_ble_eq_true rfl⟩) (tH_S hK hX (hS.2.1 aT hXl hXn) hPc hDc) rfl rfl hl.1 rfl (lv_room (Nat.le_of_ble_eq_true rfl)) d_Sh_init_57 ⟨Nat.le_of_ble_eq_true rfl, Nat.le_of_ble_eq_true rfl⟩) hS (fun q _ h => hFc q h) hFc (fun u t H1 locs ht hvm h9 hB hz1 hk1 hS => ?_)
  obtain ⟨hP1, hD1⟩ := hB
  rw [ht] at hP1
  obtain ⟨hP, hD⟩ := va_join (wr := [(h0, .inr (3, [.int 0, .ref q7, .ref q15, .ref q23, .ref q31, .ref q39, .ref q47])), (q15, .inl (cI, 12, .inl (fun _ => 0))), (q23, .inl (cI, 12, .inl (fun _ => 0))), (q31, .inl (cI, 12, .inl (fun _ => 0))), (q39, .inl (cI, 12, .inl (fun _ => 0))), (q47, .inl (cI, 12, .inl (fun _ => 0)))]) (w1 := [(q7, .inl (cI, 12, .inl (fun _ => (-1 : Int32))))]) hP hD [1] [0, 2, 3, 4, 5, 6] rfl rfl (by decide) (by decide) hk1 hFc hP1 hD1
  generalize H1 = H at hP hS ⊢
  have hP : va_P D vwCl [(h0, .inr (3, [.int 0, .ref q7, .ref q15, .ref q23, .ref q31, .ref q39, .ref q47])), (q15, .inl (cI, 12, .inl (fun _ => 0))), (q23, .inl (cI, 12, .inl (fun _ => 0))), (q31, .inl (cI, 12, .inl (fun _ => 0))), (q39, .inl (cI, 12, .inl (fun _ => 0))), (q47, .inl (cI, 12, .inl (fun _ => 0))), (q7, .inl (cI, 12, .inl (fun _ => (-1 : Int32))))] H := hP
  have hD : va_D A [(h0, .inr (3, [.int 0, .ref q7, .ref q15, .ref q23, .ref q31, .ref q39, .ref q47])), (q15, .inl (cI, 12, .inl (fun _ => 0))), (q23, .inl (cI, 12, .inl (fun _ => 0))), (q31, .inl (cI, 12, .inl (fun _ => 0))), (q39, .inl (cI, 12, .inl (fun _ => 0))), (q47, .inl (cI, 12, .inl (fun _ => 0))), (q7, .inl (cI, 12, .inl (fun _ => (-1 : Int32))))] := hD
  refine lv_aload_n hx hb d_Sh_init_60 rfl (lv_at hl 0 rfl) ?_
  refine va_get (D := D) (ci := 3) (v := .ref q47) (C := R_Sh) (T := T_Sh) (N := 7) hx hb hts hin_Sh hown hK hP 0 rfl rfl 6 (by decide) (hts _ wd_80) (fun _ h9 => h9) rfl d_Sh_init_61 ?_
  refine lv_iconst (v := (-1)) hx hb d_Sh_init_64 (by decide) ?_
  have hPc := hP.sub (ws' := [(q47, .inl (cI, 12, .inl (fun _ => 0)))]) [5] rfl
  have hDc := hD.sub (ws' := [(q47, .inl (cI, 12, .inl (fun _ => 0)))]) [5] (by decide) rfl
  have hFc := va_free (wc := [(q47, .inl (cI, 12, .inl (fun _ => 0)))]) hD hS hA [5] rfl
  refine va_callv (va_runS (As := [.ref q47, .int (-1)]) (rest := []) ⟨hx, hb, hml, hown, hts⟩ (c_Ar_fill l D cI cZ cJ cS aT ceT H.size q47 12 (fun _ => 0) (-1) (by decide)) (va_cwS 2 hts (tb_3 wd_59 wd_60 wd_4 (tb_c wd_61)) rfl rfl rfl ⟨by decide, by decide, by decide +kernel⟩ ⟨Nat.le_of_ble_eq_true rfl, Nat.le_of_ble_eq_true rfl⟩) (tH_S hK hX (hS.2.1 aT hXl hXn) hPc hDc) rfl rfl hl.1 rfl (lv_room (Nat.le_of_ble_eq_true rfl)) d_Sh_init_65 ⟨Nat.le_of_ble_eq_true rfl, Nat.le_of_ble_eq_true rfl⟩) hS (fun q _ h => hFc q h) hFc (fun u t H1 locs ht hvm h9 hB hz1 hk1 hS => ?_)
  obtain ⟨hP1, hD1⟩ := hB
  rw [ht] at hP1
  obtain ⟨hP, hD⟩ := va_join (wr := [(h0, .inr (3, [.int 0, .ref q7, .ref q15, .ref q23, .ref q31, .ref q39, .ref q47])), (q15, .inl (cI, 12, .inl (fun _ => 0))), (q23, .inl (cI, 12, .inl (fun _ => 0))), (q31, .inl (cI, 12, .inl (fun _ => 0))), (q39, .inl (cI, 12, .inl (fun _ => 0))), (q7, .inl (cI, 12, .inl (fun _ => (-1 : Int32))))]) (w1 := [(q47, .inl (cI, 12, .inl (fun _ => (-1 : Int32))))]) hP hD [5] [0, 1, 2, 3, 4, 6] rfl rfl (by decide) (by decide) hk1 hFc hP1 hD1
  generalize H1 = H at hP hS ⊢
  have hP : va_P D vwCl [(h0, .inr (3, [.int 0, .ref q7, .ref q15, .ref q23, .ref q31, .ref q39, .ref q47])), (q15, .inl (cI, 12, .inl (fun _ => 0))), (q23, .inl (cI, 12, .inl (fun _ => 0))), (q31, .inl (cI, 12, .inl (fun _ => 0))), (q39, .inl (cI, 12, .inl (fun _ => 0))), (q7, .inl (cI, 12, .inl (fun _ => (-1 : Int32)))), (q47, .inl (cI, 12, .inl (fun _ => (-1 : Int32))))] H := hP
  have hD : va_D A [(h0, .inr (3, [.int 0, .ref q7, .ref q15, .ref q23, .ref q31, .ref q39, .ref q47])), (q15, .inl (cI, 12, .inl (fun _ => 0))), (q23, .inl (cI, 12, .inl (fun _ => 0))), (q31, .inl (cI, 12, .inl (fun _ => 0))), (q39, .inl (cI, 12, .inl (fun _ => 0))), (q7, .inl (cI, 12, .inl (fun _ => (-1 : Int32)))), (q47, .inl (cI, 12, .inl (fun _ => (-1 : Int32))))] := hD
  have hP9 := hP.sub (ws' := [(h0, .inr (3, [.int 0, .ref q7, .ref q15, .ref q23, .ref q31, .ref q39, .ref q47])), (q7, .inl (cI, 12, .inl (fun _ => (-1 : Int32)))), (q15, .inl (cI, 12, .inl (fun _ => 0))), (q23, .inl (cI, 12, .inl (fun _ => 0))), (q31, .inl (cI, 12, .inl (fun _ => 0))), (q39, .inl (cI, 12, .inl (fun _ => 0))), (q47, .inl (cI, 12, .inl (fun _ => (-1 : Int32))))]) [0, 5, 1, 2, 3, 4, 6] rfl
  have hD9 := hD.sub (ws' := [(h0, .inr (3, [.int 0, .ref q7, .ref q15, .ref q23, .ref q31, .ref q39, .ref q47])), (q7, .inl (cI, 12, .inl (fun _ => (-1 : Int32)))), (q15, .inl (cI, 12, .inl (fun _ => 0))), (q23, .inl (cI, 12, .inl (fun _ => 0))), (q31, .inl (cI, 12, .inl (fun _ => 0))), (q39, .inl (cI, 12, .inl (fun _ => 0))), (q47, .inl (cI, 12, .inl (fun _ => (-1 : Int32))))]) [0, 5, 1, 2, 3, 4, 6] (by decide) rfl
  refine W.widen (k := 6) (n := 72) (by omega) (by omega) ?_
  exact W.vret hx hb hr (fun t ht hW => ⟨⟨(), rfl, trivial, q7, q15, q23, q31, q39, q47, by rw [ht]; exact hP9, hD9⟩, hS.F ht⟩) hS.2.2 d_Sh_init_68
