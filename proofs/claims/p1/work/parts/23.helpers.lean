theorem d_Lw_area_0 : decode b_Lw_area 0 = .ok (.aload 4, 2) := by decide +kernel
theorem d_Lw_area_2 : decode b_Lw_area 2 = .ok (.iconst 0, 1) := by decide +kernel
theorem d_Lw_area_3 : decode b_Lw_area 3 = .ok (.aload_n 0, 1) := by decide +kernel
theorem d_Lw_area_4 : decode b_Lw_area 4 = .ok (.iload_n 1, 1) := by decide +kernel
theorem d_Lw_area_5 : decode b_Lw_area 5 = .ok (.iload_n 2, 1) := by decide +kernel
theorem d_Lw_area_6 : decode b_Lw_area 6 = .ok (.iload_n 3, 1) := by decide +kernel
theorem d_Lw_area_7 : decode b_Lw_area 7 = .ok (.invokevirtual 7, 3) := by decide +kernel
theorem d_Lw_area_10 : decode b_Lw_area 10 = .ok (.i2l, 1) := by decide +kernel
theorem d_Lw_area_11 : decode b_Lw_area 11 = .ok (.lastore, 1) := by decide +kernel
theorem d_Lw_area_12 : decode b_Lw_area 12 = .ok (.goto 11, 3) := by decide +kernel
theorem d_Lw_area_15 : decode b_Lw_area 15 = .ok (.astore 5, 2) := by decide +kernel
theorem d_Lw_area_17 : decode b_Lw_area 17 = .ok (.iconst 1, 1) := by decide +kernel
theorem d_Lw_area_18 : decode b_Lw_area 18 = .ok (.ireturn, 1) := by decide +kernel
theorem d_Lw_area_19 : decode b_Lw_area 19 = .ok (.astore 5, 2) := by decide +kernel
theorem d_Lw_area_21 : decode b_Lw_area 21 = .ok (.iconst 2, 1) := by decide +kernel
theorem d_Lw_area_22 : decode b_Lw_area 22 = .ok (.ireturn, 1) := by decide +kernel
theorem d_Lw_area_23 : decode b_Lw_area 23 = .ok (.iconst 0, 1) := by decide +kernel
theorem d_Lw_area_24 : decode b_Lw_area 24 = .ok (.ireturn, 1) := by decide +kernel
theorem wd_322 : (Cond.classLink "SheetWarLaw" (13 : Nat) "java/lang/IllegalArgumentException") ∈ TB := tb_t 322 (by decide +kernel) (by decide +kernel)
theorem wd_324 : (Cond.methodLink "SheetWarLaw" (7 : Nat) ({ cls := "SheetWar", name := "area", desc := "(IZI)I" } : MethodName)) ∈ TB := tb_t 324 (by decide +kernel) (by decide +kernel)
theorem wd_325 : (Cond.instanceMethod ({ cls := "SheetWar", name := "area", desc := "(IZI)I" } : MethodName)) ∈ TB := tb_t 325 (by decide +kernel) (by decide +kernel)
theorem wd_326 : (Cond.selects "SheetWar" ({ cls := "SheetWar", name := "area", desc := "(IZI)I" } : MethodName) ({ cls := "SheetWar", name := "area", desc := "(IZI)I" } : MethodName)) ∈ TB := tb_t 326 (by decide +kernel) (by decide +kernel)
theorem wd_327 : (Cond.code ({ cls := "SheetWar", name := "area", desc := "(IZI)I" } : MethodName) prog_1_method_2_code (4 : Nat) (Option.some FieldType.int)) ∈ TB := tb_t 327 (by decide +kernel) (by decide +kernel)
set_option maxHeartbeats 4000000 in
set_option maxRecDepth 100000 in
theorem c_Lw_area_1 (l : Launch) (D : va_G) (cI cZ cJ cS : ClassId) (aT : Nat) (ceT : Cell) (sz : Nat) (h0 hm hh he ha hp : Nat) (ph : Int32) (k ce h : Int32) (oq : Nat) (hok : ¬ okA k ce h) (hfl : l.flags = pinnedFlags ++ [noTraceFlag]) : Met l y_Lw_area w_Lw_area ({ frames := 7, cells := 1, slots := 6, locals := 105 }) (tH D cI cZ cJ cS aT ceT [.ref h0, .int k, .int ce, .int h, .ref oq] sz [(h0, .inr (5, [.ref hm, .ref hh, .ref he, .ref ha, .ref hp, .int ph]))]) (va_Qi (fun (r : Int32) (_ : Unit) => r = 1) (fun _ t => tB D (va_A [(h0, .inr (5, [.ref hm, .ref hh, .ref he, .ref ha, .ref hp, .int ph]))] sz) [(h0, .inr (5, [.ref hm, .ref hh, .ref he, .ref ha, .ref hp, .int ph]))] t) (va_A [(h0, .inr (5, [.ref hm, .ref hh, .ref he, .ref ha, .ref hp, .int ph]))] sz)) 1 6 (va_A [(h0, .inr (5, [.ref hm, .ref hh, .ref he, .ref ha, .ref hp, .int ph]))] sz) := by
  refine va_MetW (cc := b_Lw_area) (maxL := 6) (ret := (some .int)) (hh := [(0, 12, 15, 13), (0, 12, 19, 15)]) (by decide) rfl ?_
  intro p e s m args below meth c s₁ B hml hv
  obtain ⟨rfl, hsz, hP, hK, hD0, hX⟩ := hv
  have hx := B.exec
  have hb := B.bytes
  have hr := B.returns
  have hts0 := atoms_spec (ws := w_Lw_area) B.pre
  have hts : ∀ w ∈ TB, w.before _ s = true := fun w h => hts0 w (List.mem_cons_of_mem _ h)
  have hown : s.vm.findClass "SheetWarLaw" = some m.cls := findClass_of_methodNamed B.named
  have hlocks := B.notSynchronized
  have hTab := tx_tab B (hts0 _ (List.mem_cons_self ..))
  subst hsz
  have hXl := tx_lt hX
  have hXn := tx_far hP hX
  have hD := hD0.self (sz := s.heap.size)
  generalize hAe : va_A [(h0, .inr (5, [.ref hm, .ref hh, .ref he, .ref ha, .ref hp, .int ph]))] s.heap.size = A at hD hXn ⊢
  have hA : ∀ q : Nat, s.heap.size ≤ q → A q := fun q h => by rw [← hAe]; exact Or.inr h
  have hS : va_S A s.heap s.heap [] := va_S.rf
  have hXH : s.heap[aT]? = s.heap[aT]? := rfl
  have hl := lv_entry ([.ref h0, .int k, .int ce, .int h, .ref oq]) (n := 6) (Nat.le_of_ble_eq_true rfl)
  rw [lg_entry_eq]
  generalize (lg_sl ([.ref h0, .int k, .int ce, .int h, .ref oq]) ++ List.replicate (6 - (lg_sl ([.ref h0, .int k, .int ce, .int h, .ref oq])).length) Slot.unset).toArray = ls at hl ⊢
  have hl : lv_has ls 6 [(0, .ref h0), (1, .int k), (2, .int ce), (3, .int h), (4, .ref oq)] := hl
  refine lv_aload hx hb d_Lw_area_0 (lv_at hl 4 rfl) ?_
  refine lv_iconst (v := 0) hx hb d_Lw_area_2 (by decide) ?_
  refine lv_aload_n hx hb d_Lw_area_3 rfl (lv_at hl 0 rfl) ?_
  refine lv_iload_n hx hb d_Lw_area_4 rfl (lv_at hl 1 rfl) ?_
  refine lv_iload_n hx hb d_Lw_area_5 rfl (lv_at hl 2 rfl) ?_
  refine lv_iload_n hx hb d_Lw_area_6 rfl (lv_at hl 3 rfl) ?_
  have hPc := hP.sub (ws' := [(h0, .inr (5, [.ref hm, .ref hh, .ref he, .ref ha, .ref hp, .int ph]))]) [0] rfl
  refine tx_callT (own := "SheetWarLaw") (C := "SheetWar") (As := [.int k, .int ce, .int h]) (rest := [.int 0, .ref oq]) (hpc := 15) ⟨hx, hb, hml, hown, hts⟩ (c_Sw_area_t1 l D cI cZ cJ cS aT ceT h0 hm hh he ha hp ph k ce h hok hfl) (cwV 3 hts (tb_4 wd_324 wd_325 wd_326 wd_1 (tb_c wd_327)) rfl rfl rfl ⟨rfl, by decide, by decide, by decide +kernel⟩ ⟨Nat.le_of_ble_eq_true rfl, Nat.le_of_ble_eq_true rfl⟩) (tP_V hK hX (hS.2.1 aT hXl hXn) hPc (q := 0) rfl rfl) rfl rfl hl.1 (Nat.le_of_ble_eq_true rfl) d_Lw_area_7 ⟨Nat.le_of_ble_eq_true rfl, Nat.le_of_ble_eq_true rfl⟩ (tx_H1 hTab ⟨by decide, by decide, by decide⟩ (hts _ wd_322)) (fun x9 H1 hz9 hk9 => ?_)
  have hP := tx_ext hP hk9
  have hS := tx_extS hS hz9 hk9
  clear hk9 hz9
  generalize H1 = H at hP hS ⊢
  refine W.widen (k := 1) (n := 6) (by omega) (by omega) ?_
  refine lv_astore (lv' := [(5, .ref x9), (0, .ref h0), (1, .int k), (2, .int ce), (3, .int h), (4, .ref oq)]) hx hb d_Lw_area_15 hl (by decide) rfl (fun ls hl => ?_)
  refine lv_iconst (v := 1) hx hb d_Lw_area_17 (by decide) ?_
  have hP9 := hP.sub (ws' := [(h0, .inr (5, [.ref hm, .ref hh, .ref he, .ref ha, .ref hp, .int ph]))]) [0] rfl
  have hD9 := hD.sub (ws' := [(h0, .inr (5, [.ref hm, .ref hh, .ref he, .ref ha, .ref hp, .int ph]))]) [0] (by decide) rfl
  refine W.widen (k := 1) (n := 6) (by omega) (by omega) ?_
  exact W.iret (v := 1) hx hb hr (fun t ht hW => ⟨⟨1, (), rfl, rfl, by rw [ht]; exact hP9, hD9⟩, hS.F ht⟩) hS.2.2 d_Lw_area_18

theorem d_Lw_border_0 : decode b_Lw_border 0 = .ok (.aload_n 3, 1) := by decide +kernel
theorem d_Lw_border_1 : decode b_Lw_border 1 = .ok (.iconst 0, 1) := by decide +kernel
theorem d_Lw_border_2 : decode b_Lw_border 2 = .ok (.aload_n 0, 1) := by decide +kernel
theorem d_Lw_border_3 : decode b_Lw_border 3 = .ok (.iload_n 1, 1) := by decide +kernel
theorem d_Lw_border_4 : decode b_Lw_border 4 = .ok (.iload_n 2, 1) := by decide +kernel
theorem d_Lw_border_5 : decode b_Lw_border 5 = .ok (.invokevirtual 17, 3) := by decide +kernel
theorem d_Lw_border_8 : decode b_Lw_border 8 = .ok (.ifCond .eq 7, 3) := by decide +kernel
theorem d_Lw_border_11 : decode b_Lw_border 11 = .ok (.lconst 1, 1) := by decide +kernel
theorem d_Lw_border_12 : decode b_Lw_border 12 = .ok (.goto 4, 3) := by decide +kernel
theorem d_Lw_border_15 : decode b_Lw_border 15 = .ok (.lconst 0, 1) := by decide +kernel
theorem d_Lw_border_16 : decode b_Lw_border 16 = .ok (.lastore, 1) := by decide +kernel
theorem d_Lw_border_17 : decode b_Lw_border 17 = .ok (.goto 11, 3) := by decide +kernel
theorem d_Lw_border_20 : decode b_Lw_border 20 = .ok (.astore 4, 2) := by decide +kernel
theorem d_Lw_border_22 : decode b_Lw_border 22 = .ok (.iconst 1, 1) := by decide +kernel
theorem d_Lw_border_23 : decode b_Lw_border 23 = .ok (.ireturn, 1) := by decide +kernel
theorem d_Lw_border_24 : decode b_Lw_border 24 = .ok (.astore 4, 2) := by decide +kernel
theorem d_Lw_border_26 : decode b_Lw_border 26 = .ok (.iconst 2, 1) := by decide +kernel
theorem d_Lw_border_27 : decode b_Lw_border 27 = .ok (.ireturn, 1) := by decide +kernel
theorem d_Lw_border_28 : decode b_Lw_border 28 = .ok (.iconst 0, 1) := by decide +kernel
theorem d_Lw_border_29 : decode b_Lw_border 29 = .ok (.ireturn, 1) := by decide +kernel
theorem wd_415 : (Cond.methodLink "SheetWarLaw" (17 : Nat) ({ cls := "SheetWar", name := "border", desc := "(II)Z" } : MethodName)) ∈ TB := tb_t 415 (by decide +kernel) (by decide +kernel)
theorem wd_416 : (Cond.instanceMethod ({ cls := "SheetWar", name := "border", desc := "(II)Z" } : MethodName)) ∈ TB := tb_t 416 (by decide +kernel) (by decide +kernel)
theorem wd_417 : (Cond.selects "SheetWar" ({ cls := "SheetWar", name := "border", desc := "(II)Z" } : MethodName) ({ cls := "SheetWar", name := "border", desc := "(II)Z" } : MethodName)) ∈ TB := tb_t 417 (by decide +kernel) (by decide +kernel)
theorem wd_418 : (Cond.code ({ cls := "SheetWar", name := "border", desc := "(II)Z" } : MethodName) prog_1_method_3_code (3 : Nat) (Option.some FieldType.boolean)) ∈ TB := tb_t 418 (by decide +kernel) (by decide +kernel)
set_option maxHeartbeats 4000000 in
set_option maxRecDepth 100000 in
theorem c_Lw_border_1 (l : Launch) (D : va_G) (cI cZ cJ cS : ClassId) (aT : Nat) (ceT : Cell) (sz : Nat) (h0 hm hh he ha hp : Nat) (ph : Int32) (qh qn : Nat) (n seas cen : Int32) (a b : Int32) (oq : Nat) (hno9 : ¬ ((0 ≤ a ∧ a < n) ∧ (0 ≤ b ∧ b < n) ∧ ¬ a = b)) (hfl : l.flags = pinnedFlags ++ [noTraceFlag]) : Met l y_Lw_border w_Lw_border ({ frames := 7, cells := 1, slots := 6, locals := 104 }) (tH D cI cZ cJ cS aT ceT [.ref h0, .int a, .int b, .ref oq] sz [(h0, .inr (5, [.ref hm, .ref hh, .ref he, .ref ha, .ref hp, .int ph])), (hm, .inr (4, [.int n, .int seas, .int cen, .ref qh, .ref qn]))]) (va_Qi (fun (r : Int32) (_ : Unit) => r = 1) (fun _ t => tB D (va_A [(h0, .inr (5, [.ref hm, .ref hh, .ref he, .ref ha, .ref hp, .int ph])), (hm, .inr (4, [.int n, .int seas, .int cen, .ref qh, .ref qn]))] sz) [(h0, .inr (5, [.ref hm, .ref hh, .ref he, .ref ha, .ref hp, .int ph])), (hm, .inr (4, [.int n, .int seas, .int cen, .ref qh, .ref qn]))] t) (va_A [(h0, .inr (5, [.ref hm, .ref hh, .ref he, .ref ha, .ref hp, .int ph])), (hm, .inr (4, [.int n, .int seas, .int cen, .ref qh, .ref qn]))] sz)) 1 6 (va_A [(h0, .inr (5, [.ref hm, .ref hh, .ref he, .ref ha, .ref hp, .int ph])), (hm, .inr (4, [.int n, .int seas, .int cen, .ref qh, .ref qn]))] sz) := by
  refine va_MetW (cc := b_Lw_border) (maxL := 5) (ret := (some .int)) (hh := [(0, 17, 20, 13), (0, 17, 24, 15)]) (by decide) rfl ?_
  intro p e s m args below meth c s₁ B hml hv
  obtain ⟨rfl, hsz, hP, hK, hD0, hX⟩ := hv
  have hx := B.exec
  have hb := B.bytes
  have hr := B.returns
  have hts0 := atoms_spec (ws := w_Lw_border) B.pre
  have hts : ∀ w ∈ TB, w.before _ s = true := fun w h => hts0 w (List.mem_cons_of_mem _ h)
  have hown : s.vm.findClass "SheetWarLaw" = some m.cls := findClass_of_methodNamed B.named
  have hlocks := B.notSynchronized
  have hTab := tx_tab B (hts0 _ (List.mem_cons_self ..))
  subst hsz
  have hXl := tx_lt hX
  have hXn := tx_far hP hX
  have hD := hD0.self (sz := s.heap.size)
  generalize hAe : va_A [(h0, .inr (5, [.ref hm, .ref hh, .ref he, .ref ha, .ref hp, .int ph])), (hm, .inr (4, [.int n, .int seas, .int cen, .ref qh, .ref qn]))] s.heap.size = A at hD hXn ⊢
  have hA : ∀ q : Nat, s.heap.size ≤ q → A q := fun q h => by rw [← hAe]; exact Or.inr h
  have hS : va_S A s.heap s.heap [] := va_S.rf
  have hXH : s.heap[aT]? = s.heap[aT]? := rfl
  have hl := lv_entry ([.ref h0, .int a, .int b, .ref oq]) (n := 5) (Nat.le_of_ble_eq_true rfl)
  rw [lg_entry_eq]
  generalize (lg_sl ([.ref h0, .int a, .int b, .ref oq]) ++ List.replicate (5 - (lg_sl ([.ref h0, .int a, .int b, .ref oq])).length) Slot.unset).toArray = ls at hl ⊢
  have hl : lv_has ls 5 [(0, .ref h0), (1, .int a), (2, .int b), (3, .ref oq)] := hl
  refine lv_aload_n hx hb d_Lw_border_0 rfl (lv_at hl 3 rfl) ?_
  refine lv_iconst (v := 0) hx hb d_Lw_border_1 (by decide) ?_
  refine lv_aload_n hx hb d_Lw_border_2 rfl (lv_at hl 0 rfl) ?_
  refine lv_iload_n hx hb d_Lw_border_3 rfl (lv_at hl 1 rfl) ?_
  refine lv_iload_n hx hb d_Lw_border_4 rfl (lv_at hl 2 rfl) ?_
  have hPc := hP.sub (ws' := [(h0, .inr (5, [.ref hm, .ref hh, .ref he, .ref ha, .ref hp, .int ph])), (hm, .inr (4, [.int n, .int seas, .int cen, .ref qh, .ref qn]))]) [0, 1] rfl
  refine tx_callT (own := "SheetWarLaw") (C := "SheetWar") (As := [.int a, .int b]) (rest := [.int 0, .ref oq]) (hpc := 20) ⟨hx, hb, hml, hown, hts⟩ (c_Sw_border_t1 l D cI cZ cJ cS aT ceT h0 hm hh he ha hp ph qh qn n seas cen a b hno9 hfl) (cwV 2 hts (tb_4 wd_415 wd_416 wd_417 wd_1 (tb_c wd_418)) rfl rfl rfl ⟨rfl, by decide, by decide, by decide +kernel⟩ ⟨Nat.le_of_ble_eq_true rfl, Nat.le_of_ble_eq_true rfl⟩) (tP_V hK hX (hS.2.1 aT hXl hXn) hPc (q := 0) rfl rfl) rfl rfl hl.1 (Nat.le_of_ble_eq_true rfl) d_Lw_border_5 ⟨Nat.le_of_ble_eq_true rfl, Nat.le_of_ble_eq_true rfl⟩ (tx_H1 hTab ⟨by decide, by decide, by decide⟩ (hts _ wd_322)) (fun x9 H1 hz9 hk9 => ?_)
  have hP := tx_ext hP hk9
  have hS := tx_extS hS hz9 hk9
  clear hk9 hz9
  generalize H1 = H at hP hS ⊢
  refine W.widen (k := 1) (n := 6) (by omega) (by omega) ?_
  refine lv_astore (lv' := [(4, .ref x9), (0, .ref h0), (1, .int a), (2, .int b), (3, .ref oq)]) hx hb d_Lw_border_20 hl (by decide) rfl (fun ls hl => ?_)
  refine lv_iconst (v := 1) hx hb d_Lw_border_22 (by decide) ?_
  have hP9 := hP.sub (ws' := [(h0, .inr (5, [.ref hm, .ref hh, .ref he, .ref ha, .ref hp, .int ph])), (hm, .inr (4, [.int n, .int seas, .int cen, .ref qh, .ref qn]))]) [0, 1] rfl
  have hD9 := hD.sub (ws' := [(h0, .inr (5, [.ref hm, .ref hh, .ref he, .ref ha, .ref hp, .int ph])), (hm, .inr (4, [.int n, .int seas, .int cen, .ref qh, .ref qn]))]) [0, 1] (by decide) rfl
  refine W.widen (k := 1) (n := 6) (by omega) (by omega) ?_
  exact W.iret (v := 1) hx hb hr (fun t ht hW => ⟨⟨1, (), rfl, rfl, by rw [ht]; exact hP9, hD9⟩, hS.F ht⟩) hS.2.2 d_Lw_border_23

theorem d_Lw_unit_0 : decode b_Lw_unit 0 = .ok (.aload_n 0, 1) := by decide +kernel
theorem d_Lw_unit_1 : decode b_Lw_unit 1 = .ok (.iload_n 1, 1) := by decide +kernel
theorem d_Lw_unit_2 : decode b_Lw_unit 2 = .ok (.iload_n 2, 1) := by decide +kernel
theorem d_Lw_unit_3 : decode b_Lw_unit 3 = .ok (.iload_n 3, 1) := by decide +kernel
theorem d_Lw_unit_4 : decode b_Lw_unit 4 = .ok (.invokevirtual 21, 3) := by decide +kernel
theorem d_Lw_unit_7 : decode b_Lw_unit 7 = .ok (.goto 11, 3) := by decide +kernel
theorem d_Lw_unit_10 : decode b_Lw_unit 10 = .ok (.astore 4, 2) := by decide +kernel
theorem d_Lw_unit_12 : decode b_Lw_unit 12 = .ok (.iconst 1, 1) := by decide +kernel
theorem d_Lw_unit_13 : decode b_Lw_unit 13 = .ok (.ireturn, 1) := by decide +kernel
theorem d_Lw_unit_14 : decode b_Lw_unit 14 = .ok (.astore 4, 2) := by decide +kernel
theorem d_Lw_unit_16 : decode b_Lw_unit 16 = .ok (.iconst 2, 1) := by decide +kernel
theorem d_Lw_unit_17 : decode b_Lw_unit 17 = .ok (.ireturn, 1) := by decide +kernel
theorem d_Lw_unit_18 : decode b_Lw_unit 18 = .ok (.iconst 0, 1) := by decide +kernel
theorem d_Lw_unit_19 : decode b_Lw_unit 19 = .ok (.ireturn, 1) := by decide +kernel
theorem wd_426 : (Cond.methodLink "SheetWarLaw" (21 : Nat) ({ cls := "SheetWar", name := "unit", desc := "(III)V" } : MethodName)) ∈ TB := tb_t 426 (by decide +kernel) (by decide +kernel)
theorem wd_427 : (Cond.instanceMethod ({ cls := "SheetWar", name := "unit", desc := "(III)V" } : MethodName)) ∈ TB := tb_t 427 (by decide +kernel) (by decide +kernel)
theorem wd_428 : (Cond.selects "SheetWar" ({ cls := "SheetWar", name := "unit", desc := "(III)V" } : MethodName) ({ cls := "SheetWar", name := "unit", desc := "(III)V" } : MethodName)) ∈ TB := tb_t 428 (by decide +kernel) (by decide +kernel)
theorem wd_429 : (Cond.code ({ cls := "SheetWar", name := "unit", desc := "(III)V" } : MethodName) prog_1_method_4_code (4 : Nat) (Option.none : Option FieldType)) ∈ TB := tb_t 429 (by decide +kernel) (by decide +kernel)
set_option maxHeartbeats 4000000 in
set_option maxRecDepth 100000 in
theorem c_Lw_unit_1 (l : Launch) (D : va_G) (cI cZ cJ cS : ClassId) (aT : Nat) (ceT : Cell) (sz : Nat) (h0 hm hh he ha hp : Nat) (ph : Int32) (qh qn : Nat) (n seas cen : Int32) (a pl k : Int32) (hno9 : ¬ ((0 ≤ a ∧ a < n) ∧ (0 ≤ pl ∧ pl < 4) ∧ (k = 0 ∨ k = 1))) (hfl : l.flags = pinnedFlags ++ [noTraceFlag]) : Met l y_Lw_unit w_Lw_unit ({ frames := 7, cells := 1, slots := 6, locals := 105 }) (tH D cI cZ cJ cS aT ceT [.ref h0, .int a, .int pl, .int k] sz [(h0, .inr (5, [.ref hm, .ref hh, .ref he, .ref ha, .ref hp, .int ph])), (hm, .inr (4, [.int n, .int seas, .int cen, .ref qh, .ref qn]))]) (va_Qi (fun (r : Int32) (_ : Unit) => r = 1) (fun _ t => tB D (va_A [(h0, .inr (5, [.ref hm, .ref hh, .ref he, .ref ha, .ref hp, .int ph])), (hm, .inr (4, [.int n, .int seas, .int cen, .ref qh, .ref qn]))] sz) [(h0, .inr (5, [.ref hm, .ref hh, .ref he, .ref ha, .ref hp, .int ph])), (hm, .inr (4, [.int n, .int seas, .int cen, .ref qh, .ref qn]))] t) (va_A [(h0, .inr (5, [.ref hm, .ref hh, .ref he, .ref ha, .ref hp, .int ph])), (hm, .inr (4, [.int n, .int seas, .int cen, .ref qh, .ref qn]))] sz)) 1 6 (va_A [(h0, .inr (5, [.ref hm, .ref hh, .ref he, .ref ha, .ref hp, .int ph])), (hm, .inr (4, [.int n, .int seas, .int cen, .ref qh, .ref qn]))] sz) := by
  refine va_MetW (cc := b_Lw_unit) (maxL := 5) (ret := (some .int)) (hh := [(0, 7, 10, 13), (0, 7, 14, 15)]) (by decide) rfl ?_
  intro p e s m args below meth c s₁ B hml hv
  obtain ⟨rfl, hsz, hP, hK, hD0, hX⟩ := hv
  have hx := B.exec
  have hb := B.bytes
  have hr := B.returns
  have hts0 := atoms_spec (ws := w_Lw_unit) B.pre
  have hts : ∀ w ∈ TB, w.before _ s = true := fun w h => hts0 w (List.mem_cons_of_mem _ h)
  have hown : s.vm.findClass "SheetWarLaw" = some m.cls := findClass_of_methodNamed B.named
  have hlocks := B.notSynchronized
  have hTab := tx_tab B (hts0 _ (List.mem_cons_self ..))
  subst hsz
  have hXl := tx_lt hX
  have hXn := tx_far hP hX
  have hD := hD0.self (sz := s.heap.size)
  generalize hAe : va_A [(h0, .inr (5, [.ref hm, .ref hh, .ref he, .ref ha, .ref hp, .int ph])), (hm, .inr (4, [.int n, .int seas, .int cen, .ref qh, .ref qn]))] s.heap.size = A at hD hXn ⊢
  have hA : ∀ q : Nat, s.heap.size ≤ q → A q := fun q h => by rw [← hAe]; exact Or.inr h
  have hS : va_S A s.heap s.heap [] := va_S.rf
  have hXH : s.heap[aT]? = s.heap[aT]? := rfl
  have hl := lv_entry ([.ref h0, .int a, .int pl, .int k]) (n := 5) (Nat.le_of_ble_eq_true rfl)
  rw [lg_entry_eq]
  generalize (lg_sl ([.ref h0, .int a, .int pl, .int k]) ++ List.replicate (5 - (lg_sl ([.ref h0, .int a, .int pl, .int k])).length) Slot.unset).toArray = ls at hl ⊢
  have hl : lv_has ls 5 [(0, .ref h0), (1, .int a), (2, .int pl), (3, .int k)] := hl
  refine lv_aload_n hx hb d_Lw_unit_0 rfl (lv_at hl 0 rfl) ?_
  refine lv_iload_n hx hb d_Lw_unit_1 rfl (lv_at hl 1 rfl) ?_
  refine lv_iload_n hx hb d_Lw_unit_2 rfl (lv_at hl 2 rfl) ?_
  refine lv_iload_n hx hb d_Lw_unit_3 rfl (lv_at hl 3 rfl) ?_
  have hPc := hP.sub (ws' := [(h0, .inr (5, [.ref hm, .ref hh, .ref he, .ref ha, .ref hp, .int ph])), (hm, .inr (4, [.int n, .int seas, .int cen, .ref qh, .ref qn]))]) [0, 1] rfl
  refine tx_callT (own := "SheetWarLaw") (C := "SheetWar") (As := [.int a, .int pl, .int k]) (rest := []) (hpc := 10) ⟨hx, hb, hml, hown, hts⟩ (c_Sw_unit_t1 l D cI cZ cJ cS aT ceT h0 hm hh he ha hp ph qh qn n seas cen a pl k hno9 hfl) (cwV 3 hts (tb_4 wd_426 wd_427 wd_428 wd_1 (tb_c wd_429)) rfl rfl rfl ⟨rfl, by decide, by decide, by decide +kernel⟩ ⟨Nat.le_of_ble_eq_true rfl, Nat.le_of_ble_eq_true rfl⟩) (tP_V hK hX (hS.2.1 aT hXl hXn) hPc (q := 0) rfl rfl) rfl rfl hl.1 (Nat.le_of_ble_eq_true rfl) d_Lw_unit_4 ⟨Nat.le_of_ble_eq_true rfl, Nat.le_of_ble_eq_true rfl⟩ (tx_H1 hTab ⟨by decide, by decide, by decide⟩ (hts _ wd_322)) (fun x9 H1 hz9 hk9 => ?_)
  have hP := tx_ext hP hk9
  have hS := tx_extS hS hz9 hk9
  clear hk9 hz9
  generalize H1 = H at hP hS ⊢
  refine W.widen (k := 1) (n := 6) (by omega) (by omega) ?_
  refine lv_astore (lv' := [(4, .ref x9), (0, .ref h0), (1, .int a), (2, .int pl), (3, .int k)]) hx hb d_Lw_unit_10 hl (by decide) rfl (fun ls hl => ?_)
  refine lv_iconst (v := 1) hx hb d_Lw_unit_12 (by decide) ?_
  have hP9 := hP.sub (ws' := [(h0, .inr (5, [.ref hm, .ref hh, .ref he, .ref ha, .ref hp, .int ph])), (hm, .inr (4, [.int n, .int seas, .int cen, .ref qh, .ref qn]))]) [0, 1] rfl
  have hD9 := hD.sub (ws' := [(h0, .inr (5, [.ref hm, .ref hh, .ref he, .ref ha, .ref hp, .int ph])), (hm, .inr (4, [.int n, .int seas, .int cen, .ref qh, .ref qn]))]) [0, 1] (by decide) rfl
  refine W.widen (k := 1) (n := 6) (by omega) (by omega) ?_
  exact W.iret (v := 1) hx hb hr (fun t ht hW => ⟨⟨1, (), rfl, rfl, by rw [ht]; exact hP9, hD9⟩, hS.F ht⟩) hS.2.2 d_Lw_unit_13

theorem d_Lw_order_0 : decode b_Lw_order 0 = .ok (.aload 6, 2) := by decide +kernel
theorem d_Lw_order_2 : decode b_Lw_order 2 = .ok (.iconst 0, 1) := by decide +kernel
theorem d_Lw_order_3 : decode b_Lw_order 3 = .ok (.aload_n 0, 1) := by decide +kernel
theorem d_Lw_order_4 : decode b_Lw_order 4 = .ok (.iload_n 1, 1) := by decide +kernel
theorem d_Lw_order_5 : decode b_Lw_order 5 = .ok (.iload_n 2, 1) := by decide +kernel
theorem d_Lw_order_6 : decode b_Lw_order 6 = .ok (.iload_n 3, 1) := by decide +kernel
theorem d_Lw_order_7 : decode b_Lw_order 7 = .ok (.iload 4, 2) := by decide +kernel
theorem d_Lw_order_9 : decode b_Lw_order 9 = .ok (.iload 5, 2) := by decide +kernel
theorem d_Lw_order_11 : decode b_Lw_order 11 = .ok (.invokevirtual 28, 3) := by decide +kernel
theorem d_Lw_order_14 : decode b_Lw_order 14 = .ok (.i2l, 1) := by decide +kernel
theorem d_Lw_order_15 : decode b_Lw_order 15 = .ok (.lastore, 1) := by decide +kernel
theorem d_Lw_order_16 : decode b_Lw_order 16 = .ok (.goto 11, 3) := by decide +kernel
theorem d_Lw_order_19 : decode b_Lw_order 19 = .ok (.astore 7, 2) := by decide +kernel
theorem d_Lw_order_21 : decode b_Lw_order 21 = .ok (.iconst 1, 1) := by decide +kernel
theorem d_Lw_order_22 : decode b_Lw_order 22 = .ok (.ireturn, 1) := by decide +kernel
theorem d_Lw_order_23 : decode b_Lw_order 23 = .ok (.astore 7, 2) := by decide +kernel
theorem d_Lw_order_25 : decode b_Lw_order 25 = .ok (.iconst 2, 1) := by decide +kernel
theorem d_Lw_order_26 : decode b_Lw_order 26 = .ok (.ireturn, 1) := by decide +kernel
theorem d_Lw_order_27 : decode b_Lw_order 27 = .ok (.iconst 0, 1) := by decide +kernel
theorem d_Lw_order_28 : decode b_Lw_order 28 = .ok (.ireturn, 1) := by decide +kernel
theorem wd_455 : (Cond.methodLink "SheetWarLaw" (28 : Nat) ({ cls := "SheetWar", name := "order", desc := "(IIIII)I" } : MethodName)) ∈ TB := tb_t 455 (by decide +kernel) (by decide +kernel)
theorem wd_456 : (Cond.instanceMethod ({ cls := "SheetWar", name := "order", desc := "(IIIII)I" } : MethodName)) ∈ TB := tb_t 456 (by decide +kernel) (by decide +kernel)
theorem wd_457 : (Cond.selects "SheetWar" ({ cls := "SheetWar", name := "order", desc := "(IIIII)I" } : MethodName) ({ cls := "SheetWar", name := "order", desc := "(IIIII)I" } : MethodName)) ∈ TB := tb_t 457 (by decide +kernel) (by decide +kernel)
theorem wd_458 : (Cond.code ({ cls := "SheetWar", name := "order", desc := "(IIIII)I" } : MethodName) prog_1_method_6_code (6 : Nat) (Option.some FieldType.int)) ∈ TB := tb_t 458 (by decide +kernel) (by decide +kernel)
set_option maxHeartbeats 4000000 in
set_option maxRecDepth 100000 in
theorem c_Lw_order_0 (l : Launch) (D : va_G) (cI cZ cJ cS : ClassId) (aT : Nat) (ceT : Cell) (sz : Nat) (h0 hm hh he ha hp : Nat) (ph : Int32) (qh qn : Nat) (seas cen : Int32) (pl a k x y : Int32) (oq : Nat)  (hfl : l.flags = pinnedFlags ++ [noTraceFlag]) : Met l y_Lw_order w_Lw_order ({ frames := 7, cells := 1, slots := 6, locals := 107 }) (tH D cI cZ cJ cS aT ceT [.ref h0, .int pl, .int a, .int k, .int x, .int y, .ref oq] sz [(h0, .inr (5, [.ref hm, .ref hh, .ref he, .ref ha, .ref hp, .int ph])), (hm, .inr (4, [.int 0, .int seas, .int cen, .ref qh, .ref qn]))]) (va_Qi (fun (r : Int32) (_ : Unit) => r = 1) (fun _ t => tB D (va_A [(h0, .inr (5, [.ref hm, .ref hh, .ref he, .ref ha, .ref hp, .int ph])), (hm, .inr (4, [.int 0, .int seas, .int cen, .ref qh, .ref qn]))] sz) [(h0, .inr (5, [.ref hm, .ref hh, .ref he, .ref ha, .ref hp, .int ph])), (hm, .inr (4, [.int 0, .int seas, .int cen, .ref qh, .ref qn]))] t) (va_A [(h0, .inr (5, [.ref hm, .ref hh, .ref he, .ref ha, .ref hp, .int ph])), (hm, .inr (4, [.int 0, .int seas, .int cen, .ref qh, .ref qn]))] sz)) 1 6 (va_A [(h0, .inr (5, [.ref hm, .ref hh, .ref he, .ref ha, .ref hp, .int ph])), (hm, .inr (4, [.int 0, .int seas, .int cen, .ref qh, .ref qn]))] sz) := by
  refine va_MetW (cc := b_Lw_order) (maxL := 8) (ret := (some .int)) (hh := [(0, 16, 19, 13), (0, 16, 23, 15)]) (by decide) rfl ?_
  intro p e s m args below meth c s₁ B hml hv
  obtain ⟨rfl, hsz, hP, hK, hD0, hX⟩ := hv
  have hx := B.exec
  have hb := B.bytes
  have hr := B.returns
  have hts0 := atoms_spec (ws := w_Lw_order) B.pre
  have hts : ∀ w ∈ TB, w.before _ s = true := fun w h => hts0 w (List.mem_cons_of_mem _ h)
  have hown : s.vm.findClass "SheetWarLaw" = some m.cls := findClass_of_methodNamed B.named
  have hlocks := B.notSynchronized
  have hTab := tx_tab B (hts0 _ (List.mem_cons_self ..))
  subst hsz
  have hXl := tx_lt hX
  have hXn := tx_far hP hX
  have hD := hD0.self (sz := s.heap.size)
  generalize hAe : va_A [(h0, .inr (5, [.ref hm, .ref hh, .ref he, .ref ha, .ref hp, .int ph])), (hm, .inr (4, [.int 0, .int seas, .int cen, .ref qh, .ref qn]))] s.heap.size = A at hD hXn ⊢
  have hA : ∀ q : Nat, s.heap.size ≤ q → A q := fun q h => by rw [← hAe]; exact Or.inr h
  have hS : va_S A s.heap s.heap [] := va_S.rf
  have hXH : s.heap[aT]? = s.heap[aT]? := rfl
  have hl := lv_entry ([.ref h0, .int pl, .int a, .int k, .int x, .int y, .ref oq]) (n := 8) (Nat.le_of_ble_eq_true rfl)
  rw [lg_entry_eq]
  generalize (lg_sl ([.ref h0, .int pl, .int a, .int k, .int x, .int y, .ref oq]) ++ List.replicate (8 - (lg_sl ([.ref h0, .int pl, .int a, .int k, .int x, .int y, .ref oq])).length) Slot.unset).toArray = ls at hl ⊢
  have hl : lv_has ls 8 [(0, .ref h0), (1, .int pl), (2, .int a), (3, .int k), (4, .int x), (5, .int y), (6, .ref oq)] := hl
  refine lv_aload hx hb d_Lw_order_0 (lv_at hl 6 rfl) ?_
  refine lv_iconst (v := 0) hx hb d_Lw_order_2 (by decide) ?_
  refine lv_aload_n hx hb d_Lw_order_3 rfl (lv_at hl 0 rfl) ?_
  refine lv_iload_n hx hb d_Lw_order_4 rfl (lv_at hl 1 rfl) ?_
  refine lv_iload_n hx hb d_Lw_order_5 rfl (lv_at hl 2 rfl) ?_
  refine lv_iload_n hx hb d_Lw_order_6 rfl (lv_at hl 3 rfl) ?_
  refine lv_iload hx hb d_Lw_order_7 (lv_at hl 4 rfl) ?_
  refine lv_iload hx hb d_Lw_order_9 (lv_at hl 5 rfl) ?_
  have hPc := hP.sub (ws' := [(h0, .inr (5, [.ref hm, .ref hh, .ref he, .ref ha, .ref hp, .int ph])), (hm, .inr (4, [.int 0, .int seas, .int cen, .ref qh, .ref qn]))]) [0, 1] rfl
  refine tx_callT (own := "SheetWarLaw") (C := "SheetWar") (As := [.int pl, .int a, .int k, .int x, .int y]) (rest := [.int 0, .ref oq]) (hpc := 19) ⟨hx, hb, hml, hown, hts⟩ (c_Sw_order_t0 l D cI cZ cJ cS aT ceT h0 hm hh he ha hp ph qh qn seas cen pl a k x y  hfl) (cwV 5 hts (tb_4 wd_455 wd_456 wd_457 wd_1 (tb_c wd_458)) rfl rfl rfl ⟨rfl, by decide, by decide, by decide +kernel⟩ ⟨Nat.le_of_ble_eq_true rfl, Nat.le_of_ble_eq_true rfl⟩) (tP_V hK hX (hS.2.1 aT hXl hXn) hPc (q := 0) rfl rfl) rfl rfl hl.1 (Nat.le_of_ble_eq_true rfl) d_Lw_order_11 ⟨Nat.le_of_ble_eq_true rfl, Nat.le_of_ble_eq_true rfl⟩ (tx_H1 hTab ⟨by decide, by decide, by decide⟩ (hts _ wd_322)) (fun x9 H1 hz9 hk9 => ?_)
  have hP := tx_ext hP hk9
  have hS := tx_extS hS hz9 hk9
  clear hk9 hz9
  generalize H1 = H at hP hS ⊢
  refine W.widen (k := 1) (n := 6) (by omega) (by omega) ?_
  refine lv_astore (lv' := [(7, .ref x9), (0, .ref h0), (1, .int pl), (2, .int a), (3, .int k), (4, .int x), (5, .int y), (6, .ref oq)]) hx hb d_Lw_order_19 hl (by decide) rfl (fun ls hl => ?_)
  refine lv_iconst (v := 1) hx hb d_Lw_order_21 (by decide) ?_
  have hP9 := hP.sub (ws' := [(h0, .inr (5, [.ref hm, .ref hh, .ref he, .ref ha, .ref hp, .int ph])), (hm, .inr (4, [.int 0, .int seas, .int cen, .ref qh, .ref qn]))]) [0, 1] rfl
  have hD9 := hD.sub (ws' := [(h0, .inr (5, [.ref hm, .ref hh, .ref he, .ref ha, .ref hp, .int ph])), (hm, .inr (4, [.int 0, .int seas, .int cen, .ref qh, .ref qn]))]) [0, 1] (by decide) rfl
  refine W.widen (k := 1) (n := 6) (by omega) (by omega) ?_
  exact W.iret (v := 1) hx hb hr (fun t ht hW => ⟨⟨1, (), rfl, rfl, by rw [ht]; exact hP9, hD9⟩, hS.F ht⟩) hS.2.2 d_Lw_order_22

theorem d_Lw_resolve_0 : decode b_Lw_resolve 0 = .ok (.aload_n 1, 1) := by decide +kernel
theorem d_Lw_resolve_1 : decode b_Lw_resolve 1 = .ok (.iconst 0, 1) := by decide +kernel
theorem d_Lw_resolve_2 : decode b_Lw_resolve 2 = .ok (.aload_n 0, 1) := by decide +kernel
theorem d_Lw_resolve_3 : decode b_Lw_resolve 3 = .ok (.invokevirtual 32, 3) := by decide +kernel
theorem d_Lw_resolve_6 : decode b_Lw_resolve 6 = .ok (.i2l, 1) := by decide +kernel
theorem d_Lw_resolve_7 : decode b_Lw_resolve 7 = .ok (.lastore, 1) := by decide +kernel
theorem d_Lw_resolve_8 : decode b_Lw_resolve 8 = .ok (.goto 6, 3) := by decide +kernel
theorem d_Lw_resolve_11 : decode b_Lw_resolve 11 = .ok (.astore_n 2, 1) := by decide +kernel
theorem d_Lw_resolve_12 : decode b_Lw_resolve 12 = .ok (.iconst 1, 1) := by decide +kernel
theorem d_Lw_resolve_13 : decode b_Lw_resolve 13 = .ok (.ireturn, 1) := by decide +kernel
theorem d_Lw_resolve_14 : decode b_Lw_resolve 14 = .ok (.iconst 0, 1) := by decide +kernel
theorem d_Lw_resolve_15 : decode b_Lw_resolve 15 = .ok (.ireturn, 1) := by decide +kernel
theorem wd_323 : (Cond.classLink "SheetWarLaw" (15 : Nat) "java/lang/IllegalStateException") ∈ TB := tb_t 323 (by decide +kernel) (by decide +kernel)
theorem wd_490 : (Cond.methodLink "SheetWarLaw" (32 : Nat) ({ cls := "SheetWar", name := "resolve", desc := "()I" } : MethodName)) ∈ TB := tb_t 490 (by decide +kernel) (by decide +kernel)
theorem wd_491 : (Cond.instanceMethod ({ cls := "SheetWar", name := "resolve", desc := "()I" } : MethodName)) ∈ TB := tb_t 491 (by decide +kernel) (by decide +kernel)
theorem wd_492 : (Cond.selects "SheetWar" ({ cls := "SheetWar", name := "resolve", desc := "()I" } : MethodName) ({ cls := "SheetWar", name := "resolve", desc := "()I" } : MethodName)) ∈ TB := tb_t 492 (by decide +kernel) (by decide +kernel)
theorem wd_493 : (Cond.code ({ cls := "SheetWar", name := "resolve", desc := "()I" } : MethodName) prog_1_method_7_code (1 : Nat) (Option.some FieldType.int)) ∈ TB := tb_t 493 (by decide +kernel) (by decide +kernel)
set_option maxHeartbeats 4000000 in
set_option maxRecDepth 100000 in
theorem c_Lw_resolve_1 (l : Launch) (D : va_G) (cI cZ cJ cS : ClassId) (aT : Nat) (ceT : Cell) (sz : Nat) (h0 hm hh he ha hp : Nat) (ph : Int32) (oq : Nat) (hph : ¬ ph = 1) (hfl : l.flags = pinnedFlags ++ [noTraceFlag]) : Met l y_Lw_resolve w_Lw_resolve ({ frames := 7, cells := 1, slots := 6, locals := 102 }) (tH D cI cZ cJ cS aT ceT [.ref h0, .ref oq] sz [(h0, .inr (5, [.ref hm, .ref hh, .ref he, .ref ha, .ref hp, .int ph]))]) (va_Qi (fun (r : Int32) (_ : Unit) => r = 1) (fun _ t => tB D (va_A [(h0, .inr (5, [.ref hm, .ref hh, .ref he, .ref ha, .ref hp, .int ph]))] sz) [(h0, .inr (5, [.ref hm, .ref hh, .ref he, .ref ha, .ref hp, .int ph]))] t) (va_A [(h0, .inr (5, [.ref hm, .ref hh, .ref he, .ref ha, .ref hp, .int ph]))] sz)) 1 6 (va_A [(h0, .inr (5, [.ref hm, .ref hh, .ref he, .ref ha, .ref hp, .int ph]))] sz) := by
  refine va_MetW (cc := b_Lw_resolve) (maxL := 3) (ret := (some .int)) (hh := [(0, 8, 11, 15)]) (by decide) rfl ?_
  intro p e s m args below meth c s₁ B hml hv
  obtain ⟨rfl, hsz, hP, hK, hD0, hX⟩ := hv
  have hx := B.exec
  have hb := B.bytes
  have hr := B.returns
  have hts0 := atoms_spec (ws := w_Lw_resolve) B.pre
  have hts : ∀ w ∈ TB, w.before _ s = true := fun w h => hts0 w (List.mem_cons_of_mem _ h)
  have hown : s.vm.findClass "SheetWarLaw" = some m.cls := findClass_of_methodNamed B.named
  have hlocks := B.notSynchronized
  have hTab := tx_tab B (hts0 _ (List.mem_cons_self ..))
  subst hsz
  have hXl := tx_lt hX
  have hXn := tx_far hP hX
  have hD := hD0.self (sz := s.heap.size)
  generalize hAe : va_A [(h0, .inr (5, [.ref hm, .ref hh, .ref he, .ref ha, .ref hp, .int ph]))] s.heap.size = A at hD hXn ⊢
  have hA : ∀ q : Nat, s.heap.size ≤ q → A q := fun q h => by rw [← hAe]; exact Or.inr h
  have hS : va_S A s.heap s.heap [] := va_S.rf
  have hXH : s.heap[aT]? = s.heap[aT]? := rfl
  have hl := lv_entry ([.ref h0, .ref oq]) (n := 3) (Nat.le_of_ble_eq_true rfl)
  rw [lg_entry_eq]
  generalize (lg_sl ([.ref h0, .ref oq]) ++ List.replicate (3 - (lg_sl ([.ref h0, .ref oq])).length) Slot.unset).toArray = ls at hl ⊢
  have hl : lv_has ls 3 [(0, .ref h0), (1, .ref oq)] := hl
  refine lv_aload_n hx hb d_Lw_resolve_0 rfl (lv_at hl 1 rfl) ?_
  refine lv_iconst (v := 0) hx hb d_Lw_resolve_1 (by decide) ?_
  refine lv_aload_n hx hb d_Lw_resolve_2 rfl (lv_at hl 0 rfl) ?_
  have hPc := hP.sub (ws' := [(h0, .inr (5, [.ref hm, .ref hh, .ref he, .ref ha, .ref hp, .int ph]))]) [0] rfl
  refine tx_callT (own := "SheetWarLaw") (C := "SheetWar") (As := []) (rest := [.int 0, .ref oq]) (hpc := 11) ⟨hx, hb, hml, hown, hts⟩ (c_Sw_resolve_t2 l D cI cZ cJ cS aT ceT h0 hm hh he ha hp ph hph hfl) (cwV 0 hts (tb_4 wd_490 wd_491 wd_492 wd_1 (tb_c wd_493)) rfl rfl rfl ⟨rfl, by decide, by decide, by decide +kernel⟩ ⟨Nat.le_of_ble_eq_true rfl, Nat.le_of_ble_eq_true rfl⟩) (tP_V hK hX (hS.2.1 aT hXl hXn) hPc (q := 0) rfl rfl) rfl rfl hl.1 (Nat.le_of_ble_eq_true rfl) d_Lw_resolve_3 ⟨Nat.le_of_ble_eq_true rfl, Nat.le_of_ble_eq_true rfl⟩ (tx_H1 hTab ⟨by decide, by decide, by decide⟩ (hts _ wd_323)) (fun x9 H1 hz9 hk9 => ?_)
  have hP := tx_ext hP hk9
  have hS := tx_extS hS hz9 hk9
  clear hk9 hz9
  generalize H1 = H at hP hS ⊢
  refine W.widen (k := 1) (n := 6) (by omega) (by omega) ?_
  refine lv_astore_n (lv' := [(2, .ref x9), (0, .ref h0), (1, .ref oq)]) hx hb d_Lw_resolve_11 rfl hl (by decide) rfl (fun ls hl => ?_)
  refine lv_iconst (v := 1) hx hb d_Lw_resolve_12 (by decide) ?_
  have hP9 := hP.sub (ws' := [(h0, .inr (5, [.ref hm, .ref hh, .ref he, .ref ha, .ref hp, .int ph]))]) [0] rfl
  have hD9 := hD.sub (ws' := [(h0, .inr (5, [.ref hm, .ref hh, .ref he, .ref ha, .ref hp, .int ph]))]) [0] (by decide) rfl
  refine W.widen (k := 1) (n := 6) (by omega) (by omega) ?_
  exact W.iret (v := 1) hx hb hr (fun t ht hW => ⟨⟨1, (), rfl, rfl, by rw [ht]; exact hP9, hD9⟩, hS.F ht⟩) hS.2.2 d_Lw_resolve_13

theorem d_Lw_retreat_0 : decode b_Lw_retreat 0 = .ok (.aload 4, 2) := by decide +kernel
theorem d_Lw_retreat_2 : decode b_Lw_retreat 2 = .ok (.iconst 0, 1) := by decide +kernel
theorem d_Lw_retreat_3 : decode b_Lw_retreat 3 = .ok (.aload_n 0, 1) := by decide +kernel
theorem d_Lw_retreat_4 : decode b_Lw_retreat 4 = .ok (.iload_n 1, 1) := by decide +kernel
theorem d_Lw_retreat_5 : decode b_Lw_retreat 5 = .ok (.iload_n 2, 1) := by decide +kernel
theorem d_Lw_retreat_6 : decode b_Lw_retreat 6 = .ok (.iload_n 3, 1) := by decide +kernel
theorem d_Lw_retreat_7 : decode b_Lw_retreat 7 = .ok (.invokevirtual 36, 3) := by decide +kernel
theorem d_Lw_retreat_10 : decode b_Lw_retreat 10 = .ok (.i2l, 1) := by decide +kernel
theorem d_Lw_retreat_11 : decode b_Lw_retreat 11 = .ok (.lastore, 1) := by decide +kernel
theorem d_Lw_retreat_12 : decode b_Lw_retreat 12 = .ok (.goto 11, 3) := by decide +kernel
theorem d_Lw_retreat_15 : decode b_Lw_retreat 15 = .ok (.astore 5, 2) := by decide +kernel
theorem d_Lw_retreat_17 : decode b_Lw_retreat 17 = .ok (.iconst 1, 1) := by decide +kernel
theorem d_Lw_retreat_18 : decode b_Lw_retreat 18 = .ok (.ireturn, 1) := by decide +kernel
theorem d_Lw_retreat_19 : decode b_Lw_retreat 19 = .ok (.astore 5, 2) := by decide +kernel
theorem d_Lw_retreat_21 : decode b_Lw_retreat 21 = .ok (.iconst 2, 1) := by decide +kernel
theorem d_Lw_retreat_22 : decode b_Lw_retreat 22 = .ok (.ireturn, 1) := by decide +kernel
theorem d_Lw_retreat_23 : decode b_Lw_retreat 23 = .ok (.iconst 0, 1) := by decide +kernel
theorem d_Lw_retreat_24 : decode b_Lw_retreat 24 = .ok (.ireturn, 1) := by decide +kernel
theorem wd_659 : (Cond.methodLink "SheetWarLaw" (36 : Nat) ({ cls := "SheetWar", name := "retreat", desc := "(III)I" } : MethodName)) ∈ TB := tb_t 659 (by decide +kernel) (by decide +kernel)
theorem wd_660 : (Cond.instanceMethod ({ cls := "SheetWar", name := "retreat", desc := "(III)I" } : MethodName)) ∈ TB := tb_t 660 (by decide +kernel) (by decide +kernel)
theorem wd_661 : (Cond.selects "SheetWar" ({ cls := "SheetWar", name := "retreat", desc := "(III)I" } : MethodName) ({ cls := "SheetWar", name := "retreat", desc := "(III)I" } : MethodName)) ∈ TB := tb_t 661 (by decide +kernel) (by decide +kernel)
theorem wd_662 : (Cond.code ({ cls := "SheetWar", name := "retreat", desc := "(III)I" } : MethodName) prog_1_method_9_code (4 : Nat) (Option.some FieldType.int)) ∈ TB := tb_t 662 (by decide +kernel) (by decide +kernel)
set_option maxHeartbeats 4000000 in
set_option maxRecDepth 100000 in
theorem c_Lw_retreat_0 (l : Launch) (D : va_G) (cI cZ cJ cS : ClassId) (aT : Nat) (ceT : Cell) (sz : Nat) (h0 hm hh he ha hp : Nat) (ph : Int32) (qh qn : Nat) (seas cen : Int32) (pl a b : Int32) (oq : Nat)  (hfl : l.flags = pinnedFlags ++ [noTraceFlag]) : Met l y_Lw_retreat w_Lw_retreat ({ frames := 7, cells := 1, slots := 6, locals := 105 }) (tH D cI cZ cJ cS aT ceT [.ref h0, .int pl, .int a, .int b, .ref oq] sz [(h0, .inr (5, [.ref hm, .ref hh, .ref he, .ref ha, .ref hp, .int ph])), (hm, .inr (4, [.int 0, .int seas, .int cen, .ref qh, .ref qn]))]) (va_Qi (fun (r : Int32) (_ : Unit) => r = 1) (fun _ t => tB D (va_A [(h0, .inr (5, [.ref hm, .ref hh, .ref he, .ref ha, .ref hp, .int ph])), (hm, .inr (4, [.int 0, .int seas, .int cen, .ref qh, .ref qn]))] sz) [(h0, .inr (5, [.ref hm, .ref hh, .ref he, .ref ha, .ref hp, .int ph])), (hm, .inr (4, [.int 0, .int seas, .int cen, .ref qh, .ref qn]))] t) (va_A [(h0, .inr (5, [.ref hm, .ref hh, .ref he, .ref ha, .ref hp, .int ph])), (hm, .inr (4, [.int 0, .int seas, .int cen, .ref qh, .ref qn]))] sz)) 1 6 (va_A [(h0, .inr (5, [.ref hm, .ref hh, .ref he, .ref ha, .ref hp, .int ph])), (hm, .inr (4, [.int 0, .int seas, .int cen, .ref qh, .ref qn]))] sz) := by
  refine va_MetW (cc := b_Lw_retreat) (maxL := 6) (ret := (some .int)) (hh := [(0, 12, 15, 13), (0, 12, 19, 15)]) (by decide) rfl ?_
  intro p e s m args below meth c s₁ B hml hv
  obtain ⟨rfl, hsz, hP, hK, hD0, hX⟩ := hv
  have hx := B.exec
  have hb := B.bytes
  have hr := B.returns
  have hts0 := atoms_spec (ws := w_Lw_retreat) B.pre
  have hts : ∀ w ∈ TB, w.before _ s = true := fun w h => hts0 w (List.mem_cons_of_mem _ h)
  have hown : s.vm.findClass "SheetWarLaw" = some m.cls := findClass_of_methodNamed B.named
  have hlocks := B.notSynchronized
  have hTab := tx_tab B (hts0 _ (List.mem_cons_self ..))
  subst hsz
  have hXl := tx_lt hX
  have hXn := tx_far hP hX
  have hD := hD0.self (sz := s.heap.size)
  generalize hAe : va_A [(h0, .inr (5, [.ref hm, .ref hh, .ref he, .ref ha, .ref hp, .int ph])), (hm, .inr (4, [.int 0, .int seas, .int cen, .ref qh, .ref qn]))] s.heap.size = A at hD hXn ⊢
  have hA : ∀ q : Nat, s.heap.size ≤ q → A q := fun q h => by rw [← hAe]; exact Or.inr h
  have hS : va_S A s.heap s.heap [] := va_S.rf
  have hXH : s.heap[aT]? = s.heap[aT]? := rfl
  have hl := lv_entry ([.ref h0, .int pl, .int a, .int b, .ref oq]) (n := 6) (Nat.le_of_ble_eq_true rfl)
  rw [lg_entry_eq]
  generalize (lg_sl ([.ref h0, .int pl, .int a, .int b, .ref oq]) ++ List.replicate (6 - (lg_sl ([.ref h0, .int pl, .int a, .int b, .ref oq])).length) Slot.unset).toArray = ls at hl ⊢
  have hl : lv_has ls 6 [(0, .ref h0), (1, .int pl), (2, .int a), (3, .int b), (4, .ref oq)] := hl
  refine lv_aload hx hb d_Lw_retreat_0 (lv_at hl 4 rfl) ?_
  refine lv_iconst (v := 0) hx hb d_Lw_retreat_2 (by decide) ?_
  refine lv_aload_n hx hb d_Lw_retreat_3 rfl (lv_at hl 0 rfl) ?_
  refine lv_iload_n hx hb d_Lw_retreat_4 rfl (lv_at hl 1 rfl) ?_
  refine lv_iload_n hx hb d_Lw_retreat_5 rfl (lv_at hl 2 rfl) ?_
  refine lv_iload_n hx hb d_Lw_retreat_6 rfl (lv_at hl 3 rfl) ?_
  have hPc := hP.sub (ws' := [(h0, .inr (5, [.ref hm, .ref hh, .ref he, .ref ha, .ref hp, .int ph])), (hm, .inr (4, [.int 0, .int seas, .int cen, .ref qh, .ref qn]))]) [0, 1] rfl
  refine tx_callT (own := "SheetWarLaw") (C := "SheetWar") (As := [.int pl, .int a, .int b]) (rest := [.int 0, .ref oq]) (hpc := 15) ⟨hx, hb, hml, hown, hts⟩ (c_Sw_retreat_t0 l D cI cZ cJ cS aT ceT h0 hm hh he ha hp ph qh qn seas cen pl a b  hfl) (cwV 3 hts (tb_4 wd_659 wd_660 wd_661 wd_1 (tb_c wd_662)) rfl rfl rfl ⟨rfl, by decide, by decide, by decide +kernel⟩ ⟨Nat.le_of_ble_eq_true rfl, Nat.le_of_ble_eq_true rfl⟩) (tP_V hK hX (hS.2.1 aT hXl hXn) hPc (q := 0) rfl rfl) rfl rfl hl.1 (Nat.le_of_ble_eq_true rfl) d_Lw_retreat_7 ⟨Nat.le_of_ble_eq_true rfl, Nat.le_of_ble_eq_true rfl⟩ (tx_H1 hTab ⟨by decide, by decide, by decide⟩ (hts _ wd_322)) (fun x9 H1 hz9 hk9 => ?_)
  have hP := tx_ext hP hk9
  have hS := tx_extS hS hz9 hk9
  clear hk9 hz9
  generalize H1 = H at hP hS ⊢
  refine W.widen (k := 1) (n := 6) (by omega) (by omega) ?_
  refine lv_astore (lv' := [(5, .ref x9), (0, .ref h0), (1, .int pl), (2, .int a), (3, .int b), (4, .ref oq)]) hx hb d_Lw_retreat_15 hl (by decide) rfl (fun ls hl => ?_)
  refine lv_iconst (v := 1) hx hb d_Lw_retreat_17 (by decide) ?_
  have hP9 := hP.sub (ws' := [(h0, .inr (5, [.ref hm, .ref hh, .ref he, .ref ha, .ref hp, .int ph])), (hm, .inr (4, [.int 0, .int seas, .int cen, .ref qh, .ref qn]))]) [0, 1] rfl
  have hD9 := hD.sub (ws' := [(h0, .inr (5, [.ref hm, .ref hh, .ref he, .ref ha, .ref hp, .int ph])), (hm, .inr (4, [.int 0, .int seas, .int cen, .ref qh, .ref qn]))]) [0, 1] (by decide) rfl
  refine W.widen (k := 1) (n := 6) (by omega) (by omega) ?_
  exact W.iret (v := 1) hx hb hr (fun t ht hW => ⟨⟨1, (), rfl, rfl, by rw [ht]; exact hP9, hD9⟩, hS.F ht⟩) hS.2.2 d_Lw_retreat_18

theorem d_Lw_build_0 : decode b_Lw_build 0 = .ok (.aload 4, 2) := by decide +kernel
theorem d_Lw_build_2 : decode b_Lw_build 2 = .ok (.iconst 0, 1) := by decide +kernel
theorem d_Lw_build_3 : decode b_Lw_build 3 = .ok (.aload_n 0, 1) := by decide +kernel
theorem d_Lw_build_4 : decode b_Lw_build 4 = .ok (.iload_n 1, 1) := by decide +kernel
theorem d_Lw_build_5 : decode b_Lw_build 5 = .ok (.iload_n 2, 1) := by decide +kernel
theorem d_Lw_build_6 : decode b_Lw_build 6 = .ok (.iload_n 3, 1) := by decide +kernel
theorem d_Lw_build_7 : decode b_Lw_build 7 = .ok (.invokevirtual 40, 3) := by decide +kernel
theorem d_Lw_build_10 : decode b_Lw_build 10 = .ok (.i2l, 1) := by decide +kernel
theorem d_Lw_build_11 : decode b_Lw_build 11 = .ok (.lastore, 1) := by decide +kernel
theorem d_Lw_build_12 : decode b_Lw_build 12 = .ok (.goto 11, 3) := by decide +kernel
theorem d_Lw_build_15 : decode b_Lw_build 15 = .ok (.astore 5, 2) := by decide +kernel
theorem d_Lw_build_17 : decode b_Lw_build 17 = .ok (.iconst 1, 1) := by decide +kernel
theorem d_Lw_build_18 : decode b_Lw_build 18 = .ok (.ireturn, 1) := by decide +kernel
theorem d_Lw_build_19 : decode b_Lw_build 19 = .ok (.astore 5, 2) := by decide +kernel
theorem d_Lw_build_21 : decode b_Lw_build 21 = .ok (.iconst 2, 1) := by decide +kernel
theorem d_Lw_build_22 : decode b_Lw_build 22 = .ok (.ireturn, 1) := by decide +kernel
theorem d_Lw_build_23 : decode b_Lw_build 23 = .ok (.iconst 0, 1) := by decide +kernel
theorem d_Lw_build_24 : decode b_Lw_build 24 = .ok (.ireturn, 1) := by decide +kernel
theorem wd_666 : (Cond.methodLink "SheetWarLaw" (40 : Nat) ({ cls := "SheetWar", name := "build", desc := "(III)I" } : MethodName)) ∈ TB := tb_t 666 (by decide +kernel) (by decide +kernel)
theorem wd_667 : (Cond.instanceMethod ({ cls := "SheetWar", name := "build", desc := "(III)I" } : MethodName)) ∈ TB := tb_t 667 (by decide +kernel) (by decide +kernel)
theorem wd_668 : (Cond.selects "SheetWar" ({ cls := "SheetWar", name := "build", desc := "(III)I" } : MethodName) ({ cls := "SheetWar", name := "build", desc := "(III)I" } : MethodName)) ∈ TB := tb_t 668 (by decide +kernel) (by decide +kernel)
theorem wd_669 : (Cond.code ({ cls := "SheetWar", name := "build", desc := "(III)I" } : MethodName) prog_1_method_10_code (4 : Nat) (Option.some FieldType.int)) ∈ TB := tb_t 669 (by decide +kernel) (by decide +kernel)
set_option maxHeartbeats 4000000 in
set_option maxRecDepth 100000 in
theorem c_Lw_build_0 (l : Launch) (D : va_G) (cI cZ cJ cS : ClassId) (aT : Nat) (ceT : Cell) (sz : Nat) (h0 hm hh he ha hp : Nat) (ph : Int32) (qh qn : Nat) (seas cen : Int32) (pl a b : Int32) (oq : Nat)  (hfl : l.flags = pinnedFlags ++ [noTraceFlag]) : Met l y_Lw_build w_Lw_build ({ frames := 7, cells := 1, slots := 6, locals := 105 }) (tH D cI cZ cJ cS aT ceT [.ref h0, .int pl, .int a, .int b, .ref oq] sz [(h0, .inr (5, [.ref hm, .ref hh, .ref he, .ref ha, .ref hp, .int ph])), (hm, .inr (4, [.int 0, .int seas, .int cen, .ref qh, .ref qn]))]) (va_Qi (fun (r : Int32) (_ : Unit) => r = 1) (fun _ t => tB D (va_A [(h0, .inr (5, [.ref hm, .ref hh, .ref he, .ref ha, .ref hp, .int ph])), (hm, .inr (4, [.int 0, .int seas, .int cen, .ref qh, .ref qn]))] sz) [(h0, .inr (5, [.ref hm, .ref hh, .ref he, .ref ha, .ref hp, .int ph])), (hm, .inr (4, [.int 0, .int seas, .int cen, .ref qh, .ref qn]))] t) (va_A [(h0, .inr (5, [.ref hm, .ref hh, .ref he, .ref ha, .ref hp, .int ph])), (hm, .inr (4, [.int 0, .int seas, .int cen, .ref qh, .ref qn]))] sz)) 1 6 (va_A [(h0, .inr (5, [.ref hm, .ref hh, .ref he, .ref ha, .ref hp, .int ph])), (hm, .inr (4, [.int 0, .int seas, .int cen, .ref qh, .ref qn]))] sz) := by
  refine va_MetW (cc := b_Lw_build) (maxL := 6) (ret := (some .int)) (hh := [(0, 12, 15, 13), (0, 12, 19, 15)]) (by decide) rfl ?_
  intro p e s m args below meth c s₁ B hml hv
  obtain ⟨rfl, hsz, hP, hK, hD0, hX⟩ := hv
  have hx := B.exec
  have hb := B.bytes
  have hr := B.returns
  have hts0 := atoms_spec (ws := w_Lw_build) B.pre
  have hts : ∀ w ∈ TB, w.before _ s = true := fun w h => hts0 w (List.mem_cons_of_mem _ h)
  have hown : s.vm.findClass "SheetWarLaw" = some m.cls := findClass_of_methodNamed B.named
  have hlocks := B.notSynchronized
  have hTab := tx_tab B (hts0 _ (List.mem_cons_self ..))
  subst hsz
  have hXl := tx_lt hX
  have hXn := tx_far hP hX
  have hD := hD0.self (sz := s.heap.size)
  generalize hAe : va_A [(h0, .inr (5, [.ref hm, .ref hh, .ref he, .ref ha, .ref hp, .int ph])), (hm, .inr (4, [.int 0, .int seas, .int cen, .ref qh, .ref qn]))] s.heap.size = A at hD hXn ⊢
  have hA : ∀ q : Nat, s.heap.size ≤ q → A q := fun q h => by rw [← hAe]; exact Or.inr h
  have hS : va_S A s.heap s.heap [] := va_S.rf
  have hXH : s.heap[aT]? = s.heap[aT]? := rfl
  have hl := lv_entry ([.ref h0, .int pl, .int a, .int b, .ref oq]) (n := 6) (Nat.le_of_ble_eq_true rfl)
  rw [lg_entry_eq]
  generalize (lg_sl ([.ref h0, .int pl, .int a, .int b, .ref oq]) ++ List.replicate (6 - (lg_sl ([.ref h0, .int pl, .int a, .int b, .ref oq])).length) Slot.unset).toArray = ls at hl ⊢
  have hl : lv_has ls 6 [(0, .ref h0), (1, .int pl), (2, .int a), (3, .int b), (4, .ref oq)] := hl
  refine lv_aload hx hb d_Lw_build_0 (lv_at hl 4 rfl) ?_
  refine lv_iconst (v := 0) hx hb d_Lw_build_2 (by decide) ?_
  refine lv_aload_n hx hb d_Lw_build_3 rfl (lv_at hl 0 rfl) ?_
  refine lv_iload_n hx hb d_Lw_build_4 rfl (lv_at hl 1 rfl) ?_
  refine lv_iload_n hx hb d_Lw_build_5 rfl (lv_at hl 2 rfl) ?_
  refine lv_iload_n hx hb d_Lw_build_6 rfl (lv_at hl 3 rfl) ?_
  have hPc := hP.sub (ws' := [(h0, .inr (5, [.ref hm, .ref hh, .ref he, .ref ha, .ref hp, .int ph])), (hm, .inr (4, [.int 0, .int seas, .int cen, .ref qh, .ref qn]))]) [0, 1] rfl
  refine tx_callT (own := "SheetWarLaw") (C := "SheetWar") (As := [.int pl, .int a, .int b]) (rest := [.int 0, .ref oq]) (hpc := 15) ⟨hx, hb, hml, hown, hts⟩ (c_Sw_build_t0 l D cI cZ cJ cS aT ceT h0 hm hh he ha hp ph qh qn seas cen pl a b  hfl) (cwV 3 hts (tb_4 wd_666 wd_667 wd_668 wd_1 (tb_c wd_669)) rfl rfl rfl ⟨rfl, by decide, by decide, by decide +kernel⟩ ⟨Nat.le_of_ble_eq_true rfl, Nat.le_of_ble_eq_true rfl⟩) (tP_V hK hX (hS.2.1 aT hXl hXn) hPc (q := 0) rfl rfl) rfl rfl hl.1 (Nat.le_of_ble_eq_true rfl) d_Lw_build_7 ⟨Nat.le_of_ble_eq_true rfl, Nat.le_of_ble_eq_true rfl⟩ (tx_H1 hTab ⟨by decide, by decide, by decide⟩ (hts _ wd_322)) (fun x9 H1 hz9 hk9 => ?_)
  have hP := tx_ext hP hk9
  have hS := tx_extS hS hz9 hk9
  clear hk9 hz9
  generalize H1 = H at hP hS ⊢
  refine W.widen (k := 1) (n := 6) (by omega) (by omega) ?_
  refine lv_astore (lv' := [(5, .ref x9), (0, .ref h0), (1, .int pl), (2, .int a), (3, .int b), (4, .ref oq)]) hx hb d_Lw_build_15 hl (by decide) rfl (fun ls hl => ?_)
  refine lv_iconst (v := 1) hx hb d_Lw_build_17 (by decide) ?_
  have hP9 := hP.sub (ws' := [(h0, .inr (5, [.ref hm, .ref hh, .ref he, .ref ha, .ref hp, .int ph])), (hm, .inr (4, [.int 0, .int seas, .int cen, .ref qh, .ref qn]))]) [0, 1] rfl
  have hD9 := hD.sub (ws' := [(h0, .inr (5, [.ref hm, .ref hh, .ref he, .ref ha, .ref hp, .int ph])), (hm, .inr (4, [.int 0, .int seas, .int cen, .ref qh, .ref qn]))]) [0, 1] (by decide) rfl
  refine W.widen (k := 1) (n := 6) (by omega) (by omega) ?_
  exact W.iret (v := 1) hx hb hr (fun t ht hW => ⟨⟨1, (), rfl, rfl, by rw [ht]; exact hP9, hD9⟩, hS.F ht⟩) hS.2.2 d_Lw_build_18

theorem d_Lw_finish_0 : decode b_Lw_finish 0 = .ok (.aload_n 1, 1) := by decide +kernel
theorem d_Lw_finish_1 : decode b_Lw_finish 1 = .ok (.iconst 0, 1) := by decide +kernel
theorem d_Lw_finish_2 : decode b_Lw_finish 2 = .ok (.aload_n 0, 1) := by decide +kernel
theorem d_Lw_finish_3 : decode b_Lw_finish 3 = .ok (.invokevirtual 43, 3) := by decide +kernel
theorem d_Lw_finish_6 : decode b_Lw_finish 6 = .ok (.i2l, 1) := by decide +kernel
theorem d_Lw_finish_7 : decode b_Lw_finish 7 = .ok (.lastore, 1) := by decide +kernel
theorem d_Lw_finish_8 : decode b_Lw_finish 8 = .ok (.goto 6, 3) := by decide +kernel
theorem d_Lw_finish_11 : decode b_Lw_finish 11 = .ok (.astore_n 2, 1) := by decide +kernel
theorem d_Lw_finish_12 : decode b_Lw_finish 12 = .ok (.iconst 1, 1) := by decide +kernel
theorem d_Lw_finish_13 : decode b_Lw_finish 13 = .ok (.ireturn, 1) := by decide +kernel
theorem d_Lw_finish_14 : decode b_Lw_finish 14 = .ok (.iconst 0, 1) := by decide +kernel
theorem d_Lw_finish_15 : decode b_Lw_finish 15 = .ok (.ireturn, 1) := by decide +kernel
theorem wd_681 : (Cond.methodLink "SheetWarLaw" (43 : Nat) ({ cls := "SheetWar", name := "finish", desc := "()I" } : MethodName)) ∈ TB := tb_t 681 (by decide +kernel) (by decide +kernel)
theorem wd_682 : (Cond.instanceMethod ({ cls := "SheetWar", name := "finish", desc := "()I" } : MethodName)) ∈ TB := tb_t 682 (by decide +kernel) (by decide +kernel)
theorem wd_683 : (Cond.selects "SheetWar" ({ cls := "SheetWar", name := "finish", desc := "()I" } : MethodName) ({ cls := "SheetWar", name := "finish", desc := "()I" } : MethodName)) ∈ TB := tb_t 683 (by decide +kernel) (by decide +kernel)
theorem wd_684 : (Cond.code ({ cls := "SheetWar", name := "finish", desc := "()I" } : MethodName) prog_1_method_11_code (1 : Nat) (Option.some FieldType.int)) ∈ TB := tb_t 684 (by decide +kernel) (by decide +kernel)
set_option maxHeartbeats 4000000 in
set_option maxRecDepth 100000 in
theorem c_Lw_finish_1 (l : Launch) (D : va_G) (cI cZ cJ cS : ClassId) (aT : Nat) (ceT : Cell) (sz : Nat) (h0 hm hh he ha hp : Nat) (ph : Int32) (oq : Nat) (hph : ¬ ph = 2 ∧ ¬ ph = 3) (hfl : l.flags = pinnedFlags ++ [noTraceFlag]) : Met l y_Lw_finish w_Lw_finish ({ frames := 7, cells := 1, slots := 6, locals := 102 }) (tH D cI cZ cJ cS aT ceT [.ref h0, .ref oq] sz [(h0, .inr (5, [.ref hm, .ref hh, .ref he, .ref ha, .ref hp, .int ph]))]) (va_Qi (fun (r : Int32) (_ : Unit) => r = 1) (fun _ t => tB D (va_A [(h0, .inr (5, [.ref hm, .ref hh, .ref he, .ref ha, .ref hp, .int ph]))] sz) [(h0, .inr (5, [.ref hm, .ref hh, .ref he, .ref ha, .ref hp, .int ph]))] t) (va_A [(h0, .inr (5, [.ref hm, .ref hh, .ref he, .ref ha, .ref hp, .int ph]))] sz)) 1 6 (va_A [(h0, .inr (5, [.ref hm, .ref hh, .ref he, .ref ha, .ref hp, .int ph]))] sz) := by
  refine va_MetW (cc := b_Lw_finish) (maxL := 3) (ret := (some .int)) (hh := [(0, 8, 11, 15)]) (by decide) rfl ?_
  intro p e s m args below meth c s₁ B hml hv
  obtain ⟨rfl, hsz, hP, hK, hD0, hX⟩ := hv
  have hx := B.exec
  have hb := B.bytes
  have hr := B.returns
  have hts0 := atoms_spec (ws := w_Lw_finish) B.pre
  have hts : ∀ w ∈ TB, w.before _ s = true := fun w h => hts0 w (List.mem_cons_of_mem _ h)
  have hown : s.vm.findClass "SheetWarLaw" = some m.cls := findClass_of_methodNamed B.named
  have hlocks := B.notSynchronized
  have hTab := tx_tab B (hts0 _ (List.mem_cons_self ..))
  subst hsz
  have hXl := tx_lt hX
  have hXn := tx_far hP hX
  have hD := hD0.self (sz := s.heap.size)
  generalize hAe : va_A [(h0, .inr (5, [.ref hm, .ref hh, .ref he, .ref ha, .ref hp, .int ph]))] s.heap.size = A at hD hXn ⊢
  have hA : ∀ q : Nat, s.heap.size ≤ q → A q := fun q h => by rw [← hAe]; exact Or.inr h
  have hS : va_S A s.heap s.heap [] := va_S.rf
  have hXH : s.heap[aT]? = s.heap[aT]? := rfl
  have hl := lv_entry ([.ref h0, .ref oq]) (n := 3) (Nat.le_of_ble_eq_true rfl)
  rw [lg_entry_eq]
  generalize (lg_sl ([.ref h0, .ref oq]) ++ List.replicate (3 - (lg_sl ([.ref h0, .ref oq])).length) Slot.unset).toArray = ls at hl ⊢
  have hl : lv_has ls 3 [(0, .ref h0), (1, .ref oq)] := hl
  refine lv_aload_n hx hb d_Lw_finish_0 rfl (lv_at hl 1 rfl) ?_
  refine lv_iconst (v := 0) hx hb d_Lw_finish_1 (by decide) ?_
  refine lv_aload_n hx hb d_Lw_finish_2 rfl (lv_at hl 0 rfl) ?_
  have hPc := hP.sub (ws' := [(h0, .inr (5, [.ref hm, .ref hh, .ref he, .ref ha, .ref hp, .int ph]))]) [0] rfl
  refine tx_callT (own := "SheetWarLaw") (C := "SheetWar") (As := []) (rest := [.int 0, .ref oq]) (hpc := 11) ⟨hx, hb, hml, hown, hts⟩ (c_Sw_finish_t2 l D cI cZ cJ cS aT ceT h0 hm hh he ha hp ph hph hfl) (cwV 0 hts (tb_4 wd_681 wd_682 wd_683 wd_1 (tb_c wd_684)) rfl rfl rfl ⟨rfl, by decide, by decide, by decide +kernel⟩ ⟨Nat.le_of_ble_eq_true rfl, Nat.le_of_ble_eq_true rfl⟩) (tP_V hK hX (hS.2.1 aT hXl hXn) hPc (q := 0) rfl rfl) rfl rfl hl.1 (Nat.le_of_ble_eq_true rfl) d_Lw_finish_3 ⟨Nat.le_of_ble_eq_true rfl, Nat.le_of_ble_eq_true rfl⟩ (tx_H1 hTab ⟨by decide, by decide, by decide⟩ (hts _ wd_323)) (fun x9 H1 hz9 hk9 => ?_)
  have hP := tx_ext hP hk9
  have hS := tx_extS hS hz9 hk9
  clear hk9 hz9
  generalize H1 = H at hP hS ⊢
  refine W.widen (k := 1) (n := 6) (by omega) (by omega) ?_
  refine lv_astore_n (lv' := [(2, .ref x9), (0, .ref h0), (1, .ref oq)]) hx hb d_Lw_finish_11 rfl hl (by decide) rfl (fun ls hl => ?_)
  refine lv_iconst (v := 1) hx hb d_Lw_finish_12 (by decide) ?_
  have hP9 := hP.sub (ws' := [(h0, .inr (5, [.ref hm, .ref hh, .ref he, .ref ha, .ref hp, .int ph]))]) [0] rfl
  have hD9 := hD.sub (ws' := [(h0, .inr (5, [.ref hm, .ref hh, .ref he, .ref ha, .ref hp, .int ph]))]) [0] (by decide) rfl
  refine W.widen (k := 1) (n := 6) (by omega) (by omega) ?_
  exact W.iret (v := 1) hx hb hr (fun t ht hW => ⟨⟨1, (), rfl, rfl, by rw [ht]; exact hP9, hD9⟩, hS.F ht⟩) hS.2.2 d_Lw_finish_13

theorem d_Lw_start_0 : decode b_Lw_start 0 = .ok (.aload_n 0, 1) := by decide +kernel
theorem d_Lw_start_1 : decode b_Lw_start 1 = .ok (.invokevirtual 25, 3) := by decide +kernel
theorem d_Lw_start_4 : decode b_Lw_start 4 = .ok (.goto 6, 3) := by decide +kernel
theorem d_Lw_start_7 : decode b_Lw_start 7 = .ok (.astore_n 1, 1) := by decide +kernel
theorem d_Lw_start_8 : decode b_Lw_start 8 = .ok (.iconst 1, 1) := by decide +kernel
theorem d_Lw_start_9 : decode b_Lw_start 9 = .ok (.ireturn, 1) := by decide +kernel
theorem d_Lw_start_10 : decode b_Lw_start 10 = .ok (.iconst 0, 1) := by decide +kernel
theorem d_Lw_start_11 : decode b_Lw_start 11 = .ok (.ireturn, 1) := by decide +kernel
theorem wd_443 : (Cond.code ({ cls := "SheetWar", name := "start", desc := "()V" } : MethodName) prog_1_method_5_code (1 : Nat) (Option.none : Option FieldType)) ∈ TB := tb_t 443 (by decide +kernel) (by decide +kernel)
theorem wd_440 : (Cond.methodLink "SheetWarLaw" (25 : Nat) ({ cls := "SheetWar", name := "start", desc := "()V" } : MethodName)) ∈ TB := tb_t 440 (by decide +kernel) (by decide +kernel)
theorem wd_441 : (Cond.instanceMethod ({ cls := "SheetWar", name := "start", desc := "()V" } : MethodName)) ∈ TB := tb_t 441 (by decide +kernel) (by decide +kernel)
theorem wd_442 : (Cond.selects "SheetWar" ({ cls := "SheetWar", name := "start", desc := "()V" } : MethodName) ({ cls := "SheetWar", name := "start", desc := "()V" } : MethodName)) ∈ TB := tb_t 442 (by decide +kernel) (by decide +kernel)
set_option maxHeartbeats 4000000 in
set_option maxRecDepth 100000 in
theorem c_Lw_start_0 (l : Launch) (D : va_G) (cI cZ cJ cS : ClassId) (aT : Nat) (ceT : Cell) (sz : Nat) (h0 hm hh he ha hp : Nat) (tn : Int32) (qu qo qx qy qr qw : Nat) (fo fx fy : Nat → Int32)  : Met l y_Lw_start w_Lw_start ({ frames := 4, cells := 0, slots := 0, locals := 83 }) (tH D cI cZ cJ cS aT ceT [.ref h0] sz [(h0, .inr (5, [.ref hm, .ref hh, .ref he, .ref ha, .ref hp, .int 0])), (hh, .inr (3, [.int tn, .ref qu, .ref qo, .ref qx, .ref qy, .ref qr, .ref qw])), (qo, .inl (cI, 12, .inl fo)), (qx, .inl (cI, 12, .inl fx)), (qy, .inl (cI, 12, .inl fy))]) (va_Qi (fun (r : Int32) (_ : Unit) => r = 0) (fun _ t => tB D (va_A [(h0, .inr (5, [.ref hm, .ref hh, .ref he, .ref ha, .ref hp, .int 0])), (hh, .inr (3, [.int tn, .ref qu, .ref qo, .ref qx, .ref qy, .ref qr, .ref qw])), (qo, .inl (cI, 12, .inl fo)), (qx, .inl (cI, 12, .inl fx)), (qy, .inl (cI, 12, .inl fy))] sz) [(h0, .inr (5, [.ref hm, .ref hh, .ref he, .ref ha, .ref hp, .int 1])), (hh, .inr (3, [.int (tn + 1), .ref qu, .ref qo, .ref qx, .ref qy, .ref qr, .ref qw])), (qo, .inl (cI, 12, .inl (fun _ => 0))), (qx, .inl (cI, 12, .inl (fun _ => 0))), (qy, .inl (cI, 12, .inl (fun _ => 0)))] t) (va_A [(h0, .inr (5, [.ref hm, .ref hh, .ref he, .ref ha, .ref hp, .int 0])), (hh, .inr (3, [.int tn, .ref qu, .ref qo, .ref qx, .ref qy, .ref qr, .ref qw])), (qo, .inl (cI, 12, .inl fo)), (qx, .inl (cI, 12, .inl fx)), (qy, .inl (cI, 12, .inl fy))] sz)) 0 0 (va_A [(h0, .inr (5, [.ref hm, .ref hh, .ref he, .ref ha, .ref hp, .int 0])), (hh, .inr (3, [.int tn, .ref qu, .ref qo, .ref qx, .ref qy, .ref qr, .ref qw])), (qo, .inl (cI, 12, .inl fo)), (qx, .inl (cI, 12, .inl fx)), (qy, .inl (cI, 12, .inl fy))] sz) := by
  refine va_MetW (cc := b_Lw_start) (maxL := 2) (ret := (some .int)) (hh := [(0, 4, 7, 15)]) (by decide) rfl ?_
  intro p e s m args below meth c s₁ B hml hv
  obtain ⟨rfl, hsz, hP, hK, hD0, hX⟩ := hv
  have hx := B.exec
  have hb := B.bytes
  have hr := B.returns
  have hts0 := atoms_spec (ws := w_Lw_start) B.pre
  have hts : ∀ w ∈ TB, w.before _ s = true := fun w h => hts0 w (List.mem_cons_of_mem _ h)
  have hown : s.vm.findClass "SheetWarLaw" = some m.cls := findClass_of_methodNamed B.named
  have hlocks := B.notSynchronized
  have hTab := tx_tab B (hts0 _ (List.mem_cons_self ..))
  subst hsz
  have hXl := tx_lt hX
  have hXn := tx_far hP hX
  have hD := hD0.self (sz := s.heap.size)
  generalize hAe : va_A [(h0, .inr (5, [.ref hm, .ref hh, .ref he, .ref ha, .ref hp, .int 0])), (hh, .inr (3, [.int tn, .ref qu, .ref qo, .ref qx, .ref qy, .ref qr, .ref qw])), (qo, .inl (cI, 12, .inl fo)), (qx, .inl (cI, 12, .inl fx)), (qy, .inl (cI, 12, .inl fy))] s.heap.size = A at hD hXn ⊢
  have hA : ∀ q : Nat, s.heap.size ≤ q → A q := fun q h => by rw [← hAe]; exact Or.inr h
  have hS : va_S A s.heap s.heap [] := va_S.rf
  have hXH : s.heap[aT]? = s.heap[aT]? := rfl
  have hl := lv_entry ([.ref h0]) (n := 2) (Nat.le_of_ble_eq_true rfl)
  rw [lg_entry_eq]
  generalize (lg_sl ([.ref h0]) ++ List.replicate (2 - (lg_sl ([.ref h0])).length) Slot.unset).toArray = ls at hl ⊢
  have hl : lv_has ls 2 [(0, .ref h0)] := hl
  refine lv_aload_n hx hb d_Lw_start_0 rfl (lv_at hl 0 rfl) ?_
  have hPc := hP.sub (ws' := [(h0, .inr (5, [.ref hm, .ref hh, .ref he, .ref ha, .ref hp, .int 0])), (hh, .inr (3, [.int tn, .ref qu, .ref qo, .ref qx, .ref qy, .ref qr, .ref qw])), (qo, .inl (cI, 12, .inl fo)), (qx, .inl (cI, 12, .inl fx)), (qy, .inl (cI, 12, .inl fy))]) [0, 1, 2, 3, 4] rfl
  have hDc := hD.sub (ws' := [(h0, .inr (5, [.ref hm, .ref hh, .ref he, .ref ha, .ref hp, .int 0])), (hh, .inr (3, [.int tn, .ref qu, .ref qo, .ref qx, .ref qy, .ref qr, .ref qw])), (qo, .inl (cI, 12, .inl fo)), (qx, .inl (cI, 12, .inl fx)), (qy, .inl (cI, 12, .inl fy))]) [0, 1, 2, 3, 4] (by decide) rfl
  have hFc := va_free (wc := [(h0, .inr (5, [.ref hm, .ref hh, .ref he, .ref ha, .ref hp, .int 0])), (hh, .inr (3, [.int tn, .ref qu, .ref qo, .ref qx, .ref qy, .ref qr, .ref qw])), (qo, .inl (cI, 12, .inl fo)), (qx, .inl (cI, 12, .inl fx)), (qy, .inl (cI, 12, .inl fy))]) hD hS hA [0, 1, 2, 3, 4] rfl
  refine va_callv (va_runV (As := []) (rest := []) ⟨hx, hb, hml, hown, hts⟩ (c_Sw_start l D cI cZ cJ cS aT ceT s.heap.size h0 hm hh he ha hp tn qu qo qx qy qr qw fo fx fy ) (cwV 0 hts (tb_4 wd_440 wd_441 wd_442 wd_1 (tb_c wd_443)) rfl rfl rfl ⟨rfl, by decide, by decide, by decide +kernel⟩ ⟨Nat.le_of_ble_eq_true rfl, Nat.le_of_ble_eq_true rfl⟩) (tH_V hK hX (hS.2.1 aT hXl hXn) hPc hDc (q := 0) rfl rfl) rfl rfl hl.1 rfl (lv_room (Nat.le_of_ble_eq_true rfl)) d_Lw_start_1 ⟨Nat.le_of_ble_eq_true rfl, Nat.le_of_ble_eq_true rfl⟩) hS (fun q _ h => hFc q h) hFc (fun u t H1 locs ht hvm h9 hB hz1 hk1 hS => ?_)
  obtain ⟨hP1, hD1⟩ := hB
  rw [ht] at hP1
  obtain ⟨hP, hD⟩ := va_join (wr := []) (w1 := [(h0, .inr (5, [.ref hm, .ref hh, .ref he, .ref ha, .ref hp, .int 1])), (hh, .inr (3, [.int (tn + 1), .ref qu, .ref qo, .ref qx, .ref qy, .ref qr, .ref qw])), (qo, .inl (cI, 12, .inl (fun _ => 0))), (qx, .inl (cI, 12, .inl (fun _ => 0))), (qy, .inl (cI, 12, .inl (fun _ => 0)))]) hP hD [0, 1, 2, 3, 4] [] rfl rfl (by decide) (by decide) hk1 hFc hP1 hD1
  generalize H1 = H at hP hS ⊢
  have hP : va_P D vwCl [(h0, .inr (5, [.ref hm, .ref hh, .ref he, .ref ha, .ref hp, .int 1])), (hh, .inr (3, [.int (tn + 1), .ref qu, .ref qo, .ref qx, .ref qy, .ref qr, .ref qw])), (qo, .inl (cI, 12, .inl (fun _ => 0))), (qx, .inl (cI, 12, .inl (fun _ => 0))), (qy, .inl (cI, 12, .inl (fun _ => 0)))] H := hP
  have hD : va_D A [(h0, .inr (5, [.ref hm, .ref hh, .ref he, .ref ha, .ref hp, .int 1])), (hh, .inr (3, [.int (tn + 1), .ref qu, .ref qo, .ref qx, .ref qy, .ref qr, .ref qw])), (qo, .inl (cI, 12, .inl (fun _ => 0))), (qx, .inl (cI, 12, .inl (fun _ => 0))), (qy, .inl (cI, 12, .inl (fun _ => 0)))] := hD
  refine lv_goto (tgt := 10) hx hb d_Lw_start_4 (by decide) ?_
  refine lv_iconst (v := 0) hx hb d_Lw_start_10 (by decide) ?_
  have hP9 := hP.sub (ws' := [(h0, .inr (5, [.ref hm, .ref hh, .ref he, .ref ha, .ref hp, .int 1])), (hh, .inr (3, [.int (tn + 1), .ref qu, .ref qo, .ref qx, .ref qy, .ref qr, .ref qw])), (qo, .inl (cI, 12, .inl (fun _ => 0))), (qx, .inl (cI, 12, .inl (fun _ => 0))), (qy, .inl (cI, 12, .inl (fun _ => 0)))]) [0, 1, 2, 3, 4] rfl
  have hD9 := hD.sub (ws' := [(h0, .inr (5, [.ref hm, .ref hh, .ref he, .ref ha, .ref hp, .int 1])), (hh, .inr (3, [.int (tn + 1), .ref qu, .ref qo, .ref qx, .ref qy, .ref qr, .ref qw])), (qo, .inl (cI, 12, .inl (fun _ => 0))), (qx, .inl (cI, 12, .inl (fun _ => 0))), (qy, .inl (cI, 12, .inl (fun _ => 0)))]) [0, 1, 2, 3, 4] (by decide) rfl
  exact W.iret (v := 0) hx hb hr (fun t ht hW => ⟨⟨0, (), rfl, rfl, by rw [ht]; exact hP9, hD9⟩, hS.F ht⟩) hS.2.2 d_Lw_start_11


set_option maxHeartbeats 4000000 in
set_option maxRecDepth 100000 in
theorem c_Lw_area_0 (l : Launch) (D : va_G) (cI cZ cJ cS : ClassId) (aT : Nat) (ceT : Cell) (sz : Nat) (h0 hm hh he ha hp : Nat) (qh qn : Nat) (n seas cen : Int32) (fh : Nat → Int32) (tn : Int32) (qu qo qx qy qr qw : Nat) (fw : Nat → Int32) (k ce h : Int32) (oq : Nat) (fo : Nat → Int64) (hin : vp_in n 12) (hok : okA k ce h) : Met l y_Lw_area w_Lw_area ({ frames := 3, cells := 0, slots := 0, locals := 67 }) (tH D cI cZ cJ cS aT ceT [.ref h0, .int k, .int ce, .int h, .ref oq] sz [(h0, .inr (5, [.ref hm, .ref hh, .ref he, .ref ha, .ref hp, .int 0])), (hm, .inr (4, [.int n, .int seas, .int cen, .ref qh, .ref qn])), (qh, .inl (cI, 12, .inl fh)), (hh, .inr (3, [.int tn, .ref qu, .ref qo, .ref qx, .ref qy, .ref qr, .ref qw])), (qw, .inl (cI, 12, .inl fw)), (oq, .inl (cJ, 1, .inr (.inl fo)))]) (va_Qi (fun (r : Int32) (_ : Unit) => r = 0) (fun _ t => tB D (va_A [(h0, .inr (5, [.ref hm, .ref hh, .ref he, .ref ha, .ref hp, .int 0])), (hm, .inr (4, [.int n, .int seas, .int cen, .ref qh, .ref qn])), (qh, .inl (cI, 12, .inl fh)), (hh, .inr (3, [.int tn, .ref qu, .ref qo, .ref qx, .ref qy, .ref qr, .ref qw])), (qw, .inl (cI, 12, .inl fw)), (oq, .inl (cJ, 1, .inr (.inl fo)))] sz) [(h0, .inr (5, [.ref hm, .ref hh, .ref he, .ref ha, .ref hp, .int 0])), (hm, .inr (4, [.int (n + 1), .int (if k = 1 then seas ||| (1 <<< (n &&& 31)) else seas), .int (if ce = 0 then cen else cen ||| (1 <<< (n &&& 31))), .ref qh, .ref qn])), (qh, .inl (cI, 12, .inl (upd fh n.toNatClampNeg h))), (hh, .inr (3, [.int tn, .ref qu, .ref qo, .ref qx, .ref qy, .ref qr, .ref qw])), (qw, .inl (cI, 12, .inl (upd fw n.toNatClampNeg h))), (oq, .inl (cJ, 1, .inr (.inl (vp_updL fo (0 : Int32).toNatClampNeg n.toInt64))))] t) (va_A [(h0, .inr (5, [.ref hm, .ref hh, .ref he, .ref ha, .ref hp, .int 0])), (hm, .inr (4, [.int n, .int seas, .int cen, .ref qh, .ref qn])), (qh, .inl (cI, 12, .inl fh)), (hh, .inr (3, [.int tn, .ref qu, .ref qo, .ref qx, .ref qy, .ref qr, .ref qw])), (qw, .inl (cI, 12, .inl fw)), (oq, .inl (cJ, 1, .inr (.inl fo)))] sz)) 0 0 (va_A [(h0, .inr (5, [.ref hm, .ref hh, .ref he, .ref ha, .ref hp, .int 0])), (hm, .inr (4, [.int n, .int seas, .int cen, .ref qh, .ref qn])), (qh, .inl (cI, 12, .inl fh)), (hh, .inr (3, [.int tn, .ref qu, .ref qo, .ref qx, .ref qy, .ref qr, .ref qw])), (qw, .inl (cI, 12, .inl fw)), (oq, .inl (cJ, 1, .inr (.inl fo)))] sz) := by
  refine va_MetW (cc := b_Lw_area) (maxL := 6) (ret := (some .int)) (hh := [(0, 12, 15, 13), (0, 12, 19, 15)]) (by decide) rfl ?_
  intro p e s m args below meth c s₁ B hml hv
  obtain ⟨rfl, hsz, hP, hK, hD0, hX⟩ := hv
  have hx := B.exec
  have hb := B.bytes
  have hr := B.returns
  have hts0 := atoms_spec (ws := w_Lw_area) B.pre
  have hts : ∀ w ∈ TB, w.before _ s = true := fun w h => hts0 w (List.mem_cons_of_mem _ h)
  have hown : s.vm.findClass "SheetWarLaw" = some m.cls := findClass_of_methodNamed B.named
  have hlocks := B.notSynchronized
  have hTab := tx_tab B (hts0 _ (List.mem_cons_self ..))
  subst hsz
  have hXl := tx_lt hX
  have hXn := tx_far hP hX
  have hD := hD0.self (sz := s.heap.size)
  generalize hAe : va_A [(h0, .inr (5, [.ref hm, .ref hh, .ref he, .ref ha, .ref hp, .int 0])), (hm, .inr (4, [.int n, .int seas, .int cen, .ref qh, .ref qn])), (qh, .inl (cI, 12, .inl fh)), (hh, .inr (3, [.int tn, .ref qu, .ref qo, .ref qx, .ref qy, .ref qr, .ref qw])), (qw, .inl (cI, 12, .inl fw)), (oq, .inl (cJ, 1, .inr (.inl fo)))] s.heap.size = A at hD hXn ⊢
  have hA : ∀ q : Nat, s.heap.size ≤ q → A q := fun q h => by rw [← hAe]; exact Or.inr h
  have hS : va_S A s.heap s.heap [] := va_S.rf
  have hXH : s.heap[aT]? = s.heap[aT]? := rfl
  have hl := lv_entry ([.ref h0, .int k, .int ce, .int h, .ref oq]) (n := 6) (Nat.le_of_ble_eq_true rfl)
  rw [lg_entry_eq]
  generalize (lg_sl ([.ref h0, .int k, .int ce, .int h, .ref oq]) ++ List.replicate (6 - (lg_sl ([.ref h0, .int k, .int ce, .int h, .ref oq])).length) Slot.unset).toArray = ls at hl ⊢
  have hl : lv_has ls 6 [(0, .ref h0), (1, .int k), (2, .int ce), (3, .int h), (4, .ref oq)] := hl
  refine lv_aload hx hb d_Lw_area_0 (lv_at hl 4 rfl) ?_
  refine lv_iconst (v := 0) hx hb d_Lw_area_2 (by decide) ?_
  refine lv_aload_n hx hb d_Lw_area_3 rfl (lv_at hl 0 rfl) ?_
  refine lv_iload_n hx hb d_Lw_area_4 rfl (lv_at hl 1 rfl) ?_
  refine lv_iload_n hx hb d_Lw_area_5 rfl (lv_at hl 2 rfl) ?_
  refine lv_iload_n hx hb d_Lw_area_6 rfl (lv_at hl 3 rfl) ?_
  have hPc := hP.sub (ws' := [(h0, .inr (5, [.ref hm, .ref hh, .ref he, .ref ha, .ref hp, .int 0])), (hm, .inr (4, [.int n, .int seas, .int cen, .ref qh, .ref qn])), (qh, .inl (cI, 12, .inl fh)), (hh, .inr (3, [.int tn, .ref qu, .ref qo, .ref qx, .ref qy, .ref qr, .ref qw])), (qw, .inl (cI, 12, .inl fw))]) [0, 1, 2, 3, 4] rfl
  have hDc := hD.sub (ws' := [(h0, .inr (5, [.ref hm, .ref hh, .ref he, .ref ha, .ref hp, .int 0])), (hm, .inr (4, [.int n, .int seas, .int cen, .ref qh, .ref qn])), (qh, .inl (cI, 12, .inl fh)), (hh, .inr (3, [.int tn, .ref qu, .ref qo, .ref qx, .ref qy, .ref qr, .ref qw])), (qw, .inl (cI, 12, .inl fw))]) [0, 1, 2, 3, 4] (by decide) rfl
  have hFc := va_free (wc := [(h0, .inr (5, [.ref hm, .ref hh, .ref he, .ref ha, .ref hp, .int 0])), (hm, .inr (4, [.int n, .int seas, .int cen, .ref qh, .ref qn])), (qh, .inl (cI, 12, .inl fh)), (hh, .inr (3, [.int tn, .ref qu, .ref qo, .ref qx, .ref qy, .ref qr, .ref qw])), (qw, .inl (cI, 12, .inl fw))]) hD hS hA [0, 1, 2, 3, 4] rfl
  refine va_calli (va_runV (As := [.int k, .int ce, .int h]) (rest := [.int 0, .ref oq]) ⟨hx, hb, hml, hown, hts⟩ (c_Sw_area l D cI cZ cJ cS aT ceT s.heap.size h0 hm hh he ha hp qh qn n seas cen fh tn qu qo qx qy qr qw fw k ce h hin hok) (cwV 3 hts (tb_4 wd_324 wd_325 wd_326 wd_1 (tb_c wd_327)) rfl rfl rfl ⟨rfl, by decide, by decide, by decide +kernel⟩ ⟨Nat.le_of_ble_eq_true rfl, Nat.le_of_ble_eq_true rfl⟩) (tH_V hK hX (hS.2.1 aT hXl hXn) hPc hDc (q := 0) rfl rfl) rfl rfl hl.1 rfl (lv_room (Nat.le_of_ble_eq_true rfl)) d_Lw_area_7 ⟨Nat.le_of_ble_eq_true rfl, Nat.le_of_ble_eq_true rfl⟩) hS (fun q _ h => hFc q h) hFc (fun r9 u t H1 locs ht hvm h9 hB hz1 hk1 hS => ?_)
  rw [h9]
  obtain ⟨hP1, hD1⟩ := hB
  rw [ht] at hP1
  obtain ⟨hP, hD⟩ := va_join (wr := [(oq, .inl (cJ, 1, .inr (.inl fo)))]) (w1 := [(h0, .inr (5, [.ref hm, .ref hh, .ref he, .ref ha, .ref hp, .int 0])), (hm, .inr (4, [.int (n + 1), .int (if k = 1 then seas ||| (1 <<< (n &&& 31)) else seas), .int (if ce = 0 then cen else cen ||| (1 <<< (n &&& 31))), .ref qh, .ref qn])), (qh, .inl (cI, 12, .inl (upd fh n.toNatClampNeg h))), (hh, .inr (3, [.int tn, .ref qu, .ref qo, .ref qx, .ref qy, .ref qr, .ref qw])), (qw, .inl (cI, 12, .inl (upd fw n.toNatClampNeg h)))]) hP hD [0, 1, 2, 3, 4] [5] rfl rfl (by decide) (by decide) hk1 hFc hP1 hD1
  generalize H1 = H at hP hS ⊢
  have hP : va_P D vwCl [(oq, .inl (cJ, 1, .inr (.inl fo))), (h0, .inr (5, [.ref hm, .ref hh, .ref he, .ref ha, .ref hp, .int 0])), (hm, .inr (4, [.int (n + 1), .int (if k = 1 then seas ||| (1 <<< (n &&& 31)) else seas), .int (if ce = 0 then cen else cen ||| (1 <<< (n &&& 31))), .ref qh, .ref qn])), (qh, .inl (cI, 12, .inl (upd fh n.toNatClampNeg h))), (hh, .inr (3, [.int tn, .ref qu, .ref qo, .ref qx, .ref qy, .ref qr, .ref qw])), (qw, .inl (cI, 12, .inl (upd fw n.toNatClampNeg h)))] H := hP
  have hD : va_D A [(oq, .inl (cJ, 1, .inr (.inl fo))), (h0, .inr (5, [.ref hm, .ref hh, .ref he, .ref ha, .ref hp, .int 0])), (hm, .inr (4, [.int (n + 1), .int (if k = 1 then seas ||| (1 <<< (n &&& 31)) else seas), .int (if ce = 0 then cen else cen ||| (1 <<< (n &&& 31))), .ref qh, .ref qn])), (qh, .inl (cI, 12, .inl (upd fh n.toNatClampNeg h))), (hh, .inr (3, [.int tn, .ref qu, .ref qo, .ref qx, .ref qy, .ref qr, .ref qw])), (qw, .inl (cI, 12, .inl (upd fw n.toNatClampNeg h)))] := hD
  refine lv_i2l hx hb d_Lw_area_10 rfl ?_
  refine va_last hx hb hK hP hD hS 0 2 rfl rfl (by unfold vp_in; decide) d_Lw_area_11 (fun H locs hP hD hS => ?_)
  have hP : va_P D vwCl [(oq, .inl (cJ, 1, .inr (.inl (vp_updL fo (0 : Int32).toNatClampNeg n.toInt64)))), (h0, .inr (5, [.ref hm, .ref hh, .ref he, .ref ha, .ref hp, .int 0])), (hm, .inr (4, [.int (n + 1), .int (if k = 1 then seas ||| (1 <<< (n &&& 31)) else seas), .int (if ce = 0 then cen else cen ||| (1 <<< (n &&& 31))), .ref qh, .ref qn])), (qh, .inl (cI, 12, .inl (upd fh n.toNatClampNeg h))), (hh, .inr (3, [.int tn, .ref qu, .ref qo, .ref qx, .ref qy, .ref qr, .ref qw])), (qw, .inl (cI, 12, .inl (upd fw n.toNatClampNeg h)))] H := hP
  have hD : va_D A [(oq, .inl (cJ, 1, .inr (.inl (vp_updL fo (0 : Int32).toNatClampNeg n.toInt64)))), (h0, .inr (5, [.ref hm, .ref hh, .ref he, .ref ha, .ref hp, .int 0])), (hm, .inr (4, [.int (n + 1), .int (if k = 1 then seas ||| (1 <<< (n &&& 31)) else seas), .int (if ce = 0 then cen else cen ||| (1 <<< (n &&& 31))), .ref qh, .ref qn])), (qh, .inl (cI, 12, .inl (upd fh n.toNatClampNeg h))), (hh, .inr (3, [.int tn, .ref qu, .ref qo, .ref qx, .ref qy, .ref qr, .ref qw])), (qw, .inl (cI, 12, .inl (upd fw n.toNatClampNeg h)))] := hD
  refine lv_goto (tgt := 23) hx hb d_Lw_area_12 (by decide) ?_
  refine lv_iconst (v := 0) hx hb d_Lw_area_23 (by decide) ?_
  have hP9 := hP.sub (ws' := [(h0, .inr (5, [.ref hm, .ref hh, .ref he, .ref ha, .ref hp, .int 0])), (hm, .inr (4, [.int (n + 1), .int (if k = 1 then seas ||| (1 <<< (n &&& 31)) else seas), .int (if ce = 0 then cen else cen ||| (1 <<< (n &&& 31))), .ref qh, .ref qn])), (qh, .inl (cI, 12, .inl (upd fh n.toNatClampNeg h))), (hh, .inr (3, [.int tn, .ref qu, .ref qo, .ref qx, .ref qy, .ref qr, .ref qw])), (qw, .inl (cI, 12, .inl (upd fw n.toNatClampNeg h))), (oq, .inl (cJ, 1, .inr (.inl (vp_updL fo (0 : Int32).toNatClampNeg n.toInt64))))]) [1, 2, 3, 4, 5, 0] rfl
  have hD9 := hD.sub (ws' := [(h0, .inr (5, [.ref hm, .ref hh, .ref he, .ref ha, .ref hp, .int 0])), (hm, .inr (4, [.int (n + 1), .int (if k = 1 then seas ||| (1 <<< (n &&& 31)) else seas), .int (if ce = 0 then cen else cen ||| (1 <<< (n &&& 31))), .ref qh, .ref qn])), (qh, .inl (cI, 12, .inl (upd fh n.toNatClampNeg h))), (hh, .inr (3, [.int tn, .ref qu, .ref qo, .ref qx, .ref qy, .ref qr, .ref qw])), (qw, .inl (cI, 12, .inl (upd fw n.toNatClampNeg h))), (oq, .inl (cJ, 1, .inr (.inl (vp_updL fo (0 : Int32).toNatClampNeg n.toInt64))))]) [1, 2, 3, 4, 5, 0] (by decide) rfl
  exact W.iret (v := 0) hx hb hr (fun t ht hW => ⟨⟨0, (), rfl, rfl, by rw [ht]; exact hP9, hD9⟩, hS.F ht⟩) hS.2.2 d_Lw_area_24
