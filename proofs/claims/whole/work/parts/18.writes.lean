theorem d_Sh_holdAll_0 : decode b_Sh_holdAll 0 = .ok (.aload_n 0, 1) := by decide +kernel
theorem d_Sh_holdAll_1 : decode b_Sh_holdAll 1 = .ok (.getfield 15, 3) := by decide +kernel
theorem d_Sh_holdAll_4 : decode b_Sh_holdAll 4 = .ok (.iconst 0, 1) := by decide +kernel
theorem d_Sh_holdAll_5 : decode b_Sh_holdAll 5 = .ok (.invokestatic 30, 3) := by decide +kernel
theorem d_Sh_holdAll_8 : decode b_Sh_holdAll 8 = .ok (.aload_n 0, 1) := by decide +kernel
theorem d_Sh_holdAll_9 : decode b_Sh_holdAll 9 = .ok (.getfield 18, 3) := by decide +kernel
theorem d_Sh_holdAll_12 : decode b_Sh_holdAll 12 = .ok (.iconst 0, 1) := by decide +kernel
theorem d_Sh_holdAll_13 : decode b_Sh_holdAll 13 = .ok (.invokestatic 30, 3) := by decide +kernel
theorem d_Sh_holdAll_16 : decode b_Sh_holdAll 16 = .ok (.aload_n 0, 1) := by decide +kernel
theorem d_Sh_holdAll_17 : decode b_Sh_holdAll 17 = .ok (.getfield 21, 3) := by decide +kernel
theorem d_Sh_holdAll_20 : decode b_Sh_holdAll 20 = .ok (.iconst 0, 1) := by decide +kernel
theorem d_Sh_holdAll_21 : decode b_Sh_holdAll 21 = .ok (.invokestatic 30, 3) := by decide +kernel
theorem d_Sh_holdAll_24 : decode b_Sh_holdAll 24 = .ok (.return_, 1) := by decide +kernel

set_option maxHeartbeats 4000000 in
set_option maxRecDepth 100000 in
theorem c_Sh_holdAll (l : Launch) (D : va_G) (cI cZ cJ cS : ClassId) (aT : Nat) (ceT : Cell) (sz : Nat) (h0 : Nat) (tn : Int32) (qu qo qx qy qr qw : Nat) (fo fx fy : Nat → Int32)  : Met l y_Sh_holdAll w_Sh_holdAll ({ frames := 1, cells := 0, slots := 0, locals := 23 }) (tH D cI cZ cJ cS aT ceT [.ref h0] sz [(h0, .inr (3, [.int tn, .ref qu, .ref qo, .ref qx, .ref qy, .ref qr, .ref qw])), (qo, .inl (cI, 12, .inl fo)), (qx, .inl (cI, 12, .inl fx)), (qy, .inl (cI, 12, .inl fy))]) (va_Qv (fun _ : Unit => True) (fun _ t => tB D (va_A [(h0, .inr (3, [.int tn, .ref qu, .ref qo, .ref qx, .ref qy, .ref qr, .ref qw])), (qo, .inl (cI, 12, .inl fo)), (qx, .inl (cI, 12, .inl fx)), (qy, .inl (cI, 12, .inl fy))] sz) [(h0, .inr (3, [.int tn, .ref qu, .ref qo, .ref qx, .ref qy, .ref qr, .ref qw])), (qo, .inl (cI, 12, .inl (fun _ => 0))), (qx, .inl (cI, 12, .inl (fun _ => 0))), (qy, .inl (cI, 12, .inl (fun _ => 0)))] t) (va_A [(h0, .inr (3, [.int tn, .ref qu, .ref qo, .ref qx, .ref qy, .ref qr, .ref qw])), (qo, .inl (cI, 12, .inl fo)), (qx, .inl (cI, 12, .inl fx)), (qy, .inl (cI, 12, .inl fy))] sz)) 0 0 (va_A [(h0, .inr (3, [.int tn, .ref qu, .ref qo, .ref qx, .ref qy, .ref qr, .ref qw])), (qo, .inl (cI, 12, .inl fo)), (qx, .inl (cI, 12, .inl fx)), (qy, .inl (cI, 12, .inl fy))] sz) := by
  refine Met.ofW (cc := b_Sh_holdAll) (maxL := 1) (ret := none) (by decide) rfl ?_
  intro p e s m args below meth c s₁ B hml hv
  obtain ⟨rfl, hsz, hP, hK, hD0, hX⟩ := hv
  have hx := B.exec
  have hb := B.bytes
  have hr := B.returns
  have hts0 := atoms_spec (ws := w_Sh_holdAll) B.pre
  have hts : ∀ w ∈ TB, w.before _ s = true := fun w h => hts0 w (List.mem_cons_of_mem _ h)
  have hown : s.vm.findClass R_Sh = some m.cls := findClass_of_methodNamed B.named
  have hlocks := B.notSynchronized
  subst hsz
  have hXl := tx_lt hX
  have hXn := tx_far hP hX
  have hD := hD0.self (sz := s.heap.size)
  generalize hAe : va_A [(h0, .inr (3, [.int tn, .ref qu, .ref qo, .ref qx, .ref qy, .ref qr, .ref qw])), (qo, .inl (cI, 12, .inl fo)), (qx, .inl (cI, 12, .inl fx)), (qy, .inl (cI, 12, .inl fy))] s.heap.size = A at hD hXn ⊢
  have hA : ∀ q : Nat, s.heap.size ≤ q → A q := fun q h => by rw [← hAe]; exact Or.inr h
  have hS : va_S A s.heap s.heap [] := va_S.rf
  have hXH : s.heap[aT]? = s.heap[aT]? := rfl
  have hl := lv_entry ([.ref h0]) (n := 1) (Nat.le_of_ble_eq_true rfl)
  rw [lg_entry_eq]
  generalize (lg_sl ([.ref h0]) ++ List.replicate (1 - (lg_sl ([.ref h0])).length) Slot.unset).toArray = ls at hl ⊢
  have hl : lv_has ls 1 [(0, .ref h0)] := hl
  refine lv_aload_n hx hb d_Sh_holdAll_0 rfl (lv_at hl 0 rfl) ?_
  refine va_get (D := D) (ci := 3) (v := .ref qo) (C := R_Sh) (T := T_Sh) (N := 7) hx hb hts hin_Sh hown hK hP 0 rfl rfl 2 (by decide) (hts _ wd_68) (fun _ h9 => h9) rfl d_Sh_holdAll_1 ?_
  refine lv_iconst (v := 0) hx hb d_Sh_holdAll_4 (by decide) ?_
  have hPc := hP.sub (ws' := [(qo, .inl (cI, 12, .inl fo))]) [1] rfl
  have hDc := hD.sub (ws' := [(qo, .inl (cI, 12, .inl fo))]) [1] (by decide) rfl
  have hFc := va_free (wc := [(qo, .inl (cI, 12, .inl fo))]) hD hS hA [1] rfl
  refine va_callv (va_runS (As := [.ref qo, .int 0]) (rest := []) ⟨hx, hb, hml, hown, hts⟩ (c_Ar_fill l D cI cZ cJ cS aT ceT s.heap.size qo 12 fo 0 (by decide)) (va_cwS 2 hts (tb_3 wd_59 wd_60 wd_4 (tb_c wd_61)) rfl rfl rfl ⟨by decide, by decide, by decide +kernel⟩ ⟨Nat.le_of_ble_eq_true rfl, Nat.le_of_ble_eq_true rfl⟩) (tH_S hK hX (hS.2.1 aT hXl hXn) hPc hDc) rfl rfl hl.1 rfl (lv_room (Nat.le_of_ble_eq_true rfl)) d_Sh_holdAll_5 ⟨Nat.le_of_ble_eq_true rfl, Nat.le_of_ble_eq_true rfl⟩) hS (fun q _ h => hFc q h) hFc (fun u t H1 locs ht hvm h9 hB hz1 hk1 hS => ?_)
  obtain ⟨hP1, hD1⟩ := hB
  rw [ht] at hP1
  obtain ⟨hP, hD⟩ := va_join (wr := [(h0, .inr (3, [.int tn, .ref qu, .ref qo, .ref qx, .ref qy, .ref qr, .ref qw])), (qx, .inl (cI, 12, .inl fx)), (qy, .inl (cI, 12, .inl fy))]) (w1 := [(qo, .inl (cI, 12, .inl (fun _ => (0 : Int32))))]) hP hD [1] [0, 2, 3] rfl rfl (by decide) (by decide) hk1 hFc hP1 hD1
  generalize H1 = H at hP hS ⊢
  have hP : va_P D vwCl [(h0, .inr (3, [.int tn, .ref qu, .ref qo, .ref qx, .ref qy, .ref qr, .ref qw])), (qx, .inl (cI, 12, .inl fx)), (qy, .inl (cI, 12, .inl fy)), (qo, .inl (cI, 12, .inl (fun _ => (0 : Int32))))] H := hP
  have hD : va_D A [(h0, .inr (3, [.int tn, .ref qu, .ref qo, .ref qx, .ref qy, .ref qr, .ref qw])), (qx, .inl (cI, 12, .inl fx)), (qy, .inl (cI, 12, .inl fy)), (qo, .inl (cI, 12, .inl (fun _ => (0 : Int32))))] := hD
  refine lv_aload_n hx hb d_Sh_holdAll_8 rfl (lv_at hl 0 rfl) ?_
  refine va_get (D := D) (ci := 3) (v := .ref qx) (C := R_Sh) (T := T_Sh) (N := 7) hx hb hts hin_Sh hown hK hP 0 rfl rfl 3 (by decide) (hts _ wd_71) (fun _ h9 => h9) rfl d_Sh_holdAll_9 ?_
  refine lv_iconst (v := 0) hx hb d_Sh_holdAll_12 (by decide) ?_
  have hPc := hP.sub (ws' := [(qx, .inl (cI, 12, .inl fx))]) [1] rfl
  have hDc := hD.sub (ws' := [(qx, .inl (cI, 12, .inl fx))]) [1] (by decide) rfl
  have hFc := va_free (wc := [(qx, .inl (cI, 12, .inl fx))]) hD hS hA [1] rfl
  refine va_callv (va_runS (As := [.ref qx, .int 0]) (rest := []) ⟨hx, hb, hml, hown, hts⟩ (c_Ar_fill l D cI cZ cJ cS aT ceT H.size qx 12 fx 0 (by decide)) (va_cwS 2 hts (tb_3 wd_59 wd_60 wd_4 (tb_c wd_61)) rfl rfl rfl ⟨by decide, by decide, by decide +kernel⟩ ⟨Nat.le_of_ble_eq_true rfl, Nat.le_of_ble_eq_true rfl⟩) (tH_S hK hX (hS.2.1 aT hXl hXn) hPc hDc) rfl rfl hl.1 rfl (lv_room (Nat.le_of_ble_eq_true rfl)) d_Sh_holdAll_13 ⟨Nat.le_of_ble_eq_true rfl, Nat.le_of_ble_eq_true rfl⟩) hS (fun q _ h => hFc q h) hFc (fun u t H1 locs ht hvm h9 hB hz1 hk1 hS => ?_)
  obtain ⟨hP1, hD1⟩ := hB
  rw [ht] at hP1
  obtain ⟨hP, hD⟩ := va_join (wr := [(h0, .inr (3, [.int tn, .ref qu, .ref qo, .ref qx, .ref qy, .ref qr, .ref qw])), (qy, .inl (cI, 12, .inl fy)), (qo, .inl (cI, 12, .inl (fun _ => (0 : Int32))))]) (w1 := [(qx, .inl (cI, 12, .inl (fun _ => (0 : Int32))))]) hP hD [1] [0, 2, 3] rfl rfl (by decide) (by decide) hk1 hFc hP1 hD1
  generalize H1 = H at hP hS ⊢
  have hP : va_P D vwCl [(h0, .inr (3, [.int tn, .ref qu, .ref qo, .ref qx, .ref qy, .ref qr, .ref qw])), (qy, .inl (cI, 12, .inl fy)), (qo, .inl (cI, 12, .inl (fun _ => (0 : Int32)))), (qx, .inl (cI, 12, .inl (fun _ => (0 : Int32))))] H := hP
  have hD : va_D A [(h0, .inr (3, [.int tn, .ref qu, .ref qo, .ref qx, .ref qy, .ref qr, .ref qw])), (qy, .inl (cI, 12, .inl fy)), (qo, .inl (cI, 12, .inl (fun _ => (0 : Int32)))), (qx, .inl (cI, 12, .inl (fun _ => (0 : Int32))))] := hD
  refine lv_aload_n hx hb d_Sh_holdAll_16 rfl (lv_at hl 0 rfl) ?_
  refine va_get (D := D) (ci := 3) (v := .ref qy) (C := R_Sh) (T := T_Sh) (N := 7) hx hb hts hin_Sh hown hK hP 0 rfl rfl 4 (by decide) (hts _ wd_74) (fun _ h9 => h9) rfl d_Sh_holdAll_17 ?_
  refine lv_iconst (v := 0) hx hb d_Sh_holdAll_20 (by decide) ?_
  have hPc := hP.sub (ws' := [(qy, .inl (cI, 12, .inl fy))]) [1] rfl
  have hDc := hD.sub (ws' := [(qy, .inl (cI, 12, .inl fy))]) [1] (by decide) rfl
  have hFc := va_free (wc := [(qy, .inl (cI, 12, .inl fy))]) hD hS hA [1] rfl
  refine va_callv (va_runS (As := [.ref qy, .int 0]) (rest := []) ⟨hx, hb, hml, hown, hts⟩ (c_Ar_fill l D cI cZ cJ cS aT ceT H.size qy 12 fy 0 (by decide)) (va_cwS 2 hts (tb_3 wd_59 wd_60 wd_4 (tb_c wd_61)) rfl rfl rfl ⟨by decide, by decide, by decide +kernel⟩ ⟨Nat.le_of_ble_eq_true rfl, Nat.le_of_ble_eq_true rfl⟩) (tH_S hK hX (hS.2.1 aT hXl hXn) hPc hDc) rfl rfl hl.1 rfl (lv_room (Nat.le_of_ble_eq_true rfl)) d_Sh_holdAll_21 ⟨Nat.le_of_ble_eq_true rfl, Nat.le_of_ble_eq_true rfl⟩) hS (fun q _ h => hFc q h) hFc (fun u t H1 locs ht hvm h9 hB hz1 hk1 hS => ?_)
  obtain ⟨hP1, hD1⟩ := hB
  rw [ht] at hP1
  obtain ⟨hP, hD⟩ := va_join (wr := [(h0, .inr (3, [.int tn, .ref qu, .ref qo, .ref qx, .ref qy, .ref qr, .ref qw])), (qo, .inl (cI, 12, .inl (fun _ => (0 : Int32)))), (qx, .inl (cI, 12, .inl (fun _ => (0 : Int32))))]) (w1 := [(qy, .inl (cI, 12, .inl (fun _ => (0 : Int32))))]) hP hD [1] [0, 2, 3] rfl rfl (by decide) (by decide) hk1 hFc hP1 hD1
  generalize H1 = H at hP hS ⊢
  have hP : va_P D vwCl [(h0, .inr (3, [.int tn, .ref qu, .ref qo, .ref qx, .ref qy, .ref qr, .ref qw])), (qo, .inl (cI, 12, .inl (fun _ => (0 : Int32)))), (qx, .inl (cI, 12, .inl (fun _ => (0 : Int32)))), (qy, .inl (cI, 12, .inl (fun _ => (0 : Int32))))] H := hP
  have hD : va_D A [(h0, .inr (3, [.int tn, .ref qu, .ref qo, .ref qx, .ref qy, .ref qr, .ref qw])), (qo, .inl (cI, 12, .inl (fun _ => (0 : Int32)))), (qx, .inl (cI, 12, .inl (fun _ => (0 : Int32)))), (qy, .inl (cI, 12, .inl (fun _ => (0 : Int32))))] := hD
  have hP9 := hP.sub (ws' := [(h0, .inr (3, [.int tn, .ref qu, .ref qo, .ref qx, .ref qy, .ref qr, .ref qw])), (qo, .inl (cI, 12, .inl (fun _ => (0 : Int32)))), (qx, .inl (cI, 12, .inl (fun _ => (0 : Int32)))), (qy, .inl (cI, 12, .inl (fun _ => (0 : Int32))))]) [0, 1, 2, 3] rfl
  have hD9 := hD.sub (ws' := [(h0, .inr (3, [.int tn, .ref qu, .ref qo, .ref qx, .ref qy, .ref qr, .ref qw])), (qo, .inl (cI, 12, .inl (fun _ => (0 : Int32)))), (qx, .inl (cI, 12, .inl (fun _ => (0 : Int32)))), (qy, .inl (cI, 12, .inl (fun _ => (0 : Int32))))]) [0, 1, 2, 3] (by decide) rfl
  exact W.vret hx hb hr (fun t ht hW => ⟨⟨(), rfl, trivial, by rw [ht]; exact hP9, hD9⟩, hS.F ht⟩) hS.2.2 d_Sh_holdAll_24

theorem d_Sw_beginTurn_0 : decode b_Sw_beginTurn 0 = .ok (.aload_n 0, 1) := by decide +kernel
theorem d_Sw_beginTurn_1 : decode b_Sw_beginTurn 1 = .ok (.getfield 19, 3) := by decide +kernel
theorem d_Sw_beginTurn_4 : decode b_Sw_beginTurn 4 = .ok (.dup, 1) := by decide +kernel
theorem d_Sw_beginTurn_5 : decode b_Sw_beginTurn 5 = .ok (.getfield 168, 3) := by decide +kernel
theorem d_Sw_beginTurn_8 : decode b_Sw_beginTurn 8 = .ok (.iconst 1, 1) := by decide +kernel
theorem d_Sw_beginTurn_9 : decode b_Sw_beginTurn 9 = .ok (.iadd, 1) := by decide +kernel
theorem d_Sw_beginTurn_10 : decode b_Sw_beginTurn 10 = .ok (.putfield 168, 3) := by decide +kernel
theorem d_Sw_beginTurn_13 : decode b_Sw_beginTurn 13 = .ok (.aload_n 0, 1) := by decide +kernel
theorem d_Sw_beginTurn_14 : decode b_Sw_beginTurn 14 = .ok (.getfield 19, 3) := by decide +kernel
theorem d_Sw_beginTurn_17 : decode b_Sw_beginTurn 17 = .ok (.invokevirtual 211, 3) := by decide +kernel
theorem d_Sw_beginTurn_20 : decode b_Sw_beginTurn 20 = .ok (.aload_n 0, 1) := by decide +kernel
theorem d_Sw_beginTurn_21 : decode b_Sw_beginTurn 21 = .ok (.iconst 1, 1) := by decide +kernel
theorem d_Sw_beginTurn_22 : decode b_Sw_beginTurn 22 = .ok (.putfield 46, 3) := by decide +kernel
theorem d_Sw_beginTurn_25 : decode b_Sw_beginTurn 25 = .ok (.return_, 1) := by decide +kernel
theorem wd_451 : (Cond.code ({ cls := "SheetWar$Sheet", name := "holdAll", desc := "()V" } : MethodName) prog_5_method_7_code (1 : Nat) (Option.none : Option FieldType)) ∈ TB := tb_t 451 (by decide +kernel) (by decide +kernel)
theorem wd_448 : (Cond.methodLink "SheetWar" (211 : Nat) ({ cls := "SheetWar$Sheet", name := "holdAll", desc := "()V" } : MethodName)) ∈ TB := tb_t 448 (by decide +kernel) (by decide +kernel)
theorem wd_449 : (Cond.instanceMethod ({ cls := "SheetWar$Sheet", name := "holdAll", desc := "()V" } : MethodName)) ∈ TB := tb_t 449 (by decide +kernel) (by decide +kernel)
theorem wd_450 : (Cond.selects "SheetWar$Sheet" ({ cls := "SheetWar$Sheet", name := "holdAll", desc := "()V" } : MethodName) ({ cls := "SheetWar$Sheet", name := "holdAll", desc := "()V" } : MethodName)) ∈ TB := tb_t 450 (by decide +kernel) (by decide +kernel)
set_option maxHeartbeats 4000000 in
set_option maxRecDepth 100000 in
theorem c_Sw_beginTurn (l : Launch) (D : va_G) (cI cZ cJ cS : ClassId) (aT : Nat) (ceT : Cell) (sz : Nat) (h0 hm hh he ha hp : Nat) (ph : Int32) (tn : Int32) (qu qo qx qy qr qw : Nat) (fo fx fy : Nat → Int32)  : Met l y_Sw_beginTurn w_Sw_beginTurn ({ frames := 2, cells := 0, slots := 0, locals := 43 }) (tH D cI cZ cJ cS aT ceT [.ref h0] sz [(h0, .inr (5, [.ref hm, .ref hh, .ref he, .ref ha, .ref hp, .int ph])), (hh, .inr (3, [.int tn, .ref qu, .ref qo, .ref qx, .ref qy, .ref qr, .ref qw])), (qo, .inl (cI, 12, .inl fo)), (qx, .inl (cI, 12, .inl fx)), (qy, .inl (cI, 12, .inl fy))]) (va_Qv (fun _ : Unit => True) (fun _ t => tB D (va_A [(h0, .inr (5, [.ref hm, .ref hh, .ref he, .ref ha, .ref hp, .int ph])), (hh, .inr (3, [.int tn, .ref qu, .ref qo, .ref qx, .ref qy, .ref qr, .ref qw])), (qo, .inl (cI, 12, .inl fo)), (qx, .inl (cI, 12, .inl fx)), (qy, .inl (cI, 12, .inl fy))] sz) [(h0, .inr (5, [.ref hm, .ref hh, .ref he, .ref ha, .ref hp, .int 1])), (hh, .inr (3, [.int (tn + 1), .ref qu, .ref qo, .ref qx, .ref qy, .ref qr, .ref qw])), (qo, .inl (cI, 12, .inl (fun _ => 0))), (qx, .inl (cI, 12, .inl (fun _ => 0))), (qy, .inl (cI, 12, .inl (fun _ => 0)))] t) (va_A [(h0, .inr (5, [.ref hm, .ref hh, .ref he, .ref ha, .ref hp, .int ph])), (hh, .inr (3, [.int tn, .ref qu, .ref qo, .ref qx, .ref qy, .ref qr, .ref qw])), (qo, .inl (cI, 12, .inl fo)), (qx, .inl (cI, 12, .inl fx)), (qy, .inl (cI, 12, .inl fy))] sz)) 0 0 (va_A [(h0, .inr (5, [.ref hm, .ref hh, .ref he, .ref ha, .ref hp, .int ph])), (hh, .inr (3, [.int tn, .ref qu, .ref qo, .ref qx, .ref qy, .ref qr, .ref qw])), (qo, .inl (cI, 12, .inl fo)), (qx, .inl (cI, 12, .inl fx)), (qy, .inl (cI, 12, .inl fy))] sz) := by
  refine Met.ofW (cc := b_Sw_beginTurn) (maxL := 1) (ret := none) (by decide) rfl ?_
  intro p e s m args below meth c s₁ B hml hv
  obtain ⟨rfl, hsz, hP, hK, hD0, hX⟩ := hv
  have hx := B.exec
  have hb := B.bytes
  have hr := B.returns
  have hts0 := atoms_spec (ws := w_Sw_beginTurn) B.pre
  have hts : ∀ w ∈ TB, w.before _ s = true := fun w h => hts0 w (List.mem_cons_of_mem _ h)
  have hown : s.vm.findClass R_Sw = some m.cls := findClass_of_methodNamed B.named
  have hlocks := B.notSynchronized
  subst hsz
  have hXl := tx_lt hX
  have hXn := tx_far hP hX
  have hD := hD0.self (sz := s.heap.size)
  generalize hAe : va_A [(h0, .inr (5, [.ref hm, .ref hh, .ref he, .ref ha, .ref hp, .int ph])), (hh, .inr (3, [.int tn, .ref qu, .ref qo, .ref qx, .ref qy, .ref qr, .ref qw])), (qo, .inl (cI, 12, .inl fo)), (qx, .inl (cI, 12, .inl fx)), (qy, .inl (cI, 12, .inl fy))] s.heap.size = A at hD hXn ⊢
  have hA : ∀ q : Nat, s.heap.size ≤ q → A q := fun q h => by rw [← hAe]; exact Or.inr h
  have hS : va_S A s.heap s.heap [] := va_S.rf
  have hXH : s.heap[aT]? = s.heap[aT]? := rfl
  have hl := lv_entry ([.ref h0]) (n := 1) (Nat.le_of_ble_eq_true rfl)
  rw [lg_entry_eq]
  generalize (lg_sl ([.ref h0]) ++ List.replicate (1 - (lg_sl ([.ref h0])).length) Slot.unset).toArray = ls at hl ⊢
  have hl : lv_has ls 1 [(0, .ref h0)] := hl
  refine lv_aload_n hx hb d_Sw_beginTurn_0 rfl (lv_at hl 0 rfl) ?_
  refine va_get (D := D) (ci := 5) (v := .ref hh) (C := R_Sw) (T := T_Sw) (N := 6) hx hb hts hin_Sw hown hK hP 0 rfl rfl 1 (by decide) (hts _ wd_202) (fun _ h9 => h9) rfl d_Sw_beginTurn_1 ?_
  refine lv_dup hx hb d_Sw_beginTurn_4 rfl ?_
  refine va_get (D := D) (ci := 3) (v := .int tn) (C := R_Sh) (T := T_Sh) (N := 7) hx hb hts hin_Sh hown hK hP 1 rfl rfl 0 (by decide) (hts _ wd_63) (fun _ h9 => h9) rfl d_Sw_beginTurn_5 ?_
  refine lv_iconst (v := 1) hx hb d_Sw_beginTurn_8 (by decide) ?_
  refine lv_iadd hx hb d_Sw_beginTurn_9 ?_
  refine va_put (D := D) (ci := 3) (v := .int (tn + 1)) (ty := .int) (C := R_Sh) (T := T_Sh) (N := 7) hx hb hts hin_Sh ty_Sh tyok_Sh nm_Sh hown hK hP hD hS 1 rfl rfl 0 (by decide) (hts _ wd_63) (fun _ h9 => h9) rfl (by decide +kernel) rfl rfl (Nat.le_of_ble_eq_true rfl) d_Sw_beginTurn_10 (fun H locs hP hD hS => ?_)
  have hP : va_P D vwCl [(h0, .inr (5, [.ref hm, .ref hh, .ref he, .ref ha, .ref hp, .int ph])), (hh, .inr (3, [.int (tn + 1), .ref qu, .ref qo, .ref qx, .ref qy, .ref qr, .ref qw])), (qo, .inl (cI, 12, .inl fo)), (qx, .inl (cI, 12, .inl fx)), (qy, .inl (cI, 12, .inl fy))] H := hP
  have hD : va_D A [(h0, .inr (5, [.ref hm, .ref hh, .ref he, .ref ha, .ref hp, .int ph])), (hh, .inr (3, [.int (tn + 1), .ref qu, .ref qo, .ref qx, .ref qy, .ref qr, .ref qw])), (qo, .inl (cI, 12, .inl fo)), (qx, .inl (cI, 12, .inl fx)), (qy, .inl (cI, 12, .inl fy))] := hD
  refine lv_aload_n hx hb d_Sw_beginTurn_13 rfl (lv_at hl 0 rfl) ?_
  refine va_get (D := D) (ci := 5) (v := .ref hh) (C := R_Sw) (T := T_Sw) (N := 6) hx hb hts hin_Sw hown hK hP 0 rfl rfl 1 (by decide) (hts _ wd_202) (fun _ h9 => h9) rfl d_Sw_beginTurn_14 ?_
  have hPc := hP.sub (ws' := [(hh, .inr (3, [.int (tn + 1), .ref qu, .ref qo, .ref qx, .ref qy, .ref qr, .ref qw])), (qo, .inl (cI, 12, .inl fo)), (qx, .inl (cI, 12, .inl fx)), (qy, .inl (cI, 12, .inl fy))]) [1, 2, 3, 4] rfl
  have hDc := hD.sub (ws' := [(hh, .inr (3, [.int (tn + 1), .ref qu, .ref qo, .ref qx, .ref qy, .ref qr, .ref qw])), (qo, .inl (cI, 12, .inl fo)), (qx, .inl (cI, 12, .inl fx)), (qy, .inl (cI, 12, .inl fy))]) [1, 2, 3, 4] (by decide) rfl
  have hFc := va_free (wc := [(hh, .inr (3, [.int (tn + 1), .ref qu, .ref qo, .ref qx, .ref qy, .ref qr, .ref qw])), (qo, .inl (cI, 12, .inl fo)), (qx, .inl (cI, 12, .inl fx)), (qy, .inl (cI, 12, .inl fy))]) hD hS hA [1, 2, 3, 4] rfl
  refine va_callv (va_runV (As := []) (rest := []) ⟨hx, hb, hml, hown, hts⟩ (c_Sh_holdAll l D cI cZ cJ cS aT ceT H.size hh (tn + 1) qu qo qx qy qr qw fo fx fy ) (cwV 0 hts (tb_4 wd_448 wd_449 wd_450 wd_3 (tb_c wd_451)) rfl rfl rfl ⟨rfl, by decide, by decide, by decide +kernel⟩ ⟨Nat.le_of_ble_eq_true rfl, Nat.le_of_ble_eq_true rfl⟩) (tH_V hK hX (hS.2.1 aT hXl hXn) hPc hDc (q := 0) rfl rfl) rfl rfl hl.1 rfl (lv_room (Nat.le_of_ble_eq_true rfl)) d_Sw_beginTurn_17 ⟨Nat.le_of_ble_eq_true rfl, Nat.le_of_ble_eq_true rfl⟩) hS (fun q _ h => hFc q h) hFc (fun u t H1 locs ht hvm h9 hB hz1 hk1 hS => ?_)
  obtain ⟨hP1, hD1⟩ := hB
  rw [ht] at hP1
  obtain ⟨hP, hD⟩ := va_join (wr := [(h0, .inr (5, [.ref hm, .ref hh, .ref he, .ref ha, .ref hp, .int ph]))]) (w1 := [(hh, .inr (3, [.int (tn + 1), .ref qu, .ref qo, .ref qx, .ref qy, .ref qr, .ref qw])), (qo, .inl (cI, 12, .inl (fun _ => 0))), (qx, .inl (cI, 12, .inl (fun _ => 0))), (qy, .inl (cI, 12, .inl (fun _ => 0)))]) hP hD [1, 2, 3, 4] [0] rfl rfl (by decide) (by decide) hk1 hFc hP1 hD1
  generalize H1 = H at hP hS ⊢
  have hP : va_P D vwCl [(h0, .inr (5, [.ref hm, .ref hh, .ref he, .ref ha, .ref hp, .int ph])), (hh, .inr (3, [.int (tn + 1), .ref qu, .ref qo, .ref qx, .ref qy, .ref qr, .ref qw])), (qo, .inl (cI, 12, .inl (fun _ => 0))), (qx, .inl (cI, 12, .inl (fun _ => 0))), (qy, .inl (cI, 12, .inl (fun _ => 0)))] H := hP
  have hD : va_D A [(h0, .inr (5, [.ref hm, .ref hh, .ref he, .ref ha, .ref hp, .int ph])), (hh, .inr (3, [.int (tn + 1), .ref qu, .ref qo, .ref qx, .ref qy, .ref qr, .ref qw])), (qo, .inl (cI, 12, .inl (fun _ => 0))), (qx, .inl (cI, 12, .inl (fun _ => 0))), (qy, .inl (cI, 12, .inl (fun _ => 0)))] := hD
  refine lv_aload_n hx hb d_Sw_beginTurn_20 rfl (lv_at hl 0 rfl) ?_
  refine lv_iconst (v := 1) hx hb d_Sw_beginTurn_21 (by decide) ?_
  refine va_put (D := D) (ci := 5) (v := .int 1) (ty := .int) (C := R_Sw) (T := T_Sw) (N := 6) hx hb hts hin_Sw ty_Sw tyok_Sw nm_Sw hown hK hP hD hS 0 rfl rfl 5 (by decide) (hts _ wd_206) (fun _ h9 => h9) rfl (by decide +kernel) rfl rfl (Nat.le_of_ble_eq_true rfl) d_Sw_beginTurn_22 (fun H locs hP hD hS => ?_)
  have hP : va_P D vwCl [(h0, .inr (5, [.ref hm, .ref hh, .ref he, .ref ha, .ref hp, .int 1])), (hh, .inr (3, [.int (tn + 1), .ref qu, .ref qo, .ref qx, .ref qy, .ref qr, .ref qw])), (qo, .inl (cI, 12, .inl (fun _ => 0))), (qx, .inl (cI, 12, .inl (fun _ => 0))), (qy, .inl (cI, 12, .inl (fun _ => 0)))] H := hP
  have hD : va_D A [(h0, .inr (5, [.ref hm, .ref hh, .ref he, .ref ha, .ref hp, .int 1])), (hh, .inr (3, [.int (tn + 1), .ref qu, .ref qo, .ref qx, .ref qy, .ref qr, .ref qw])), (qo, .inl (cI, 12, .inl (fun _ => 0))), (qx, .inl (cI, 12, .inl (fun _ => 0))), (qy, .inl (cI, 12, .inl (fun _ => 0)))] := hD
  have hP9 := hP.sub (ws' := [(h0, .inr (5, [.ref hm, .ref hh, .ref he, .ref ha, .ref hp, .int 1])), (hh, .inr (3, [.int (tn + 1), .ref qu, .ref qo, .ref qx, .ref qy, .ref qr, .ref qw])), (qo, .inl (cI, 12, .inl (fun _ => 0))), (qx, .inl (cI, 12, .inl (fun _ => 0))), (qy, .inl (cI, 12, .inl (fun _ => 0)))]) [0, 1, 2, 3, 4] rfl
  have hD9 := hD.sub (ws' := [(h0, .inr (5, [.ref hm, .ref hh, .ref he, .ref ha, .ref hp, .int 1])), (hh, .inr (3, [.int (tn + 1), .ref qu, .ref qo, .ref qx, .ref qy, .ref qr, .ref qw])), (qo, .inl (cI, 12, .inl (fun _ => 0))), (qx, .inl (cI, 12, .inl (fun _ => 0))), (qy, .inl (cI, 12, .inl (fun _ => 0)))]) [0, 1, 2, 3, 4] (by decide) rfl
  exact W.vret hx hb hr (fun t ht hW => ⟨⟨(), rfl, trivial, by rw [ht]; exact hP9, hD9⟩, hS.F ht⟩) hS.2.2 d_Sw_beginTurn_25

theorem d_Sw_start_0 : decode b_Sw_start 0 = .ok (.aload_n 0, 1) := by decide +kernel
theorem d_Sw_start_1 : decode b_Sw_start 1 = .ok (.getfield 46, 3) := by decide +kernel
theorem d_Sw_start_4 : decode b_Sw_start 4 = .ok (.ifCond .eq 11, 3) := by decide +kernel
theorem d_Sw_start_7 : decode b_Sw_start 7 = .ok (.new 60, 3) := by decide +kernel
theorem d_Sw_start_10 : decode b_Sw_start 10 = .ok (.dup, 1) := by decide +kernel
theorem d_Sw_start_11 : decode b_Sw_start 11 = .ok (.invokespecial 62, 3) := by decide +kernel
theorem d_Sw_start_14 : decode b_Sw_start 14 = .ok (.athrow, 1) := by decide +kernel
theorem d_Sw_start_15 : decode b_Sw_start 15 = .ok (.aload_n 0, 1) := by decide +kernel
theorem d_Sw_start_16 : decode b_Sw_start 16 = .ok (.invokevirtual 91, 3) := by decide +kernel
theorem d_Sw_start_19 : decode b_Sw_start 19 = .ok (.return_, 1) := by decide +kernel
theorem wd_447 : (Cond.code ({ cls := "SheetWar", name := "beginTurn", desc := "()V" } : MethodName) prog_1_method_31_code (1 : Nat) (Option.none : Option FieldType)) ∈ TB := tb_t 447 (by decide +kernel) (by decide +kernel)
theorem wd_444 : (Cond.methodLink "SheetWar" (91 : Nat) ({ cls := "SheetWar", name := "beginTurn", desc := "()V" } : MethodName)) ∈ TB := tb_t 444 (by decide +kernel) (by decide +kernel)
theorem wd_446 : (Cond.instanceMethod ({ cls := "SheetWar", name := "beginTurn", desc := "()V" } : MethodName)) ∈ TB := tb_t 446 (by decide +kernel) (by decide +kernel)
theorem wp_2 : Cond.selects "SheetWar" ⟨"SheetWar", "beginTurn", "()V"⟩ ⟨"SheetWar", "beginTurn", "()V"⟩ ∈ TB := tb_p 2 (by decide +kernel) (by decide +kernel)
set_option maxHeartbeats 4000000 in
set_option maxRecDepth 100000 in
theorem c_Sw_start (l : Launch) (D : va_G) (cI cZ cJ cS : ClassId) (aT : Nat) (ceT : Cell) (sz : Nat) (h0 hm hh he ha hp : Nat) (tn : Int32) (qu qo qx qy qr qw : Nat) (fo fx fy : Nat → Int32)  : Met l y_Sw_start w_Sw_start ({ frames := 3, cells := 0, slots := 0, locals := 63 }) (tH D cI cZ cJ cS aT ceT [.ref h0] sz [(h0, .inr (5, [.ref hm, .ref hh, .ref he, .ref ha, .ref hp, .int 0])), (hh, .inr (3, [.int tn, .ref qu, .ref qo, .ref qx, .ref qy, .ref qr, .ref qw])), (qo, .inl (cI, 12, .inl fo)), (qx, .inl (cI, 12, .inl fx)), (qy, .inl (cI, 12, .inl fy))]) (va_Qv (fun _ : Unit => True) (fun _ t => tB D (va_A [(h0, .inr (5, [.ref hm, .ref hh, .ref he, .ref ha, .ref hp, .int 0])), (hh, .inr (3, [.int tn, .ref qu, .ref qo, .ref qx, .ref qy, .ref qr, .ref qw])), (qo, .inl (cI, 12, .inl fo)), (qx, .inl (cI, 12, .inl fx)), (qy, .inl (cI, 12, .inl fy))] sz) [(h0, .inr (5, [.ref hm, .ref hh, .ref he, .ref ha, .ref hp, .int 1])), (hh, .inr (3, [.int (tn + 1), .ref qu, .ref qo, .ref qx, .ref qy, .ref qr, .ref qw])), (qo, .inl (cI, 12, .inl (fun _ => 0))), (qx, .inl (cI, 12, .inl (fun _ => 0))), (qy, .inl (cI, 12, .inl (fun _ => 0)))] t) (va_A [(h0, .inr (5, [.ref hm, .ref hh, .ref he, .ref ha, .ref hp, .int 0])), (hh, .inr (3, [.int tn, .ref qu, .ref qo, .ref qx, .ref qy, .ref qr, .ref qw])), (qo, .inl (cI, 12, .inl fo)), (qx, .inl (cI, 12, .inl fx)), (qy, .inl (cI, 12, .inl fy))] sz)) 0 0 (va_A [(h0, .inr (5, [.ref hm, .ref hh, .ref he, .ref ha, .ref hp, .int 0])), (hh, .inr (3, [.int tn, .ref qu, .ref qo, .ref qx, .ref qy, .ref qr, .ref qw])), (qo, .inl (cI, 12, .inl fo)), (qx, .inl (cI, 12, .inl fx)), (qy, .inl (cI, 12, .inl fy))] sz) := by
  refine Met.ofW (cc := b_Sw_start) (maxL := 1) (ret := none) (by decide) rfl ?_
  intro p e s m args below meth c s₁ B hml hv
  obtain ⟨rfl, hsz, hP, hK, hD0, hX⟩ := hv
  have hx := B.exec
  have hb := B.bytes
  have hr := B.returns
  have hts0 := atoms_spec (ws := w_Sw_start) B.pre
  have hts : ∀ w ∈ TB, w.before _ s = true := fun w h => hts0 w (List.mem_cons_of_mem _ h)
  have hown : s.vm.findClass R_Sw = some m.cls := findClass_of_methodNamed B.named
  have hlocks := B.notSynchronized
  subst hsz
  have hXl := tx_lt hX
  have hXn := tx_far hP hX
  have hD := hD0.self (sz := s.heap.size)
  generalize hAe : va_A [(h0, .inr (5, [.ref hm, .ref hh, .ref he, .ref ha, .ref hp, .int 0])), (hh, .inr (3, [.int tn, .ref qu, .ref qo, .ref qx, .ref qy, .ref qr, .ref qw])), (qo, .inl (cI, 12, .inl fo)), (qx, .inl (cI, 12, .inl fx)), (qy, .inl (cI, 12, .inl fy))] s.heap.size = A at hD hXn ⊢
  have hA : ∀ q : Nat, s.heap.size ≤ q → A q := fun q h => by rw [← hAe]; exact Or.inr h
  have hS : va_S A s.heap s.heap [] := va_S.rf
  have hXH : s.heap[aT]? = s.heap[aT]? := rfl
  have hl := lv_entry ([.ref h0]) (n := 1) (Nat.le_of_ble_eq_true rfl)
  rw [lg_entry_eq]
  generalize (lg_sl ([.ref h0]) ++ List.replicate (1 - (lg_sl ([.ref h0])).length) Slot.unset).toArray = ls at hl ⊢
  have hl : lv_has ls 1 [(0, .ref h0)] := hl
  refine lv_aload_n hx hb d_Sw_start_0 rfl (lv_at hl 0 rfl) ?_
  refine va_get (D := D) (ci := 5) (v := .int 0) (C := R_Sw) (T := T_Sw) (N := 6) hx hb hts hin_Sw hown hK hP 0 rfl rfl 5 (by decide) (hts _ wd_206) (fun _ h9 => h9) rfl d_Sw_start_1 ?_
  refine lv_if_eq (tgt := 15) hx hb d_Sw_start_4 (by decide) (fun _ => ?_) (fun h0 => absurd (by decide) h0)
  refine lv_aload_n hx hb d_Sw_start_15 rfl (lv_at hl 0 rfl) ?_
  have hPc := hP.sub (ws' := [(h0, .inr (5, [.ref hm, .ref hh, .ref he, .ref ha, .ref hp, .int 0])), (hh, .inr (3, [.int tn, .ref qu, .ref qo, .ref qx, .ref qy, .ref qr, .ref qw])), (qo, .inl (cI, 12, .inl fo)), (qx, .inl (cI, 12, .inl fx)), (qy, .inl (cI, 12, .inl fy))]) [0, 1, 2, 3, 4] rfl
  have hDc := hD.sub (ws' := [(h0, .inr (5, [.ref hm, .ref hh, .ref he, .ref ha, .ref hp, .int 0])), (hh, .inr (3, [.int tn, .ref qu, .ref qo, .ref qx, .ref qy, .ref qr, .ref qw])), (qo, .inl (cI, 12, .inl fo)), (qx, .inl (cI, 12, .inl fx)), (qy, .inl (cI, 12, .inl fy))]) [0, 1, 2, 3, 4] (by decide) rfl
  have hFc := va_free (wc := [(h0, .inr (5, [.ref hm, .ref hh, .ref he, .ref ha, .ref hp, .int 0])), (hh, .inr (3, [.int tn, .ref qu, .ref qo, .ref qx, .ref qy, .ref qr, .ref qw])), (qo, .inl (cI, 12, .inl fo)), (qx, .inl (cI, 12, .inl fx)), (qy, .inl (cI, 12, .inl fy))]) hD hS hA [0, 1, 2, 3, 4] rfl
  refine va_callv (va_runV (As := []) (rest := []) ⟨hx, hb, hml, hown, hts⟩ (c_Sw_beginTurn l D cI cZ cJ cS aT ceT s.heap.size h0 hm hh he ha hp 0 tn qu qo qx qy qr qw fo fx fy ) (cwV 0 hts (tb_4 wd_444 wd_446 wp_2 wd_1 (tb_c wd_447)) rfl rfl rfl ⟨rfl, by decide, by decide, by decide +kernel⟩ ⟨Nat.le_of_ble_eq_true rfl, Nat.le_of_ble_eq_true rfl⟩) (tH_V hK hX (hS.2.1 aT hXl hXn) hPc hDc (q := 0) rfl rfl) rfl rfl hl.1 rfl (lv_room (Nat.le_of_ble_eq_true rfl)) d_Sw_start_16 ⟨Nat.le_of_ble_eq_true rfl, Nat.le_of_ble_eq_true rfl⟩) hS (fun q _ h => hFc q h) hFc (fun u t H1 locs ht hvm h9 hB hz1 hk1 hS => ?_)
  obtain ⟨hP1, hD1⟩ := hB
  rw [ht] at hP1
  obtain ⟨hP, hD⟩ := va_join (wr := []) (w1 := [(h0, .inr (5, [.ref hm, .ref hh, .ref he, .ref ha, .ref hp, .int 1])), (hh, .inr (3, [.int (tn + 1), .ref qu, .ref qo, .ref qx, .ref qy, .ref qr, .ref qw])), (qo, .inl (cI, 12, .inl (fun _ => 0))), (qx, .inl (cI, 12, .inl (fun _ => 0))), (qy, .inl (cI, 12, .inl (fun _ => 0)))]) hP hD [0, 1, 2, 3, 4] [] rfl rfl (by decide) (by decide) hk1 hFc hP1 hD1
  generalize H1 = H at hP hS ⊢
  have hP : va_P D vwCl [(h0, .inr (5, [.ref hm, .ref hh, .ref he, .ref ha, .ref hp, .int 1])), (hh, .inr (3, [.int (tn + 1), .ref qu, .ref qo, .ref qx, .ref qy, .ref qr, .ref qw])), (qo, .inl (cI, 12, .inl (fun _ => 0))), (qx, .inl (cI, 12, .inl (fun _ => 0))), (qy, .inl (cI, 12, .inl (fun _ => 0)))] H := hP
  have hD : va_D A [(h0, .inr (5, [.ref hm, .ref hh, .ref he, .ref ha, .ref hp, .int 1])), (hh, .inr (3, [.int (tn + 1), .ref qu, .ref qo, .ref qx, .ref qy, .ref qr, .ref qw])), (qo, .inl (cI, 12, .inl (fun _ => 0))), (qx, .inl (cI, 12, .inl (fun _ => 0))), (qy, .inl (cI, 12, .inl (fun _ => 0)))] := hD
  have hP9 := hP.sub (ws' := [(h0, .inr (5, [.ref hm, .ref hh, .ref he, .ref ha, .ref hp, .int 1])), (hh, .inr (3, [.int (tn + 1), .ref qu, .ref qo, .ref qx, .ref qy, .ref qr, .ref qw])), (qo, .inl (cI, 12, .inl (fun _ => 0))), (qx, .inl (cI, 12, .inl (fun _ => 0))), (qy, .inl (cI, 12, .inl (fun _ => 0)))]) [0, 1, 2, 3, 4] rfl
  have hD9 := hD.sub (ws' := [(h0, .inr (5, [.ref hm, .ref hh, .ref he, .ref ha, .ref hp, .int 1])), (hh, .inr (3, [.int (tn + 1), .ref qu, .ref qo, .ref qx, .ref qy, .ref qr, .ref qw])), (qo, .inl (cI, 12, .inl (fun _ => 0))), (qx, .inl (cI, 12, .inl (fun _ => 0))), (qy, .inl (cI, 12, .inl (fun _ => 0)))]) [0, 1, 2, 3, 4] (by decide) rfl
  exact W.vret hx hb hr (fun t ht hW => ⟨⟨(), rfl, trivial, by rw [ht]; exact hP9, hD9⟩, hS.F ht⟩) hS.2.2 d_Sw_start_19


set_option maxHeartbeats 4000000 in
set_option maxRecDepth 100000 in
theorem c_Sw_start_t2 (l : Launch) (D : va_G) (cI cZ cJ cS : ClassId) (aT : Nat) (ceT : Cell) (h0 hm hh he ha hp : Nat) (ph : Int32) (hph : ¬ ph = 0) (hfl : l.flags = pinnedFlags ++ [noTraceFlag]) : MetT l y_Sw_start w_Sw_start ({ frames := 6, cells := 1, slots := 6, locals := 82 }) (tP D cI cZ cJ cS aT ceT [.ref h0] [(h0, .inr (5, [.ref hm, .ref hh, .ref he, .ref ha, .ref hp, .int ph]))]) tx_ise 1 6 := by
  refine MetT.ofW (cc := b_Sw_start) (maxL := 1) (ret := none) (by decide) rfl ?_
  intro p e s m args below meth c s₁ B hml hv
  obtain ⟨rfl, hP, hK, hX⟩ := hv
  have hx := B.exec
  have hb := B.bytes
  have hr := B.returns
  have hts0 := atoms_spec (ws := w_Sw_start) B.pre
  have hts : ∀ w ∈ TB, w.before _ s = true := fun w h => hts0 w (List.mem_cons_of_mem _ h)
  have hno := B.noHandlers (hts0 _ (List.mem_cons_self ..))
  have hown : s.vm.findClass R_Sw = some m.cls := findClass_of_methodNamed B.named
  have hlocks := B.notSynchronized
  have hXH : s.heap[aT]? = s.heap[aT]? := rfl
  have hl := lv_entry ([.ref h0]) (n := 1) (Nat.le_of_ble_eq_true rfl)
  rw [lg_entry_eq]
  generalize (lg_sl ([.ref h0]) ++ List.replicate (1 - (lg_sl ([.ref h0])).length) Slot.unset).toArray = ls at hl ⊢
  have hl : lv_has ls 1 [(0, .ref h0)] := hl
  refine lv_aload_n hx hb d_Sw_start_0 rfl (lv_at hl 0 rfl) ?_
  refine va_get (D := D) (ci := 5) (v := .int ph) (C := R_Sw) (T := T_Sw) (N := 6) hx hb hts hin_Sw hown hK hP 0 rfl rfl 5 (by decide) (hts _ wd_206) (fun _ h9 => h9) rfl d_Sw_start_1 ?_
  refine lv_if_eq (tgt := 15) hx hb d_Sw_start_4 (by decide) (fun hc1 => ?_) (fun hc1 => ?_)
  · -- 4 taken
    exact absurd hc1 hph
  · -- 4 not taken
    exact tx_throwNew (n := 6) hx hb hno hfl hlocks hown (by decide) (by decide) (tx_own2 hts hX) (hts _ wd_390) (hts _ wd_391) (hts _ wd_13) (hl.1.trans hml.symm) d_Sw_start_7 d_Sw_start_10 d_Sw_start_11 d_Sw_start_14 (Nat.le_of_ble_eq_true rfl) (Nat.le_of_ble_eq_true rfl) (Nat.le_of_ble_eq_true rfl) (Nat.le_of_ble_eq_true rfl) (Nat.le_refl _)

theorem d_Sw_bit_0 : decode b_Sw_bit 0 = .ok (.iconst 1, 1) := by decide +kernel
theorem d_Sw_bit_1 : decode b_Sw_bit 1 = .ok (.iload_n 0, 1) := by decide +kernel
theorem d_Sw_bit_2 : decode b_Sw_bit 2 = .ok (.ishl, 1) := by decide +kernel
theorem d_Sw_bit_3 : decode b_Sw_bit 3 = .ok (.ireturn, 1) := by decide +kernel

set_option maxHeartbeats 4000000 in
set_option maxRecDepth 100000 in
theorem c_Sw_bit (l : Launch) (D : va_G) (cI cZ cJ cS : ClassId) (aT : Nat) (ceT : Cell) (a : Int32)  : Met l y_bit w_Sw_bit ({ frames := 0, cells := 0, slots := 0, locals := 0 }) (tP D cI cZ cJ cS aT ceT [.int a] []) (vp_Si (fun r => r = 1 <<< (a &&& 31))) 0 0 (fun _ => False) := by
  refine Met.ofW (cc := b_Sw_bit) (maxL := 1) (ret := (some .int)) (by decide) rfl ?_
  intro p e s m args below meth c s₁ B hml hv
  obtain ⟨rfl, hP, hK, hX⟩ := hv
  have hx := B.exec
  have hb := B.bytes
  have hr := B.returns
  have hts0 := atoms_spec (ws := w_Sw_bit) B.pre
  have hts : ∀ w ∈ TB, w.before _ s = true := fun w h => hts0 w (List.mem_cons_of_mem _ h)
  have hown : s.vm.findClass R_Sw = some m.cls := findClass_of_methodNamed B.named
  have hlocks := B.notSynchronized
  have hXH : s.heap[aT]? = s.heap[aT]? := rfl
  have hl := lv_entry ([.int a]) (n := 1) (Nat.le_of_ble_eq_true rfl)
  rw [lg_entry_eq]
  generalize (lg_sl ([.int a]) ++ List.replicate (1 - (lg_sl ([.int a])).length) Slot.unset).toArray = ls at hl ⊢
  have hl : lv_has ls 1 [(0, .int a)] := hl
  refine lv_iconst (v := 1) hx hb d_Sw_bit_0 (by decide) ?_
  refine lv_iload_n hx hb d_Sw_bit_1 rfl (lv_at hl 0 rfl) ?_
  refine lv_ishl hx hb d_Sw_bit_2 ?_
  exact W.iret (v := 1 <<< (a &&& 31)) hx hb hr (fun t ht hW => ⟨1 <<< (a &&& 31), rfl, rfl, ht⟩) (fun q hq => by cases hq) d_Sw_bit_3

theorem d_Wm_addArea_0 : decode b_Wm_addArea 0 = .ok (.aload_n 0, 1) := by decide +kernel
theorem d_Wm_addArea_1 : decode b_Wm_addArea 1 = .ok (.getfield 18, 3) := by decide +kernel
theorem d_Wm_addArea_4 : decode b_Wm_addArea 4 = .ok (.istore 4, 2) := by decide +kernel
theorem d_Wm_addArea_6 : decode b_Wm_addArea 6 = .ok (.aload_n 0, 1) := by decide +kernel
theorem d_Wm_addArea_7 : decode b_Wm_addArea 7 = .ok (.dup, 1) := by decide +kernel
theorem d_Wm_addArea_8 : decode b_Wm_addArea 8 = .ok (.getfield 18, 3) := by decide +kernel
theorem d_Wm_addArea_11 : decode b_Wm_addArea 11 = .ok (.iconst 1, 1) := by decide +kernel
theorem d_Wm_addArea_12 : decode b_Wm_addArea 12 = .ok (.iadd, 1) := by decide +kernel
theorem d_Wm_addArea_13 : decode b_Wm_addArea 13 = .ok (.putfield 18, 3) := by decide +kernel
theorem d_Wm_addArea_16 : decode b_Wm_addArea 16 = .ok (.aload_n 0, 1) := by decide +kernel
theorem d_Wm_addArea_17 : decode b_Wm_addArea 17 = .ok (.getfield 9, 3) := by decide +kernel
theorem d_Wm_addArea_20 : decode b_Wm_addArea 20 = .ok (.iload 4, 2) := by decide +kernel
theorem d_Wm_addArea_22 : decode b_Wm_addArea 22 = .ok (.iload_n 3, 1) := by decide +kernel
theorem d_Wm_addArea_23 : decode b_Wm_addArea 23 = .ok (.iastore, 1) := by decide +kernel
theorem d_Wm_addArea_24 : decode b_Wm_addArea 24 = .ok (.iload_n 1, 1) := by decide +kernel
theorem d_Wm_addArea_25 : decode b_Wm_addArea 25 = .ok (.iconst 1, 1) := by decide +kernel
theorem d_Wm_addArea_26 : decode b_Wm_addArea 26 = .ok (.if_icmp .ne 17, 3) := by decide +kernel
theorem d_Wm_addArea_29 : decode b_Wm_addArea 29 = .ok (.aload_n 0, 1) := by decide +kernel
theorem d_Wm_addArea_30 : decode b_Wm_addArea 30 = .ok (.dup, 1) := by decide +kernel
theorem d_Wm_addArea_31 : decode b_Wm_addArea 31 = .ok (.getfield 22, 3) := by decide +kernel
theorem d_Wm_addArea_34 : decode b_Wm_addArea 34 = .ok (.iload 4, 2) := by decide +kernel
theorem d_Wm_addArea_36 : decode b_Wm_addArea 36 = .ok (.invokestatic 25, 3) := by decide +kernel
theorem d_Wm_addArea_39 : decode b_Wm_addArea 39 = .ok (.ior, 1) := by decide +kernel
theorem d_Wm_addArea_40 : decode b_Wm_addArea 40 = .ok (.putfield 22, 3) := by decide +kernel
theorem d_Wm_addArea_43 : decode b_Wm_addArea 43 = .ok (.iload_n 2, 1) := by decide +kernel
theorem d_Wm_addArea_44 : decode b_Wm_addArea 44 = .ok (.ifCond .eq 17, 3) := by decide +kernel
theorem d_Wm_addArea_47 : decode b_Wm_addArea 47 = .ok (.aload_n 0, 1) := by decide +kernel
theorem d_Wm_addArea_48 : decode b_Wm_addArea 48 = .ok (.dup, 1) := by decide +kernel
theorem d_Wm_addArea_49 : decode b_Wm_addArea 49 = .ok (.getfield 29, 3) := by decide +kernel
theorem d_Wm_addArea_52 : decode b_Wm_addArea 52 = .ok (.iload 4, 2) := by decide +kernel
theorem d_Wm_addArea_54 : decode b_Wm_addArea 54 = .ok (.invokestatic 25, 3) := by decide +kernel
theorem d_Wm_addArea_57 : decode b_Wm_addArea 57 = .ok (.ior, 1) := by decide +kernel
theorem d_Wm_addArea_58 : decode b_Wm_addArea 58 = .ok (.putfield 29, 3) := by decide +kernel
theorem d_Wm_addArea_61 : decode b_Wm_addArea 61 = .ok (.iload 4, 2) := by decide +kernel
theorem d_Wm_addArea_63 : decode b_Wm_addArea 63 = .ok (.ireturn, 1) := by decide +kernel
theorem wd_35 : (Cond.fieldLink "SheetWar$WarMap" (29 : Nat) "SheetWar$WarMap" "centers" "I") ∈ TB := tb_t 35 (by decide +kernel) (by decide +kernel)
theorem wd_411 : (Cond.code ({ cls := "SheetWar", name := "bit", desc := "(I)I" } : MethodName) prog_1_method_25_code (1 : Nat) (Option.some FieldType.int)) ∈ TB := tb_t 411 (by decide +kernel) (by decide +kernel)
theorem wd_410 : (Cond.static ({ cls := "SheetWar", name := "bit", desc := "(I)I" } : MethodName)) ∈ TB := tb_t 410 (by decide +kernel) (by decide +kernel)
theorem wd_34 : (Cond.fieldLink "SheetWar$WarMap" (22 : Nat) "SheetWar$WarMap" "seas" "I") ∈ TB := tb_t 34 (by decide +kernel) (by decide +kernel)
set_option maxHeartbeats 4000000 in
set_option maxRecDepth 100000 in
theorem c_Wm_addArea (l : Launch) (D : va_G) (cI cZ cJ cS : ClassId) (aT : Nat) (ceT : Cell) (sz : Nat) (h0 qh qn : Nat) (n seas cen : Int32) (fh : Nat → Int32) (k ce h seas2 cen2 : Int32) (hin : vp_in n 12) (hseas : seas2 = if k = 1 then seas ||| (1 <<< (n &&& 31)) else seas) (hcen : cen2 = if ce = 0 then cen else cen ||| (1 <<< (n &&& 31))) : Met l y_Wm_addArea w_Wm_addArea ({ frames := 1, cells := 0, slots := 0, locals := 20 }) (tH D cI cZ cJ cS aT ceT [.ref h0, .int k, .int ce, .int h] sz [(h0, .inr (4, [.int n, .int seas, .int cen, .ref qh, .ref qn])), (qh, .inl (cI, 12, .inl fh))]) (va_Qi (fun (r : Int32) (_ : Unit) => r = n) (fun _ t => tB D (va_A [(h0, .inr (4, [.int n, .int seas, .int cen, .ref qh, .ref qn])), (qh, .inl (cI, 12, .inl fh))] sz) [(h0, .inr (4, [.int (n + 1), .int seas2, .int cen2, .ref qh, .ref qn])), (qh, .inl (cI, 12, .inl (upd fh n.toNatClampNeg h)))] t) (va_A [(h0, .inr (4, [.int n, .int seas, .int cen, .ref qh, .ref qn])), (qh, .inl (cI, 12, .inl fh))] sz)) 0 0 (va_A [(h0, .inr (4, [.int n, .int seas, .int cen, .ref qh, .ref qn])), (qh, .inl (cI, 12, .inl fh))] sz) := by
  refine Met.ofW (cc := b_Wm_addArea) (maxL := 5) (ret := (some .int)) (by decide) rfl ?_
  intro p e s m args below meth c s₁ B hml hv
  obtain ⟨rfl, hsz, hP, hK, hD0, hX⟩ := hv
  have hx := B.exec
  have hb := B.bytes
  have hr := B.returns
  have hts0 := atoms_spec (ws := w_Wm_addArea) B.pre
  have hts : ∀ w ∈ TB, w.before _ s = true := fun w h => hts0 w (List.mem_cons_of_mem _ h)
  have hown : s.vm.findClass R_Wm = some m.cls := findClass_of_methodNamed B.named
  have hlocks := B.notSynchronized
  subst hsz
  have hXl := tx_lt hX
  have hXn := tx_far hP hX
  have hD := hD0.self (sz := s.heap.size)
  generalize hAe : va_A [(h0, .inr (4, [.int n, .int seas, .int cen, .ref qh, .ref qn])), (qh, .inl (cI, 12, .inl fh))] s.heap.size = A at hD hXn ⊢
  have hA : ∀ q : Nat, s.heap.size ≤ q → A q := fun q h => by rw [← hAe]; exact Or.inr h
  have hS : va_S A s.heap s.heap [] := va_S.rf
  have hXH : s.heap[aT]? = s.heap[aT]? := rfl
  have hl := lv_entry ([.ref h0, .int k, .int ce, .int h]) (n := 5) (Nat.le_of_ble_eq_true rfl)
  rw [lg_entry_eq]
  generalize (lg_sl ([.ref h0, .int k, .int ce, .int h]) ++ List.replicate (5 - (lg_sl ([.ref h0, .int k, .int ce, .int h])).length) Slot.unset).toArray = ls at hl ⊢
  have hl : lv_has ls 5 [(0, .ref h0), (1, .int k), (2, .int ce), (3, .int h)] := hl
  refine lv_aload_n hx hb d_Wm_addArea_0 rfl (lv_at hl 0 rfl) ?_
  refine va_get (D := D) (ci := 4) (v := .int n) (C := R_Wm) (T := T_Wm) (N := 5) hx hb hts hin_Wm hown hK hP 0 rfl rfl 0 (by decide) (hts _ wd_31) (fun _ h9 => h9) rfl d_Wm_addArea_1 ?_
  refine lv_istore (lv' := [(4, .int n), (0, .ref h0), (1, .int k), (2, .int ce), (3, .int h)]) hx hb d_Wm_addArea_4 hl (by decide) rfl (fun ls hl => ?_)
  refine lv_aload_n hx hb d_Wm_addArea_6 rfl (lv_at hl 1 rfl) ?_
  refine lv_dup hx hb d_Wm_addArea_7 rfl ?_
  refine va_get (D := D) (ci := 4) (v := .int n) (C := R_Wm) (T := T_Wm) (N := 5) hx hb hts hin_Wm hown hK hP 0 rfl rfl 0 (by decide) (hts _ wd_31) (fun _ h9 => h9) rfl d_Wm_addArea_8 ?_
  refine lv_iconst (v := 1) hx hb d_Wm_addArea_11 (by decide) ?_
  refine lv_iadd hx hb d_Wm_addArea_12 ?_
  refine va_put (D := D) (ci := 4) (v := .int (n + 1)) (ty := .int) (C := R_Wm) (T := T_Wm) (N := 5) hx hb hts hin_Wm ty_Wm tyok_Wm nm_Wm hown hK hP hD hS 0 rfl rfl 0 (by decide) (hts _ wd_31) (fun _ h9 => h9) rfl (by decide +kernel) rfl rfl (Nat.le_of_ble_eq_true rfl) d_Wm_addArea_13 (fun H locs hP hD hS => ?_)
  have hP : va_P D vwCl [(h0, .inr (4, [.int (n + 1), .int seas, .int cen, .ref qh, .ref qn])), (qh, .inl (cI, 12, .inl fh))] H := hP
  have hD : va_D A [(h0, .inr (4, [.int (n + 1), .int seas, .int cen, .ref qh, .ref qn])), (qh, .inl (cI, 12, .inl fh))] := hD
  refine lv_aload_n hx hb d_Wm_addArea_16 rfl (lv_at hl 1 rfl) ?_
  refine va_get (D := D) (ci := 4) (v := .ref qh) (C := R_Wm) (T := T_Wm) (N := 5) hx hb hts hin_Wm hown hK hP 0 rfl rfl 3 (by decide) (hts _ wd_37) (fun _ h9 => h9) rfl d_Wm_addArea_17 ?_
  refine lv_iload hx hb d_Wm_addArea_20 (lv_at hl 0 rfl) ?_
  refine lv_iload_n hx hb d_Wm_addArea_22 rfl (lv_at hl 4 rfl) ?_
  refine va_iast hx hb hK hP hD hS 1 0 rfl rfl hin d_Wm_addArea_23 (fun H locs hP hD hS => ?_)
  have hP : va_P D vwCl [(h0, .inr (4, [.int (n + 1), .int seas, .int cen, .ref qh, .ref qn])), (qh, .inl (cI, 12, .inl (upd fh n.toNatClampNeg h)))] H := hP
  have hD : va_D A [(h0, .inr (4, [.int (n + 1), .int seas, .int cen, .ref qh, .ref qn])), (qh, .inl (cI, 12, .inl (upd fh n.toNatClampNeg h)))] := hD
  refine lv_iload_n hx hb d_Wm_addArea_24 rfl (lv_at hl 2 rfl) ?_
  refine lv_iconst (v := 1) hx hb d_Wm_addArea_25 (by decide) ?_
  refine lv_icmp_ne (tgt := 43) hx hb d_Wm_addArea_26 (by decide) (fun hc1 => ?_) (fun hc1 => ?_)
  · -- 26 taken
    refine lv_iload_n hx hb d_Wm_addArea_43 rfl (lv_at hl 3 rfl) ?_
    refine lv_if_eq (tgt := 61) hx hb d_Wm_addArea_44 (by decide) (fun hc2 => ?_) (fun hc2 => ?_)
    · -- 44 taken
      refine lv_iload hx hb d_Wm_addArea_61 (lv_at hl 0 rfl) ?_
      have hP9 := hP.sub (ws' := [(h0, .inr (4, [.int (n + 1), .int seas, .int cen, .ref qh, .ref qn])), (qh, .inl (cI, 12, .inl (upd fh n.toNatClampNeg h)))]) [0, 1] rfl
      have hD9 := hD.sub (ws' := [(h0, .inr (4, [.int (n + 1), .int seas, .int cen, .ref qh, .ref qn])), (qh, .inl (cI, 12, .inl (upd fh n.toNatClampNeg h)))]) [0, 1] (by decide) rfl
      have e1 : seas2 = seas := by rw [hseas, if_neg hc1]
      have e2 : cen2 = cen := by rw [hcen, if_pos hc2]
      rw [← e1, ← e2] at hP9 hD9
      exact W.iret (v := n) hx hb hr (fun t ht hW => ⟨⟨n, (), rfl, rfl, by rw [ht]; exact hP9, hD9⟩, hS.F ht⟩) hS.2.2 d_Wm_addArea_63
    · -- 44 not taken
      refine lv_aload_n hx hb d_Wm_addArea_47 rfl (lv_at hl 1 rfl) ?_
      refine lv_dup hx hb d_Wm_addArea_48 rfl ?_
      refine va_get (D := D) (ci := 4) (v := .int cen) (C := R_Wm) (T := T_Wm) (N := 5) hx hb hts hin_Wm hown hK hP 0 rfl rfl 2 (by decide) (hts _ wd_35) (fun _ h9 => h9) rfl d_Wm_addArea_49 ?_
      refine lv_iload hx hb d_Wm_addArea_52 (lv_at hl 0 rfl) ?_
      have hPc := hP.sub (ws' := []) [] rfl
      refine vp_callSi (va_Run.run (va_runSN (As := [.int n]) (rest := [.int cen, .ref h0]) ⟨hx, hb, hml, hown, hts⟩ (c_Sw_bit l D cI cZ cJ cS aT ceT  n ) (⟨va_cnB 1 hts (tb_c wd_411) rfl rfl rfl hX.2.2.2.2.2.2.1 (hts _ wd_1) ⟨by decide, by decide, by decide +kernel⟩ ⟨Nat.le_of_ble_eq_true rfl, Nat.le_of_ble_eq_true rfl⟩, hts _ wd_410, trivial⟩) (tP_S hK hX (hS.2.1 aT hXl hXn) hPc) rfl rfl hl.1 rfl (lv_room (Nat.le_of_ble_eq_true rfl)) d_Wm_addArea_54 ⟨Nat.le_of_ble_eq_true rfl, Nat.le_of_ble_eq_true rfl⟩)) (fun r3 hr9 => ?_)
      rw [hr9]
      refine lv_ior hx hb d_Wm_addArea_57 ?_
      refine va_put (D := D) (ci := 4) (v := .int (cen ||| (1 <<< (n &&& 31)))) (ty := .int) (C := R_Wm) (T := T_Wm) (N := 5) hx hb hts hin_Wm ty_Wm tyok_Wm nm_Wm hown hK hP hD hS 0 rfl rfl 2 (by decide) (hts _ wd_35) (fun _ h9 => h9) rfl (by decide +kernel) rfl rfl (Nat.le_of_ble_eq_true rfl) d_Wm_addArea_58 (fun H locs hP hD hS => ?_)
      have hP : va_P D vwCl [(h0, .inr (4, [.int (n + 1), .int seas, .int (cen ||| (1 <<< (n &&& 31))), .ref qh, .ref qn])), (qh, .inl (cI, 12, .inl (upd fh n.toNatClampNeg h)))] H := hP
      have hD : va_D A [(h0, .inr (4, [.int (n + 1), .int seas, .int (cen ||| (1 <<< (n &&& 31))), .ref qh, .ref qn])), (qh, .inl (cI, 12, .inl (upd fh n.toNatClampNeg h)))] := hD
      refine lv_iload hx hb d_Wm_addArea_61 (lv_at hl 0 rfl) ?_
      have hP9 := hP.sub (ws' := [(h0, .inr (4, [.int (n + 1), .int seas, .int (cen ||| (1 <<< (n &&& 31))), .ref qh, .ref qn])), (qh, .inl (cI, 12, .inl (upd fh n.toNatClampNeg h)))]) [0, 1] rfl
      have hD9 := hD.sub (ws' := [(h0, .inr (4, [.int (n + 1), .int seas, .int (cen ||| (1 <<< (n &&& 31))), .ref qh, .ref qn])), (qh, .inl (cI, 12, .inl (upd fh n.toNatClampNeg h)))]) [0, 1] (by decide) rfl
      have e1 : seas2 = seas := by rw [hseas, if_neg hc1]
      have e2 : cen2 = cen ||| (1 <<< (n &&& 31)) := by rw [hcen, if_neg hc2]
      rw [← e1, ← e2] at hP9 hD9
      exact W.iret (v := n) hx hb hr (fun t ht hW => ⟨⟨n, (), rfl, rfl, by rw [ht]; exact hP9, hD9⟩, hS.F ht⟩) hS.2.2 d_Wm_addArea_63
  · -- 26 not taken
    refine lv_aload_n hx hb d_Wm_addArea_29 rfl (lv_at hl 1 rfl) ?_
    refine lv_dup hx hb d_Wm_addArea_30 rfl ?_
    refine va_get (D := D) (ci := 4) (v := .int seas) (C := R_Wm) (T := T_Wm) (N := 5) hx hb hts hin_Wm hown hK hP 0 rfl rfl 1 (by decide) (hts _ wd_34) (fun _ h9 => h9) rfl d_Wm_addArea_31 ?_
    refine lv_iload hx hb d_Wm_addArea_34 (lv_at hl 0 rfl) ?_
    have hPc := hP.sub (ws' := []) [] rfl
    refine vp_callSi (va_Run.run (va_runSN (As := [.int n]) (rest := [.int seas, .ref h0]) ⟨hx, hb, hml, hown, hts⟩ (c_Sw_bit l D cI cZ cJ cS aT ceT  n ) (⟨va_cnB 1 hts (tb_c wd_411) rfl rfl rfl hX.2.2.2.2.2.2.1 (hts _ wd_1) ⟨by decide, by decide, by decide +kernel⟩ ⟨Nat.le_of_ble_eq_true rfl, Nat.le_of_ble_eq_true rfl⟩, hts _ wd_410, trivial⟩) (tP_S hK hX (hS.2.1 aT hXl hXn) hPc) rfl rfl hl.1 rfl (lv_room (Nat.le_of_ble_eq_true rfl)) d_Wm_addArea_36 ⟨Nat.le_of_ble_eq_true rfl, Nat.le_of_ble_eq_true rfl⟩)) (fun r4 hr9 => ?_)
    rw [hr9]
    refine lv_ior hx hb d_Wm_addArea_39 ?_
    refine va_put (D := D) (ci := 4) (v := .int (seas ||| (1 <<< (n &&& 31)))) (ty := .int) (C := R_Wm) (T := T_Wm) (N := 5) hx hb hts hin_Wm ty_Wm tyok_Wm nm_Wm hown hK hP hD hS 0 rfl rfl 1 (by decide) (hts _ wd_34) (fun _ h9 => h9) rfl (by decide +kernel) rfl rfl (Nat.le_of_ble_eq_true rfl) d_Wm_addArea_40 (fun H locs hP hD hS => ?_)
    have hP : va_P D vwCl [(h0, .inr (4, [.int (n + 1), .int (seas ||| (1 <<< (n &&& 31))), .int cen, .ref qh, .ref qn])), (qh, .inl (cI, 12, .inl (upd fh n.toNatClampNeg h)))] H := hP
    have hD : va_D A [(h0, .inr (4, [.int (n + 1), .int (seas ||| (1 <<< (n &&& 31))), .int cen, .ref qh, .ref qn])), (qh, .inl (cI, 12, .inl (upd fh n.toNatClampNeg h)))] := hD
    refine lv_iload_n hx hb d_Wm_addArea_43 rfl (lv_at hl 3 rfl) ?_
    refine lv_if_eq (tgt := 61) hx hb d_Wm_addArea_44 (by decide) (fun hc5 => ?_) (fun hc5 => ?_)
    · -- 44 taken
      refine lv_iload hx hb d_Wm_addArea_61 (lv_at hl 0 rfl) ?_
      have hP9 := hP.sub (ws' := [(h0, .inr (4, [.int (n + 1), .int (seas ||| (1 <<< (n &&& 31))), .int cen, .ref qh, .ref qn])), (qh, .inl (cI, 12, .inl (upd fh n.toNatClampNeg h)))]) [0, 1] rfl
      have hD9 := hD.sub (ws' := [(h0, .inr (4, [.int (n + 1), .int (seas ||| (1 <<< (n &&& 31))), .int cen, .ref qh, .ref qn])), (qh, .inl (cI, 12, .inl (upd fh n.toNatClampNeg h)))]) [0, 1] (by decide) rfl
      have e1 : seas2 = seas ||| (1 <<< (n &&& 31)) := by rw [hseas, if_pos hc1]
      have e2 : cen2 = cen := by rw [hcen, if_pos hc5]
      rw [← e1, ← e2] at hP9 hD9
      exact W.iret (v := n) hx hb hr (fun t ht hW => ⟨⟨n, (), rfl, rfl, by rw [ht]; exact hP9, hD9⟩, hS.F ht⟩) hS.2.2 d_Wm_addArea_63
    · -- 44 not taken
      refine lv_aload_n hx hb d_Wm_addArea_47 rfl (lv_at hl 1 rfl) ?_
      refine lv_dup hx hb d_Wm_addArea_48 rfl ?_
      refine va_get (D := D) (ci := 4) (v := .int cen) (C := R_Wm) (T := T_Wm) (N := 5) hx hb hts hin_Wm hown hK hP 0 rfl rfl 2 (by decide) (hts _ wd_35) (fun _ h9 => h9) rfl d_Wm_addArea_49 ?_
      refine lv_iload hx hb d_Wm_addArea_52 (lv_at hl 0 rfl) ?_
      have hPc := hP.sub (ws' := []) [] rfl
      refine vp_callSi (va_Run.run (va_runSN (As := [.int n]) (rest := [.int cen, .ref h0]) ⟨hx, hb, hml, hown, hts⟩ (c_Sw_bit l D cI cZ cJ cS aT ceT  n ) (⟨va_cnB 1 hts (tb_c wd_411) rfl rfl rfl hX.2.2.2.2.2.2.1 (hts _ wd_1) ⟨by decide, by decide, by decide +kernel⟩ ⟨Nat.le_of_ble_eq_true rfl, Nat.le_of_ble_eq_true rfl⟩, hts _ wd_410, trivial⟩) (tP_S hK hX (hS.2.1 aT hXl hXn) hPc) rfl rfl hl.1 rfl (lv_room (Nat.le_of_ble_eq_true rfl)) d_Wm_addArea_54 ⟨Nat.le_of_ble_eq_true rfl, Nat.le_of_ble_eq_true rfl⟩)) (fun r6 hr9 => ?_)
      rw [hr9]
      refine lv_ior hx hb d_Wm_addArea_57 ?_
      refine va_put (D := D) (ci := 4) (v := .int (cen ||| (1 <<< (n &&& 31)))) (ty := .int) (C := R_Wm) (T := T_Wm) (N := 5) hx hb hts hin_Wm ty_Wm tyok_Wm nm_Wm hown hK hP hD hS 0 rfl rfl 2 (by decide) (hts _ wd_35) (fun _ h9 => h9) rfl (by decide +kernel) rfl rfl (Nat.le_of_ble_eq_true rfl) d_Wm_addArea_58 (fun H locs hP hD hS => ?_)
      have hP : va_P D vwCl [(h0, .inr (4, [.int (n + 1), .int (seas ||| (1 <<< (n &&& 31))), .int (cen ||| (1 <<< (n &&& 31))), .ref qh, .ref qn])), (qh, .inl (cI, 12, .inl (upd fh n.toNatClampNeg h)))] H := hP
      have hD : va_D A [(h0, .inr (4, [.int (n + 1), .int (seas ||| (1 <<< (n &&& 31))), .int (cen ||| (1 <<< (n &&& 31))), .ref qh, .ref qn])), (qh, .inl (cI, 12, .inl (upd fh n.toNatClampNeg h)))] := hD
      refine lv_iload hx hb d_Wm_addArea_61 (lv_at hl 0 rfl) ?_
      have hP9 := hP.sub (ws' := [(h0, .inr (4, [.int (n + 1), .int (seas ||| (1 <<< (n &&& 31))), .int (cen ||| (1 <<< (n &&& 31))), .ref qh, .ref qn])), (qh, .inl (cI, 12, .inl (upd fh n.toNatClampNeg h)))]) [0, 1] rfl
      have hD9 := hD.sub (ws' := [(h0, .inr (4, [.int (n + 1), .int (seas ||| (1 <<< (n &&& 31))), .int (cen ||| (1 <<< (n &&& 31))), .ref qh, .ref qn])), (qh, .inl (cI, 12, .inl (upd fh n.toNatClampNeg h)))]) [0, 1] (by decide) rfl
      have e1 : seas2 = seas ||| (1 <<< (n &&& 31)) := by rw [hseas, if_pos hc1]
      have e2 : cen2 = cen ||| (1 <<< (n &&& 31)) := by rw [hcen, if_neg hc5]
      rw [← e1, ← e2] at hP9 hD9
      exact W.iret (v := n) hx hb hr (fun t ht hW => ⟨⟨n, (), rfl, rfl, by rw [ht]; exact hP9, hD9⟩, hS.F ht⟩) hS.2.2 d_Wm_addArea_63

theorem wd_32 : (Cond.fieldLink "SheetWar" (57 : Nat) "SheetWar$WarMap" "size" "I") ∈ TB := tb_t 32 (by decide +kernel) (by decide +kernel)
theorem wd_408 : (Cond.code ({ cls := "SheetWar$WarMap", name := "addArea", desc := "(IZI)I" } : MethodName) prog_6_method_3_code (5 : Nat) (Option.some FieldType.int)) ∈ TB := tb_t 408 (by decide +kernel) (by decide +kernel)
theorem wd_405 : (Cond.methodLink "SheetWar" (67 : Nat) ({ cls := "SheetWar$WarMap", name := "addArea", desc := "(IZI)I" } : MethodName)) ∈ TB := tb_t 405 (by decide +kernel) (by decide +kernel)
theorem wd_406 : (Cond.instanceMethod ({ cls := "SheetWar$WarMap", name := "addArea", desc := "(IZI)I" } : MethodName)) ∈ TB := tb_t 406 (by decide +kernel) (by decide +kernel)
theorem wd_407 : (Cond.selects "SheetWar$WarMap" ({ cls := "SheetWar$WarMap", name := "addArea", desc := "(IZI)I" } : MethodName) ({ cls := "SheetWar$WarMap", name := "addArea", desc := "(IZI)I" } : MethodName)) ∈ TB := tb_t 407 (by decide +kernel) (by decide +kernel)
set_option maxHeartbeats 4000000 in
set_option maxRecDepth 100000 in
theorem c_Sw_area (l : Launch) (D : va_G) (cI cZ cJ cS : ClassId) (aT : Nat) (ceT : Cell) (sz : Nat) (h0 hm hh he ha hp : Nat) (qh qn : Nat) (n seas cen : Int32) (fh : Nat → Int32) (tn : Int32) (qu qo qx qy qr qw : Nat) (fw : Nat → Int32) (k ce h : Int32) (hin : vp_in n 12) (hok : okA k ce h) : Met l y_Sw_area w_Sw_area ({ frames := 2, cells := 0, slots := 0, locals := 44 }) (tH D cI cZ cJ cS aT ceT [.ref h0, .int k, .int ce, .int h] sz [(h0, .inr (5, [.ref hm, .ref hh, .ref he, .ref ha, .ref hp, .int 0])), (hm, .inr (4, [.int n, .int seas, .int cen, .ref qh, .ref qn])), (qh, .inl (cI, 12, .inl fh)), (hh, .inr (3, [.int tn, .ref qu, .ref qo, .ref qx, .ref qy, .ref qr, .ref qw])), (qw, .inl (cI, 12, .inl fw))]) (va_Qi (fun (r : Int32) (_ : Unit) => r = n) (fun _ t => tB D (va_A [(h0, .inr (5, [.ref hm, .ref hh, .ref he, .ref ha, .ref hp, .int 0])), (hm, .inr (4, [.int n, .int seas, .int cen, .ref qh, .ref qn])), (qh, .inl (cI, 12, .inl fh)), (hh, .inr (3, [.int tn, .ref qu, .ref qo, .ref qx, .ref qy, .ref qr, .ref qw])), (qw, .inl (cI, 12, .inl fw))] sz) [(h0, .inr (5, [.ref hm, .ref hh, .ref he, .ref ha, .ref hp, .int 0])), (hm, .inr (4, [.int (n + 1), .int (if k = 1 then seas ||| (1 <<< (n &&& 31)) else seas), .int (if ce = 0 then cen else cen ||| (1 <<< (n &&& 31))), .ref qh, .ref qn])), (qh, .inl (cI, 12, .inl (upd fh n.toNatClampNeg h))), (hh, .inr (3, [.int tn, .ref qu, .ref qo, .ref qx, .ref qy, .ref qr, .ref qw])), (qw, .inl (cI, 12, .inl (upd fw n.toNatClampNeg h)))] t) (va_A [(h0, .inr (5, [.ref hm, .ref hh, .ref he, .ref ha, .ref hp, .int 0])), (hm, .inr (4, [.int n, .int seas, .int cen, .ref qh, .ref qn])), (qh, .inl (cI, 12, .inl fh)), (hh, .inr (3, [.int tn, .ref qu, .ref qo, .ref qx, .ref qy, .ref qr, .ref qw])), (qw, .inl (cI, 12, .inl fw))] sz)) 0 0 (va_A [(h0, .inr (5, [.ref hm, .ref hh, .ref he, .ref ha, .ref hp, .int 0])), (hm, .inr (4, [.int n, .int seas, .int cen, .ref qh, .ref qn])), (qh, .inl (cI, 12, .inl fh)), (hh, .inr (3, [.int tn, .ref qu, .ref qo, .ref qx, .ref qy, .ref qr, .ref qw])), (qw, .inl (cI, 12, .inl fw))] sz) := by
  refine Met.ofW (cc := b_Sw_area) (maxL := 4) (ret := (some .int)) (by decide) rfl ?_
  intro p e s m args below meth c s₁ B hml hv
  obtain ⟨rfl, hsz, hP, hK, hD0, hX⟩ := hv
  have hx := B.exec
  have hb := B.bytes
  have hr := B.returns
  have hts0 := atoms_spec (ws := w_Sw_area) B.pre
  have hts : ∀ w ∈ TB, w.before _ s = true := fun w h => hts0 w (List.mem_cons_of_mem _ h)
  have hown : s.vm.findClass R_Sw = some m.cls := findClass_of_methodNamed B.named
  have hlocks := B.notSynchronized
  subst hsz
  have hXl := tx_lt hX
  have hXn := tx_far hP hX
  have hD := hD0.self (sz := s.heap.size)
  generalize hAe : va_A [(h0, .inr (5, [.ref hm, .ref hh, .ref he, .ref ha, .ref hp, .int 0])), (hm, .inr (4, [.int n, .int seas, .int cen, .ref qh, .ref qn])), (qh, .inl (cI, 12, .inl fh)), (hh, .inr (3, [.int tn, .ref qu, .ref qo, .ref qx, .ref qy, .ref qr, .ref qw])), (qw, .inl (cI, 12, .inl fw))] s.heap.size = A at hD hXn ⊢
  have hA : ∀ q : Nat, s.heap.size ≤ q → A q := fun q h => by rw [← hAe]; exact Or.inr h
  have hS : va_S A s.heap s.heap [] := va_S.rf
  have hXH : s.heap[aT]? = s.heap[aT]? := rfl
  have hl := lv_entry ([.ref h0, .int k, .int ce, .int h]) (n := 4) (Nat.le_of_ble_eq_true rfl)
  rw [lg_entry_eq]
  generalize (lg_sl ([.ref h0, .int k, .int ce, .int h]) ++ List.replicate (4 - (lg_sl ([.ref h0, .int k, .int ce, .int h])).length) Slot.unset).toArray = ls at hl ⊢
  have hl : lv_has ls 4 [(0, .ref h0), (1, .int k), (2, .int ce), (3, .int h)] := hl
  refine lv_iload_n hx hb d_Sw_area_0 rfl (lv_at hl 1 rfl) ?_
  refine lv_if_eq (tgt := 17) hx hb d_Sw_area_1 (by decide) (fun hc1 => ?_) (fun hc1 => ?_)
  · -- 1 taken
    refine lv_iload_n hx hb d_Sw_area_17 rfl (lv_at hl 3 rfl) ?_
    refine lv_iconst (v := (-1)) hx hb d_Sw_area_18 (by decide) ?_
    refine lv_icmp_eq (tgt := 37) hx hb d_Sw_area_19 (by decide) (fun hc2 => ?_) (fun hc2 => ?_)
    · -- 19 taken
      refine lv_iload_n hx hb d_Sw_area_37 rfl (lv_at hl 2 rfl) ?_
      refine lv_if_eq (tgt := 49) hx hb d_Sw_area_38 (by decide) (fun hc3 => ?_) (fun hc3 => ?_)
      · -- 38 taken
        refine lv_iload_n hx hb d_Sw_area_49 rfl (lv_at hl 3 rfl) ?_
        refine lv_iconst (v := (-1)) hx hb d_Sw_area_50 (by decide) ?_
        refine lv_icmp_eq (tgt := 62) hx hb d_Sw_area_51 (by decide) (fun _ => ?_) (fun h0 => absurd hc2 h0)
        refine lv_aload_n hx hb d_Sw_area_62 rfl (lv_at hl 0 rfl) ?_
        refine va_get (D := D) (ci := 5) (v := .int 0) (C := R_Sw) (T := T_Sw) (N := 6) hx hb hts hin_Sw hown hK hP 0 rfl rfl 5 (by decide) (hts _ wd_206) (fun _ h9 => h9) rfl d_Sw_area_63 ?_
        refine lv_if_ne (tgt := 81) hx hb d_Sw_area_66 (by decide) (fun h0 => absurd (by decide) h0) (fun _ => ?_)
        refine lv_aload_n hx hb d_Sw_area_69 rfl (lv_at hl 0 rfl) ?_
        refine va_get (D := D) (ci := 5) (v := .ref hm) (C := R_Sw) (T := T_Sw) (N := 6) hx hb hts hin_Sw hown hK hP 0 rfl rfl 0 (by decide) (hts _ wd_201) (fun _ h9 => h9) rfl d_Sw_area_70 ?_
        refine va_get (D := D) (ci := 4) (v := .int n) (C := R_Wm) (T := T_Wm) (N := 5) hx hb hts hin_Wm hown hK hP 1 rfl rfl 0 (by decide) (hts _ wd_32) (fun _ h9 => h9) rfl d_Sw_area_73 ?_
        refine lv_bipush (v := 12) hx hb d_Sw_area_76 (by decide) ?_
        refine lv_icmp_lt (tgt := 89) hx hb d_Sw_area_78 (by decide) (fun hc6 => ?_) (fun hc6 => ?_)
        · -- 78 taken
          refine lv_aload_n hx hb d_Sw_area_89 rfl (lv_at hl 0 rfl) ?_
          refine va_get (D := D) (ci := 5) (v := .ref hh) (C := R_Sw) (T := T_Sw) (N := 6) hx hb hts hin_Sw hown hK hP 0 rfl rfl 1 (by decide) (hts _ wd_202) (fun _ h9 => h9) rfl d_Sw_area_90 ?_
          refine va_get (D := D) (ci := 3) (v := .ref qw) (C := R_Sh) (T := T_Sh) (N := 7) hx hb hts hin_Sh hown hK hP 3 rfl rfl 6 (by decide) (hts _ wd_81) (fun _ h9 => h9) rfl d_Sw_area_93 ?_
          refine lv_aload_n hx hb d_Sw_area_96 rfl (lv_at hl 0 rfl) ?_
          refine va_get (D := D) (ci := 5) (v := .ref hm) (C := R_Sw) (T := T_Sw) (N := 6) hx hb hts hin_Sw hown hK hP 0 rfl rfl 0 (by decide) (hts _ wd_201) (fun _ h9 => h9) rfl d_Sw_area_97 ?_
          refine va_get (D := D) (ci := 4) (v := .int n) (C := R_Wm) (T := T_Wm) (N := 5) hx hb hts hin_Wm hown hK hP 1 rfl rfl 0 (by decide) (hts _ wd_32) (fun _ h9 => h9) rfl d_Sw_area_100 ?_
          refine lv_iload_n hx hb d_Sw_area_103 rfl (lv_at hl 3 rfl) ?_
          refine va_iast hx hb hK hP hD hS 4 0 rfl rfl hin d_Sw_area_104 (fun H locs hP hD hS => ?_)
          have hP : va_P D vwCl [(h0, .inr (5, [.ref hm, .ref hh, .ref he, .ref ha, .ref hp, .int 0])), (hm, .inr (4, [.int n, .int seas, .int cen, .ref qh, .ref qn])), (qh, .inl (cI, 12, .inl fh)), (hh, .inr (3, [.int tn, .ref qu, .ref qo, .ref qx, .ref qy, .ref qr, .ref qw])), (qw, .inl (cI, 12, .inl (upd fw n.toNatClampNeg h)))] H := hP
          have hD : va_D A [(h0, .inr (5, [.ref hm, .ref hh, .ref he, .ref ha, .ref hp, .int 0])), (hm, .inr (4, [.int n, .int seas, .int cen, .ref qh, .ref qn])), (qh, .inl (cI, 12, .inl fh)), (hh, .inr (3, [.int tn, .ref qu, .ref qo, .ref qx, .ref qy, .ref qr, .ref qw])), (qw, .inl (cI, 12, .inl (upd fw n.toNatClampNeg h)))] := hD
          refine lv_aload_n hx hb d_Sw_area_105 rfl (lv_at hl 0 rfl) ?_
          refine va_get (D := D) (ci := 5) (v := .ref hm) (C := R_Sw) (T := T_Sw) (N := 6) hx hb hts hin_Sw hown hK hP 0 rfl rfl 0 (by decide) (hts _ wd_201) (fun _ h9 => h9) rfl d_Sw_area_106 ?_
          refine lv_iload_n hx hb d_Sw_area_109 rfl (lv_at hl 1 rfl) ?_
          refine lv_iload_n hx hb d_Sw_area_110 rfl (lv_at hl 2 rfl) ?_
          refine lv_iload_n hx hb d_Sw_area_111 rfl (lv_at hl 3 rfl) ?_
          have hPc := hP.sub (ws' := [(hm, .inr (4, [.int n, .int seas, .int cen, .ref qh, .ref qn])), (qh, .inl (cI, 12, .inl fh))]) [1, 2] rfl
          have hDc := hD.sub (ws' := [(hm, .inr (4, [.int n, .int seas, .int cen, .ref qh, .ref qn])), (qh, .inl (cI, 12, .inl fh))]) [1, 2] (by decide) rfl
          have hFc := va_free (wc := [(hm, .inr (4, [.int n, .int seas, .int cen, .ref qh, .ref qn])), (qh, .inl (cI, 12, .inl fh))]) hD hS hA [1, 2] rfl
          refine va_calli (va_runV (As := [.int k, .int ce, .int h]) (rest := []) ⟨hx, hb, hml, hown, hts⟩ (c_Wm_addArea l D cI cZ cJ cS aT ceT H.size hm qh qn n seas cen fh k ce h (if k = 1 then seas ||| (1 <<< (n &&& 31)) else seas) (if ce = 0 then cen else cen ||| (1 <<< (n &&& 31))) hin rfl rfl) (cwV 3 hts (tb_4 wd_405 wd_406 wd_407 wd_2 (tb_c wd_408)) rfl rfl rfl ⟨rfl, by decide, by decide, by decide +kernel⟩ ⟨Nat.le_of_ble_eq_true rfl, Nat.le_of_ble_eq_true rfl⟩) (tH_V hK hX (hS.2.1 aT hXl hXn) hPc hDc (q := 0) rfl rfl) rfl rfl hl.1 rfl (lv_room (Nat.le_of_ble_eq_true rfl)) d_Sw_area_112 ⟨Nat.le_of_ble_eq_true rfl, Nat.le_of_ble_eq_true rfl⟩) hS (fun q _ h => hFc q h) hFc (fun r9 u t H1 locs ht hvm h9 hB hz1 hk1 hS => ?_)
          rw [h9]
          obtain ⟨hP1, hD1⟩ := hB
          rw [ht] at hP1
          obtain ⟨hP, hD⟩ := va_join (wr := [(h0, .inr (5, [.ref hm, .ref hh, .ref he, .ref ha, .ref hp, .int 0])), (hh, .inr (3, [.int tn, .ref qu, .ref qo, .ref qx, .ref qy, .ref qr, .ref qw])), (qw, .inl (cI, 12, .inl (upd fw n.toNatClampNeg h)))]) (w1 := [(hm, .inr (4, [.int (n + 1), .int (if k = 1 then seas ||| (1 <<< (n &&& 31)) else seas), .int (if ce = 0 then cen else cen ||| (1 <<< (n &&& 31))), .ref qh, .ref qn])), (qh, .inl (cI, 12, .inl (upd fh n.toNatClampNeg h)))]) hP hD [1, 2] [0, 3, 4] rfl rfl (by decide) (by decide) hk1 hFc hP1 hD1
          generalize H1 = H at hP hS ⊢
          have hP : va_P D vwCl [(h0, .inr (5, [.ref hm, .ref hh, .ref he, .ref ha, .ref hp, .int 0])), (hh, .inr (3, [.int tn, .ref qu, .ref qo, .ref qx, .ref qy, .ref qr, .ref qw])), (qw, .inl (cI, 12, .inl (upd fw n.toNatClampNeg h))), (hm, .inr (4, [.int (n + 1), .int (if k = 1 then seas ||| (1 <<< (n &&& 31)) else seas), .int (if ce = 0 then cen else cen ||| (1 <<< (n &&& 31))), .ref qh, .ref qn])), (qh, .inl (cI, 12, .inl (upd fh n.toNatClampNeg h)))] H := hP
          have hD : va_D A [(h0, .inr (5, [.ref hm, .ref hh, .ref he, .ref ha, .ref hp, .int 0])), (hh, .inr (3, [.int tn, .ref qu, .ref qo, .ref qx, .ref qy, .ref qr, .ref qw])), (qw, .inl (cI, 12, .inl (upd fw n.toNatClampNeg h))), (hm, .inr (4, [.int (n + 1), .int (if k = 1 then seas ||| (1 <<< (n &&& 31)) else seas), .int (if ce = 0 then cen else cen ||| (1 <<< (n &&& 31))), .ref qh, .ref qn])), (qh, .inl (cI, 12, .inl (upd fh n.toNatClampNeg h)))] := hD
          have hP9 := hP.sub (ws' := [(h0, .inr (5, [.ref hm, .ref hh, .ref he, .ref ha, .ref hp, .int 0])), (hm, .inr (4, [.int (n + 1), .int (if k = 1 then seas ||| (1 <<< (n &&& 31)) else seas), .int (if ce = 0 then cen else cen ||| (1 <<< (n &&& 31))), .ref qh, .ref qn])), (qh, .inl (cI, 12, .inl (upd fh n.toNatClampNeg h))), (hh, .inr (3, [.int tn, .ref qu, .ref qo, .ref qx, .ref qy, .ref qr, .ref qw])), (qw, .inl (cI, 12, .inl (upd fw n.toNatClampNeg h)))]) [0, 3, 4, 1, 2] rfl
          have hD9 := hD.sub (ws' := [(h0, .inr (5, [.ref hm, .ref hh, .ref he, .ref ha, .ref hp, .int 0])), (hm, .inr (4, [.int (n + 1), .int (if k = 1 then seas ||| (1 <<< (n &&& 31)) else seas), .int (if ce = 0 then cen else cen ||| (1 <<< (n &&& 31))), .ref qh, .ref qn])), (qh, .inl (cI, 12, .inl (upd fh n.toNatClampNeg h))), (hh, .inr (3, [.int tn, .ref qu, .ref qo, .ref qx, .ref qy, .ref qr, .ref qw])), (qw, .inl (cI, 12, .inl (upd fw n.toNatClampNeg h)))]) [0, 3, 4, 1, 2] (by decide) rfl
          exact W.iret (v := n) hx hb hr (fun t ht hW => ⟨⟨n, (), rfl, rfl, by rw [ht]; exact hP9, hD9⟩, hS.F ht⟩) hS.2.2 d_Sw_area_115
        · -- 78 not taken
          exact False.elim (by have h9 := vp_in_iff.mp hin; unfold okA at hok; revert hok h9 hc1 hc2 hc3 hc6; simp only [Int32.lt_iff_toInt_lt, Int32.le_iff_toInt_le, ← Int32.toInt_inj, Int32.reduceToInt, i32_m1]; omega)
      · -- 38 not taken
        refine lv_iload_n hx hb d_Sw_area_41 rfl (lv_at hl 1 rfl) ?_
        refine lv_iconst (v := 1) hx hb d_Sw_area_42 (by decide) ?_
        refine lv_icmp_ne (tgt := 62) hx hb d_Sw_area_43 (by decide) (fun hc7 => ?_) (fun hc7 => ?_)
        · -- 43 taken
          refine lv_aload_n hx hb d_Sw_area_62 rfl (lv_at hl 0 rfl) ?_
          refine va_get (D := D) (ci := 5) (v := .int 0) (C := R_Sw) (T := T_Sw) (N := 6) hx hb hts hin_Sw hown hK hP 0 rfl rfl 5 (by decide) (hts _ wd_206) (fun _ h9 => h9) rfl d_Sw_area_63 ?_
          refine lv_if_ne (tgt := 81) hx hb d_Sw_area_66 (by decide) (fun h0 => absurd (by decide) h0) (fun _ => ?_)
          refine lv_aload_n hx hb d_Sw_area_69 rfl (lv_at hl 0 rfl) ?_
          refine va_get (D := D) (ci := 5) (v := .ref hm) (C := R_Sw) (T := T_Sw) (N := 6) hx hb hts hin_Sw hown hK hP 0 rfl rfl 0 (by decide) (hts _ wd_201) (fun _ h9 => h9) rfl d_Sw_area_70 ?_
          refine va_get (D := D) (ci := 4) (v := .int n) (C := R_Wm) (T := T_Wm) (N := 5) hx hb hts hin_Wm hown hK hP 1 rfl rfl 0 (by decide) (hts _ wd_32) (fun _ h9 => h9) rfl d_Sw_area_73 ?_
          refine lv_bipush (v := 12) hx hb d_Sw_area_76 (by decide) ?_
          refine lv_icmp_lt (tgt := 89) hx hb d_Sw_area_78 (by decide) (fun hc9 => ?_) (fun hc9 => ?_)
          · -- 78 taken
            refine lv_aload_n hx hb d_Sw_area_89 rfl (lv_at hl 0 rfl) ?_
            refine va_get (D := D) (ci := 5) (v := .ref hh) (C := R_Sw) (T := T_Sw) (N := 6) hx hb hts hin_Sw hown hK hP 0 rfl rfl 1 (by decide) (hts _ wd_202) (fun _ h9 => h9) rfl d_Sw_area_90 ?_
            refine va_get (D := D) (ci := 3) (v := .ref qw) (C := R_Sh) (T := T_Sh) (N := 7) hx hb hts hin_Sh hown hK hP 3 rfl rfl 6 (by decide) (hts _ wd_81) (fun _ h9 => h9) rfl d_Sw_area_93 ?_
            refine lv_aload_n hx hb d_Sw_area_96 rfl (lv_at hl 0 rfl) ?_
            refine va_get (D := D) (ci := 5) (v := .ref hm) (C := R_Sw) (T := T_Sw) (N := 6) hx hb hts hin_Sw hown hK hP 0 rfl rfl 0 (by decide) (hts _ wd_201) (fun _ h9 => h9) rfl d_Sw_area_97 ?_
            refine va_get (D := D) (ci := 4) (v := .int n) (C := R_Wm) (T := T_Wm) (N := 5) hx hb hts hin_Wm hown hK hP 1 rfl rfl 0 (by decide) (hts _ wd_32) (fun _ h9 => h9) rfl d_Sw_area_100 ?_
            refine lv_iload_n hx hb d_Sw_area_103 rfl (lv_at hl 3 rfl) ?_
            refine va_iast hx hb hK hP hD hS 4 0 rfl rfl hin d_Sw_area_104 (fun H locs hP hD hS => ?_)
            have hP : va_P D vwCl [(h0, .inr (5, [.ref hm, .ref hh, .ref he, .ref ha, .ref hp, .int 0])), (hm, .inr (4, [.int n, .int seas, .int cen, .ref qh, .ref qn])), (qh, .inl (cI, 12, .inl fh)), (hh, .inr (3, [.int tn, .ref qu, .ref qo, .ref qx, .ref qy, .ref qr, .ref qw])), (qw, .inl (cI, 12, .inl (upd fw n.toNatClampNeg h)))] H := hP
            have hD : va_D A [(h0, .inr (5, [.ref hm, .ref hh, .ref he, .ref ha, .ref hp, .int 0])), (hm, .inr (4, [.int n, .int seas, .int cen, .ref qh, .ref qn])), (qh, .inl (cI, 12, .inl fh)), (hh, .inr (3, [.int tn, .ref qu, .ref qo, .ref qx, .ref qy, .ref qr, .ref qw])), (qw, .inl (cI, 12, .inl (upd fw n.toNatClampNeg h)))] := hD
            refine lv_aload_n hx hb d_Sw_area_105 rfl (lv_at hl 0 rfl) ?_
            refine va_get (D := D) (ci := 5) (v := .ref hm) (C := R_Sw) (T := T_Sw) (N := 6) hx hb hts hin_Sw hown hK hP 0 rfl rfl 0 (by decide) (hts _ wd_201) (fun _ h9 => h9) rfl d_Sw_area_106 ?_
            refine lv_iload_n hx hb d_Sw_area_109 rfl (lv_at hl 1 rfl) ?_
            refine lv_iload_n hx hb d_Sw_area_110 rfl (lv_at hl 2 rfl) ?_
            refine lv_iload_n hx hb d_Sw_area_111 rfl (lv_at hl 3 rfl) ?_
            have hPc := hP.sub (ws' := [(hm, .inr (4, [.int n, .int seas, .int cen, .ref qh, .ref qn])), (qh, .inl (cI, 12, .inl fh))]) [1, 2] rfl
            have hDc := hD.sub (ws' := [(hm, .inr (4, [.int n, .int seas, .int cen, .ref qh, .ref qn])), (qh, .inl (cI, 12, .inl fh))]) [1, 2] (by decide) rfl
            have hFc := va_free (wc := [(hm, .inr (4, [.int n, .int seas, .int cen, .ref qh, .ref qn])), (qh, .inl (cI, 12, .inl fh))]) hD hS hA [1, 2] rfl
            refine va_calli (va_runV (As := [.int k, .int ce, .int h]) (rest := []) ⟨hx, hb, hml, hown, hts⟩ (c_Wm_addArea l D cI cZ cJ cS aT ceT H.size hm qh qn n seas cen fh k ce h (if k = 1 then seas ||| (1 <<< (n &&& 31)) else seas) (if ce = 0 then cen else cen ||| (1 <<< (n &&& 31))) hin rfl rfl) (cwV 3 hts (tb_4 wd_405 wd_406 wd_407 wd_2 (tb_c wd_408)) rfl rfl rfl ⟨rfl, by decide, by decide, by decide +kernel⟩ ⟨Nat.le_of_ble_eq_true rfl, Nat.le_of_ble_eq_true rfl⟩) (tH_V hK hX (hS.2.1 aT hXl hXn) hPc hDc (q := 0) rfl rfl) rfl rfl hl.1 rfl (lv_room (Nat.le_of_ble_eq_true rfl)) d_Sw_area_112 ⟨Nat.le_of_ble_eq_true rfl, Nat.le_of_ble_eq_true rfl⟩) hS (fun q _ h => hFc q h) hFc (fun r9 u t H1 locs ht hvm h9 hB hz1 hk1 hS => ?_)
            rw [h9]
            obtain ⟨hP1, hD1⟩ := hB
            rw [ht] at hP1
            obtain ⟨hP, hD⟩ := va_join (wr := [(h0, .inr (5, [.ref hm, .ref hh, .ref he, .ref ha, .ref hp, .int 0])), (hh, .inr (3, [.int tn, .ref qu, .ref qo, .ref qx, .ref qy, .ref qr, .ref qw])), (qw, .inl (cI, 12, .inl (upd fw n.toNatClampNeg h)))]) (w1 := [(hm, .inr (4, [.int (n + 1), .int (if k = 1 then seas ||| (1 <<< (n &&& 31)) else seas), .int (if ce = 0 then cen else cen ||| (1 <<< (n &&& 31))), .ref qh, .ref qn])), (qh, .inl (cI, 12, .inl (upd fh n.toNatClampNeg h)))]) hP hD [1, 2] [0, 3, 4] rfl rfl (by decide) (by decide) hk1 hFc hP1 hD1
            generalize H1 = H at hP hS ⊢
            have hP : va_P D vwCl [(h0, .inr (5, [.ref hm, .ref hh, .ref he, .ref ha, .ref hp, .int 0])), (hh, .inr (3, [.int tn, .ref qu, .ref qo, .ref qx, .ref qy, .ref qr, .ref qw])), (qw, .inl (cI, 12, .inl (upd fw n.toNatClampNeg h))), (hm, .inr (4, [.int (n + 1), .int (if k = 1 then seas ||| (1 <<< (n &&& 31)) else seas), .int (if ce = 0 then cen else cen ||| (1 <<< (n &&& 31))), .ref qh, .ref qn])), (qh, .inl (cI, 12, .inl (upd fh n.toNatClampNeg h)))] H := hP
            have hD : va_D A [(h0, .inr (5, [.ref hm, .ref hh, .ref he, .ref ha, .ref hp, .int 0])), (hh, .inr (3, [.int tn, .ref qu, .ref qo, .ref qx, .ref qy, .ref qr, .ref qw])), (qw, .inl (cI, 12, .inl (upd fw n.toNatClampNeg h))), (hm, .inr (4, [.int (n + 1), .int (if k = 1 then seas ||| (1 <<< (n &&& 31)) else seas), .int (if ce = 0 then cen else cen ||| (1 <<< (n &&& 31))), .ref qh, .ref qn])), (qh, .inl (cI, 12, .inl (upd fh n.toNatClampNeg h)))] := hD
            have hP9 := hP.sub (ws' := [(h0, .inr (5, [.ref hm, .ref hh, .ref he, .ref ha, .ref hp, .int 0])), (hm, .inr (4, [.int (n + 1), .int (if k = 1 then seas ||| (1 <<< (n &&& 31)) else seas), .int (if ce = 0 then cen else cen ||| (1 <<< (n &&& 31))), .ref qh, .ref qn])), (qh, .inl (cI, 12, .inl (upd fh n.toNatClampNeg h))), (hh, .inr (3, [.int tn, .ref qu, .ref qo, .ref qx, .ref qy, .ref qr, .ref qw])), (qw, .inl (cI, 12, .inl (upd fw n.toNatClampNeg h)))]) [0, 3, 4, 1, 2] rfl
            have hD9 := hD.sub (ws' := [(h0, .inr (5, [.ref hm, .ref hh, .ref he, .ref ha, .ref hp, .int 0])), (hm, .inr (4, [.int (n + 1), .int (if k = 1 then seas ||| (1 <<< (n &&& 31)) else seas), .int (if ce = 0 then cen else cen ||| (1 <<< (n &&& 31))), .ref qh, .ref qn])), (qh, .inl (cI, 12, .inl (upd fh n.toNatClampNeg h))), (hh, .inr (3, [.int tn, .ref qu, .ref qo, .ref qx, .ref qy, .ref qr, .ref qw])), (qw, .inl (cI, 12, .inl (upd fw n.toNatClampNeg h)))]) [0, 3, 4, 1, 2] (by decide) rfl
            exact W.iret (v := n) hx hb hr (fun t ht hW => ⟨⟨n, (), rfl, rfl, by rw [ht]; exact hP9, hD9⟩, hS.F ht⟩) hS.2.2 d_Sw_area_115
          · -- 78 not taken
            exact False.elim (by have h9 := vp_in_iff.mp hin; unfold okA at hok; revert hok h9 hc1 hc2 hc3 hc7 hc9; simp only [Int32.lt_iff_toInt_lt, Int32.le_iff_toInt_le, ← Int32.toInt_inj, Int32.reduceToInt, i32_m1]; omega)
        · -- 43 not taken
          refine lv_goto (tgt := 54) hx hb d_Sw_area_46 (by decide) ?_
          exact False.elim (by have h9 := vp_in_iff.mp hin; unfold okA at hok; revert hok h9 hc1 hc2 hc3 hc7; simp only [Int32.lt_iff_toInt_lt, Int32.le_iff_toInt_le, ← Int32.toInt_inj, Int32.reduceToInt, i32_m1]; omega)
    · -- 19 not taken
      refine lv_iload_n hx hb d_Sw_area_22 rfl (lv_at hl 3 rfl) ?_
      have hPc := hP.sub (ws' := []) [] rfl
      refine vp_callSi (va_Run.run (va_runS (As := [.int h]) (rest := []) ⟨hx, hb, hml, hown, hts⟩ (c_Sw_isPlayer l D cI cZ cJ cS aT ceT  h ) (va_cwS 1 hts (tb_3 wd_299 wd_300 wd_1 (tb_c wd_301)) rfl rfl rfl ⟨by decide, by decide, by decide +kernel⟩ ⟨Nat.le_of_ble_eq_true rfl, Nat.le_of_ble_eq_true rfl⟩) (tP_S hK hX (hS.2.1 aT hXl hXn) hPc) rfl rfl hl.1 rfl (lv_room (Nat.le_of_ble_eq_true rfl)) d_Sw_area_23 ⟨Nat.le_of_ble_eq_true rfl, Nat.le_of_ble_eq_true rfl⟩)) (fun r10 hr9 => ?_)
      rcases hr9 with ⟨rfl, hq11⟩ | ⟨rfl, hq11⟩
      · -- 23: true
        refine lv_if_ne (tgt := 37) hx hb d_Sw_area_26 (by decide) (fun _ => ?_) (fun h0 => absurd h0 (by decide))
        refine lv_iload_n hx hb d_Sw_area_37 rfl (lv_at hl 2 rfl) ?_
        refine lv_if_eq (tgt := 49) hx hb d_Sw_area_38 (by decide) (fun hc13 => ?_) (fun hc13 => ?_)
        · -- 38 taken
          refine lv_iload_n hx hb d_Sw_area_49 rfl (lv_at hl 3 rfl) ?_
          refine lv_iconst (v := (-1)) hx hb d_Sw_area_50 (by decide) ?_
          refine lv_icmp_eq (tgt := 62) hx hb d_Sw_area_51 (by decide) (fun h0 => absurd h0 hc2) (fun _ => ?_)
          exact False.elim (by have h9 := vp_in_iff.mp hin; unfold okA at hok; revert hok h9 hc1 hc2 hq11 hc13; simp only [Int32.lt_iff_toInt_lt, Int32.le_iff_toInt_le, ← Int32.toInt_inj, Int32.reduceToInt, i32_m1]; omega)
        · -- 38 not taken
          refine lv_iload_n hx hb d_Sw_area_41 rfl (lv_at hl 1 rfl) ?_
          refine lv_iconst (v := 1) hx hb d_Sw_area_42 (by decide) ?_
          refine lv_icmp_ne (tgt := 62) hx hb d_Sw_area_43 (by decide) (fun hc15 => ?_) (fun hc15 => ?_)
          · -- 43 taken
            refine lv_aload_n hx hb d_Sw_area_62 rfl (lv_at hl 0 rfl) ?_
            refine va_get (D := D) (ci := 5) (v := .int 0) (C := R_Sw) (T := T_Sw) (N := 6) hx hb hts hin_Sw hown hK hP 0 rfl rfl 5 (by decide) (hts _ wd_206) (fun _ h9 => h9) rfl d_Sw_area_63 ?_
            refine lv_if_ne (tgt := 81) hx hb d_Sw_area_66 (by decide) (fun h0 => absurd (by decide) h0) (fun _ => ?_)
            refine lv_aload_n hx hb d_Sw_area_69 rfl (lv_at hl 0 rfl) ?_
            refine va_get (D := D) (ci := 5) (v := .ref hm) (C := R_Sw) (T := T_Sw) (N := 6) hx hb hts hin_Sw hown hK hP 0 rfl rfl 0 (by decide) (hts _ wd_201) (fun _ h9 => h9) rfl d_Sw_area_70 ?_
            refine va_get (D := D) (ci := 4) (v := .int n) (C := R_Wm) (T := T_Wm) (N := 5) hx hb hts hin_Wm hown hK hP 1 rfl rfl 0 (by decide) (hts _ wd_32) (fun _ h9 => h9) rfl d_Sw_area_73 ?_
            refine lv_bipush (v := 12) hx hb d_Sw_area_76 (by decide) ?_
            refine lv_icmp_lt (tgt := 89) hx hb d_Sw_area_78 (by decide) (fun hc17 => ?_) (fun hc17 => ?_)
            · -- 78 taken
              refine lv_aload_n hx hb d_Sw_area_89 rfl (lv_at hl 0 rfl) ?_
              refine va_get (D := D) (ci := 5) (v := .ref hh) (C := R_Sw) (T := T_Sw) (N := 6) hx hb hts hin_Sw hown hK hP 0 rfl rfl 1 (by decide) (hts _ wd_202) (fun _ h9 => h9) rfl d_Sw_area_90 ?_
              refine va_get (D := D) (ci := 3) (v := .ref qw) (C := R_Sh) (T := T_Sh) (N := 7) hx hb hts hin_Sh hown hK hP 3 rfl rfl 6 (by decide) (hts _ wd_81) (fun _ h9 => h9) rfl d_Sw_area_93 ?_
              refine lv_aload_n hx hb d_Sw_area_96 rfl (lv_at hl 0 rfl) ?_
              refine va_get (D := D) (ci := 5) (v := .ref hm) (C := R_Sw) (T := T_Sw) (N := 6) hx hb hts hin_Sw hown hK hP 0 rfl rfl 0 (by decide) (hts _ wd_201) (fun _ h9 => h9) rfl d_Sw_area_97 ?_
              refine va_get (D := D) (ci := 4) (v := .int n) (C := R_Wm) (T := T_Wm) (N := 5) hx hb hts hin_Wm hown hK hP 1 rfl rfl 0 (by decide) (hts _ wd_32) (fun _ h9 => h9) rfl d_Sw_area_100 ?_
              refine lv_iload_n hx hb d_Sw_area_103 rfl (lv_at hl 3 rfl) ?_
              refine va_iast hx hb hK hP hD hS 4 0 rfl rfl hin d_Sw_area_104 (fun H locs hP hD hS => ?_)
              have hP : va_P D vwCl [(h0, .inr (5, [.ref hm, .ref hh, .ref he, .ref ha, .ref hp, .int 0])), (hm, .inr (4, [.int n, .int seas, .int cen, .ref qh, .ref qn])), (qh, .inl (cI, 12, .inl fh)), (hh, .inr (3, [.int tn, .ref qu, .ref qo, .ref qx, .ref qy, .ref qr, .ref qw])), (qw, .inl (cI, 12, .inl (upd fw n.toNatClampNeg h)))] H := hP
              have hD : va_D A [(h0, .inr (5, [.ref hm, .ref hh, .ref he, .ref ha, .ref hp, .int 0])), (hm, .inr (4, [.int n, .int seas, .int cen, .ref qh, .ref qn])), (qh, .inl (cI, 12, .inl fh)), (hh, .inr (3, [.int tn, .ref qu, .ref qo, .ref qx, .ref qy, .ref qr, .ref qw])), (qw, .inl (cI, 12, .inl (upd fw n.toNatClampNeg h)))] := hD
              refine lv_aload_n hx hb d_Sw_area_105 rfl (lv_at hl 0 rfl) ?_
              refine va_get (D := D) (ci := 5) (v := .ref hm) (C := R_Sw) (T := T_Sw) (N := 6) hx hb hts hin_Sw hown hK hP 0 rfl rfl 0 (by decide) (hts _ wd_201) (fun _ h9 => h9) rfl d_Sw_area_106 ?_
              refine lv_iload_n hx hb d_Sw_area_109 rfl (lv_at hl 1 rfl) ?_
              refine lv_iload_n hx hb d_Sw_area_110 rfl (lv_at hl 2 rfl) ?_
              refine lv_iload_n hx hb d_Sw_area_111 rfl (lv_at hl 3 rfl) ?_
              have hPc := hP.sub (ws' := [(hm, .inr (4, [.int n, .int seas, .int cen, .ref qh, .ref qn])), (qh, .inl (cI, 12, .inl fh))]) [1, 2] rfl
              have hDc := hD.sub (ws' := [(hm, .inr (4, [.int n, .int seas, .int cen, .ref qh, .ref qn])), (qh, .inl (cI, 12, .inl fh))]) [1, 2] (by decide) rfl
              have hFc := va_free (wc := [(hm, .inr (4, [.int n, .int seas, .int cen, .ref qh, .ref qn])), (qh, .inl (cI, 12, .inl fh))]) hD hS hA [1, 2] rfl
              refine va_calli (va_runV (As := [.int k, .int ce, .int h]) (rest := []) ⟨hx, hb, hml, hown, hts⟩ (c_Wm_addArea l D cI cZ cJ cS aT ceT H.size hm qh qn n seas cen fh k ce h (if k = 1 then seas ||| (1 <<< (n &&& 31)) else seas) (if ce = 0 then cen else cen ||| (1 <<< (n &&& 31))) hin rfl rfl) (cwV 3 hts (tb_4 wd_405 wd_406 wd_407 wd_2 (tb_c wd_408)) rfl rfl rfl ⟨rfl, by decide, by decide, by decide +kernel⟩ ⟨Nat.le_of_ble_eq_true rfl, Nat.le_of_ble_eq_true rfl⟩) (tH_V hK hX (hS.2.1 aT hXl hXn) hPc hDc (q := 0) rfl rfl) rfl rfl hl.1 rfl (lv_room (Nat.le_of_ble_eq_true rfl)) d_Sw_area_112 ⟨Nat.le_of_ble_eq_true rfl, Nat.le_of_ble_eq_true rfl⟩) hS (fun q _ h => hFc q h) hFc (fun r9 u t H1 locs ht hvm h9 hB hz1 hk1 hS => ?_)
              rw [h9]
              obtain ⟨hP1, hD1⟩ := hB
              rw [ht] at hP1
              obtain ⟨hP, hD⟩ := va_join (wr := [(h0, .inr (5, [.ref hm, .ref hh, .ref he, .ref ha, .ref hp, .int 0])), (hh, .inr (3, [.int tn, .ref qu, .ref qo, .ref qx, .ref qy, .ref qr, .ref qw])), (qw, .inl (cI, 12, .inl (upd fw n.toNatClampNeg h)))]) (w1 := [(hm, .inr (4, [.int (n + 1), .int (if k = 1 then seas ||| (1 <<< (n &&& 31)) else seas), .int (if ce = 0 then cen else cen ||| (1 <<< (n &&& 31))), .ref qh, .ref qn])), (qh, .inl (cI, 12, .inl (upd fh n.toNatClampNeg h)))]) hP hD [1, 2] [0, 3, 4] rfl rfl (by decide) (by decide) hk1 hFc hP1 hD1
              generalize H1 = H at hP hS ⊢
              have hP : va_P D vwCl [(h0, .inr (5, [.ref hm, .ref hh, .ref he, .ref ha, .ref hp, .int 0])), (hh, .inr (3, [.int tn, .ref qu, .ref qo, .ref qx, .ref qy, .ref qr, .ref qw])), (qw, .inl (cI, 12, .inl (upd fw n.toNatClampNeg h))), (hm, .inr (4, [.int (n + 1), .int (if k = 1 then seas ||| (1 <<< (n &&& 31)) else seas), .int (if ce = 0 then cen else cen ||| (1 <<< (n &&& 31))), .ref qh, .ref qn])), (qh, .inl (cI, 12, .inl (upd fh n.toNatClampNeg h)))] H := hP
              have hD : va_D A [(h0, .inr (5, [.ref hm, .ref hh, .ref he, .ref ha, .ref hp, .int 0])), (hh, .inr (3, [.int tn, .ref qu, .ref qo, .ref qx, .ref qy, .ref qr, .ref qw])), (qw, .inl (cI, 12, .inl (upd fw n.toNatClampNeg h))), (hm, .inr (4, [.int (n + 1), .int (if k = 1 then seas ||| (1 <<< (n &&& 31)) else seas), .int (if ce = 0 then cen else cen ||| (1 <<< (n &&& 31))), .ref qh, .ref qn])), (qh, .inl (cI, 12, .inl (upd fh n.toNatClampNeg h)))] := hD
              have hP9 := hP.sub (ws' := [(h0, .inr (5, [.ref hm, .ref hh, .ref he, .ref ha, .ref hp, .int 0])), (hm, .inr (4, [.int (n + 1), .int (if k = 1 then seas ||| (1 <<< (n &&& 31)) else seas), .int (if ce = 0 then cen else cen ||| (1 <<< (n &&& 31))), .ref qh, .ref qn])), (qh, .inl (cI, 12, .inl (upd fh n.toNatClampNeg h))), (hh, .inr (3, [.int tn, .ref qu, .ref qo, .ref qx, .ref qy, .ref qr, .ref qw])), (qw, .inl (cI, 12, .inl (upd fw n.toNatClampNeg h)))]) [0, 3, 4, 1, 2] rfl
              have hD9 := hD.sub (ws' := [(h0, .inr (5, [.ref hm, .ref hh, .ref he, .ref ha, .ref hp, .int 0])), (hm, .inr (4, [.int (n + 1), .int (if k = 1 then seas ||| (1 <<< (n &&& 31)) else seas), .int (if ce = 0 then cen else cen ||| (1 <<< (n &&& 31))), .ref qh, .ref qn])), (qh, .inl (cI, 12, .inl (upd fh n.toNatClampNeg h))), (hh, .inr (3, [.int tn, .ref qu, .ref qo, .ref qx, .ref qy, .ref qr, .ref qw])), (qw, .inl (cI, 12, .inl (upd fw n.toNatClampNeg h)))]) [0, 3, 4, 1, 2] (by decide) rfl
              exact W.iret (v := n) hx hb hr (fun t ht hW => ⟨⟨n, (), rfl, rfl, by rw [ht]; exact hP9, hD9⟩, hS.F ht⟩) hS.2.2 d_Sw_area_115
            · -- 78 not taken
              exact False.elim (by have h9 := vp_in_iff.mp hin; unfold okA at hok; revert hok h9 hc1 hc2 hq11 hc13 hc15 hc17; simp only [Int32.lt_iff_toInt_lt, Int32.le_iff_toInt_le, ← Int32.toInt_inj, Int32.reduceToInt, i32_m1]; omega)
          · -- 43 not taken
            refine lv_goto (tgt := 54) hx hb d_Sw_area_46 (by decide) ?_
            exact False.elim (by have h9 := vp_in_iff.mp hin; unfold okA at hok; revert hok h9 hc1 hc2 hq11 hc13 hc15; simp only [Int32.lt_iff_toInt_lt, Int32.le_iff_toInt_le, ← Int32.toInt_inj, Int32.reduceToInt, i32_m1]; omega)
      · -- 23: false
        refine lv_if_ne (tgt := 37) hx hb d_Sw_area_26 (by decide) (fun h0 => absurd (by decide) h0) (fun _ => ?_)
        exact False.elim (by have h9 := vp_in_iff.mp hin; unfold okA at hok; revert hok h9 hc1 hc2 hq11; simp only [Int32.lt_iff_toInt_lt, Int32.le_iff_toInt_le, ← Int32.toInt_inj, Int32.reduceToInt, i32_m1]; omega)
  · -- 1 not taken
    refine lv_iload_n hx hb d_Sw_area_4 rfl (lv_at hl 1 rfl) ?_
    refine lv_iconst (v := 1) hx hb d_Sw_area_5 (by decide) ?_
    refine lv_icmp_eq (tgt := 17) hx hb d_Sw_area_6 (by decide) (fun hc19 => ?_) (fun hc19 => ?_)
    · -- 6 taken
      refine lv_iload_n hx hb d_Sw_area_17 rfl (lv_at hl 3 rfl) ?_
      refine lv_iconst (v := (-1)) hx hb d_Sw_area_18 (by decide) ?_
      refine lv_icmp_eq (tgt := 37) hx hb d_Sw_area_19 (by decide) (fun hc20 => ?_) (fun hc20 => ?_)
      · -- 19 taken
        refine lv_iload_n hx hb d_Sw_area_37 rfl (lv_at hl 2 rfl) ?_
        refine lv_if_eq (tgt := 49) hx hb d_Sw_area_38 (by decide) (fun hc21 => ?_) (fun hc21 => ?_)
        · -- 38 taken
          refine lv_iload_n hx hb d_Sw_area_49 rfl (lv_at hl 3 rfl) ?_
          refine lv_iconst (v := (-1)) hx hb d_Sw_area_50 (by decide) ?_
          refine lv_icmp_eq (tgt := 62) hx hb d_Sw_area_51 (by decide) (fun _ => ?_) (fun h0 => absurd hc20 h0)
          refine lv_aload_n hx hb d_Sw_area_62 rfl (lv_at hl 0 rfl) ?_
          refine va_get (D := D) (ci := 5) (v := .int 0) (C := R_Sw) (T := T_Sw) (N := 6) hx hb hts hin_Sw hown hK hP 0 rfl rfl 5 (by decide) (hts _ wd_206) (fun _ h9 => h9) rfl d_Sw_area_63 ?_
          refine lv_if_ne (tgt := 81) hx hb d_Sw_area_66 (by decide) (fun h0 => absurd (by decide) h0) (fun _ => ?_)
          refine lv_aload_n hx hb d_Sw_area_69 rfl (lv_at hl 0 rfl) ?_
          refine va_get (D := D) (ci := 5) (v := .ref hm) (C := R_Sw) (T := T_Sw) (N := 6) hx hb hts hin_Sw hown hK hP 0 rfl rfl 0 (by decide) (hts _ wd_201) (fun _ h9 => h9) rfl d_Sw_area_70 ?_
          refine va_get (D := D) (ci := 4) (v := .int n) (C := R_Wm) (T := T_Wm) (N := 5) hx hb hts hin_Wm hown hK hP 1 rfl rfl 0 (by decide) (hts _ wd_32) (fun _ h9 => h9) rfl d_Sw_area_73 ?_
          refine lv_bipush (v := 12) hx hb d_Sw_area_76 (by decide) ?_
          refine lv_icmp_lt (tgt := 89) hx hb d_Sw_area_78 (by decide) (fun hc24 => ?_) (fun hc24 => ?_)
          · -- 78 taken
            refine lv_aload_n hx hb d_Sw_area_89 rfl (lv_at hl 0 rfl) ?_
            refine va_get (D := D) (ci := 5) (v := .ref hh) (C := R_Sw) (T := T_Sw) (N := 6) hx hb hts hin_Sw hown hK hP 0 rfl rfl 1 (by decide) (hts _ wd_202) (fun _ h9 => h9) rfl d_Sw_area_90 ?_
            refine va_get (D := D) (ci := 3) (v := .ref qw) (C := R_Sh) (T := T_Sh) (N := 7) hx hb hts hin_Sh hown hK hP 3 rfl rfl 6 (by decide) (hts _ wd_81) (fun _ h9 => h9) rfl d_Sw_area_93 ?_
            refine lv_aload_n hx hb d_Sw_area_96 rfl (lv_at hl 0 rfl) ?_
            refine va_get (D := D) (ci := 5) (v := .ref hm) (C := R_Sw) (T := T_Sw) (N := 6) hx hb hts hin_Sw hown hK hP 0 rfl rfl 0 (by decide) (hts _ wd_201) (fun _ h9 => h9) rfl d_Sw_area_97 ?_
            refine va_get (D := D) (ci := 4) (v := .int n) (C := R_Wm) (T := T_Wm) (N := 5) hx hb hts hin_Wm hown hK hP 1 rfl rfl 0 (by decide) (hts _ wd_32) (fun _ h9 => h9) rfl d_Sw_area_100 ?_
            refine lv_iload_n hx hb d_Sw_area_103 rfl (lv_at hl 3 rfl) ?_
            refine va_iast hx hb hK hP hD hS 4 0 rfl rfl hin d_Sw_area_104 (fun H locs hP hD hS => ?_)
            have hP : va_P D vwCl [(h0, .inr (5, [.ref hm, .ref hh, .ref he, .ref ha, .ref hp, .int 0])), (hm, .inr (4, [.int n, .int seas, .int cen, .ref qh, .ref qn])), (qh, .inl (cI, 12, .inl fh)), (hh, .inr (3, [.int tn, .ref qu, .ref qo, .ref qx, .ref qy, .ref qr, .ref qw])), (qw, .inl (cI, 12, .inl (upd fw n.toNatClampNeg h)))] H := hP
            have hD : va_D A [(h0, .inr (5, [.ref hm, .ref hh, .ref he, .ref ha, .ref hp, .int 0])), (hm, .inr (4, [.int n, .int seas, .int cen, .ref qh, .ref qn])), (qh, .inl (cI, 12, .inl fh)), (hh, .inr (3, [.int tn, .ref qu, .ref qo, .ref qx, .ref qy, .ref qr, .ref qw])), (qw, .inl (cI, 12, .inl (upd fw n.toNatClampNeg h)))] := hD
            refine lv_aload_n hx hb d_Sw_area_105 rfl (lv_at hl 0 rfl) ?_
            refine va_get (D := D) (ci := 5) (v := .ref hm) (C := R_Sw) (T := T_Sw) (N := 6) hx hb hts hin_Sw hown hK hP 0 rfl rfl 0 (by decide) (hts _ wd_201) (fun _ h9 => h9) rfl d_Sw_area_106 ?_
            refine lv_iload_n hx hb d_Sw_area_109 rfl (lv_at hl 1 rfl) ?_
            refine lv_iload_n hx hb d_Sw_area_110 rfl (lv_at hl 2 rfl) ?_
            refine lv_iload_n hx hb d_Sw_area_111 rfl (lv_at hl 3 rfl) ?_
            have hPc := hP.sub (ws' := [(hm, .inr (4, [.int n, .int seas, .int cen, .ref qh, .ref qn])), (qh, .inl (cI, 12, .inl fh))]) [1, 2] rfl
            have hDc := hD.sub (ws' := [(hm, .inr (4, [.int n, .int seas, .int cen, .ref qh, .ref qn])), (qh, .inl (cI, 12, .inl fh))]) [1, 2] (by decide) rfl
            have hFc := va_free (wc := [(hm, .inr (4, [.int n, .int seas, .int cen, .ref qh, .ref qn])), (qh, .inl (cI, 12, .inl fh))]) hD hS hA [1, 2] rfl
            refine va_calli (va_runV (As := [.int k, .int ce, .int h]) (rest := []) ⟨hx, hb, hml, hown, hts⟩ (c_Wm_addArea l D cI cZ cJ cS aT ceT H.size hm qh qn n seas cen fh k ce h (if k = 1 then seas ||| (1 <<< (n &&& 31)) else seas) (if ce = 0 then cen else cen ||| (1 <<< (n &&& 31))) hin rfl rfl) (cwV 3 hts (tb_4 wd_405 wd_406 wd_407 wd_2 (tb_c wd_408)) rfl rfl rfl ⟨rfl, by decide, by decide, by decide +kernel⟩ ⟨Nat.le_of_ble_eq_true rfl, Nat.le_of_ble_eq_true rfl⟩) (tH_V hK hX (hS.2.1 aT hXl hXn) hPc hDc (q := 0) rfl rfl) rfl rfl hl.1 rfl (lv_room (Nat.le_of_ble_eq_true rfl)) d_Sw_area_112 ⟨Nat.le_of_ble_eq_true rfl, Nat.le_of_ble_eq_true rfl⟩) hS (fun q _ h => hFc q h) hFc (fun r9 u t H1 locs ht hvm h9 hB hz1 hk1 hS => ?_)
            rw [h9]
            obtain ⟨hP1, hD1⟩ := hB
            rw [ht] at hP1
            obtain ⟨hP, hD⟩ := va_join (wr := [(h0, .inr (5, [.ref hm, .ref hh, .ref he, .ref ha, .ref hp, .int 0])), (hh, .inr (3, [.int tn, .ref qu, .ref qo, .ref qx, .ref qy, .ref qr, .ref qw])), (qw, .inl (cI, 12, .inl (upd fw n.toNatClampNeg h)))]) (w1 := [(hm, .inr (4, [.int (n + 1), .int (if k = 1 then seas ||| (1 <<< (n &&& 31)) else seas), .int (if ce = 0 then cen else cen ||| (1 <<< (n &&& 31))), .ref qh, .ref qn])), (qh, .inl (cI, 12, .inl (upd fh n.toNatClampNeg h)))]) hP hD [1, 2] [0, 3, 4] rfl rfl (by decide) (by decide) hk1 hFc hP1 hD1
            generalize H1 = H at hP hS ⊢
            have hP : va_P D vwCl [(h0, .inr (5, [.ref hm, .ref hh, .ref he, .ref ha, .ref hp, .int 0])), (hh, .inr (3, [.int tn, .ref qu, .ref qo, .ref qx, .ref qy, .ref qr, .ref qw])), (qw, .inl (cI, 12, .inl (upd fw n.toNatClampNeg h))), (hm, .inr (4, [.int (n + 1), .int (if k = 1 then seas ||| (1 <<< (n &&& 31)) else seas), .int (if ce = 0 then cen else cen ||| (1 <<< (n &&& 31))), .ref qh, .ref qn])), (qh, .inl (cI, 12, .inl (upd fh n.toNatClampNeg h)))] H := hP
            have hD : va_D A [(h0, .inr (5, [.ref hm, .ref hh, .ref he, .ref ha, .ref hp, .int 0])), (hh, .inr (3, [.int tn, .ref qu, .ref qo, .ref qx, .ref qy, .ref qr, .ref qw])), (qw, .inl (cI, 12, .inl (upd fw n.toNatClampNeg h))), (hm, .inr (4, [.int (n + 1), .int (if k = 1 then seas ||| (1 <<< (n &&& 31)) else seas), .int (if ce = 0 then cen else cen ||| (1 <<< (n &&& 31))), .ref qh, .ref qn])), (qh, .inl (cI, 12, .inl (upd fh n.toNatClampNeg h)))] := hD
            have hP9 := hP.sub (ws' := [(h0, .inr (5, [.ref hm, .ref hh, .ref he, .ref ha, .ref hp, .int 0])), (hm, .inr (4, [.int (n + 1), .int (if k = 1 then seas ||| (1 <<< (n &&& 31)) else seas), .int (if ce = 0 then cen else cen ||| (1 <<< (n &&& 31))), .ref qh, .ref qn])), (qh, .inl (cI, 12, .inl (upd fh n.toNatClampNeg h))), (hh, .inr (3, [.int tn, .ref qu, .ref qo, .ref qx, .ref qy, .ref qr, .ref qw])), (qw, .inl (cI, 12, .inl (upd fw n.toNatClampNeg h)))]) [0, 3, 4, 1, 2] rfl
            have hD9 := hD.sub (ws' := [(h0, .inr (5, [.ref hm, .ref hh, .ref he, .ref ha, .ref hp, .int 0])), (hm, .inr (4, [.int (n + 1), .int (if k = 1 then seas ||| (1 <<< (n &&& 31)) else seas), .int (if ce = 0 then cen else cen ||| (1 <<< (n &&& 31))), .ref qh, .ref qn])), (qh, .inl (cI, 12, .inl (upd fh n.toNatClampNeg h))), (hh, .inr (3, [.int tn, .ref qu, .ref qo, .ref qx, .ref qy, .ref qr, .ref qw])), (qw, .inl (cI, 12, .inl (upd fw n.toNatClampNeg h)))]) [0, 3, 4, 1, 2] (by decide) rfl
            exact W.iret (v := n) hx hb hr (fun t ht hW => ⟨⟨n, (), rfl, rfl, by rw [ht]; exact hP9, hD9⟩, hS.F ht⟩) hS.2.2 d_Sw_area_115
          · -- 78 not taken
            exact False.elim (by have h9 := vp_in_iff.mp hin; unfold okA at hok; revert hok h9 hc1 hc19 hc20 hc21 hc24; simp only [Int32.lt_iff_toInt_lt, Int32.le_iff_toInt_le, ← Int32.toInt_inj, Int32.reduceToInt, i32_m1]; omega)
        · -- 38 not taken
          refine lv_iload_n hx hb d_Sw_area_41 rfl (lv_at hl 1 rfl) ?_
          refine lv_iconst (v := 1) hx hb d_Sw_area_42 (by decide) ?_
          refine lv_icmp_ne (tgt := 62) hx hb d_Sw_area_43 (by decide) (fun h0 => absurd hc19 h0) (fun _ => ?_)
          refine lv_goto (tgt := 54) hx hb d_Sw_area_46 (by decide) ?_
          exact False.elim (by have h9 := vp_in_iff.mp hin; unfold okA at hok; revert hok h9 hc1 hc19 hc20 hc21; simp only [Int32.lt_iff_toInt_lt, Int32.le_iff_toInt_le, ← Int32.toInt_inj, Int32.reduceToInt, i32_m1]; omega)
      · -- 19 not taken
        refine lv_iload_n hx hb d_Sw_area_22 rfl (lv_at hl 3 rfl) ?_
        have hPc := hP.sub (ws' := []) [] rfl
        refine vp_callSi (va_Run.run (va_runS (As := [.int h]) (rest := []) ⟨hx, hb, hml, hown, hts⟩ (c_Sw_isPlayer l D cI cZ cJ cS aT ceT  h ) (va_cwS 1 hts (tb_3 wd_299 wd_300 wd_1 (tb_c wd_301)) rfl rfl rfl ⟨by decide, by decide, by decide +kernel⟩ ⟨Nat.le_of_ble_eq_true rfl, Nat.le_of_ble_eq_true rfl⟩) (tP_S hK hX (hS.2.1 aT hXl hXn) hPc) rfl rfl hl.1 rfl (lv_room (Nat.le_of_ble_eq_true rfl)) d_Sw_area_23 ⟨Nat.le_of_ble_eq_true rfl, Nat.le_of_ble_eq_true rfl⟩)) (fun r26 hr9 => ?_)
        rcases hr9 with ⟨rfl, hq27⟩ | ⟨rfl, hq27⟩
        · -- 23: true
          refine lv_if_ne (tgt := 37) hx hb d_Sw_area_26 (by decide) (fun _ => ?_) (fun h0 => absurd h0 (by decide))
          refine lv_iload_n hx hb d_Sw_area_37 rfl (lv_at hl 2 rfl) ?_
          refine lv_if_eq (tgt := 49) hx hb d_Sw_area_38 (by decide) (fun hc29 => ?_) (fun hc29 => ?_)
          · -- 38 taken
            refine lv_iload_n hx hb d_Sw_area_49 rfl (lv_at hl 3 rfl) ?_
            refine lv_iconst (v := (-1)) hx hb d_Sw_area_50 (by decide) ?_
            refine lv_icmp_eq (tgt := 62) hx hb d_Sw_area_51 (by decide) (fun h0 => absurd h0 hc20) (fun _ => ?_)
            exact False.elim (by have h9 := vp_in_iff.mp hin; unfold okA at hok; revert hok h9 hc1 hc19 hc20 hq27 hc29; simp only [Int32.lt_iff_toInt_lt, Int32.le_iff_toInt_le, ← Int32.toInt_inj, Int32.reduceToInt, i32_m1]; omega)
          · -- 38 not taken
            refine lv_iload_n hx hb d_Sw_area_41 rfl (lv_at hl 1 rfl) ?_
            refine lv_iconst (v := 1) hx hb d_Sw_area_42 (by decide) ?_
            refine lv_icmp_ne (tgt := 62) hx hb d_Sw_area_43 (by decide) (fun h0 => absurd hc19 h0) (fun _ => ?_)
            refine lv_goto (tgt := 54) hx hb d_Sw_area_46 (by decide) ?_
            exact False.elim (by have h9 := vp_in_iff.mp hin; unfold okA at hok; revert hok h9 hc1 hc19 hc20 hq27 hc29; simp only [Int32.lt_iff_toInt_lt, Int32.le_iff_toInt_le, ← Int32.toInt_inj, Int32.reduceToInt, i32_m1]; omega)
        · -- 23: false
          refine lv_if_ne (tgt := 37) hx hb d_Sw_area_26 (by decide) (fun h0 => absurd (by decide) h0) (fun _ => ?_)
          exact False.elim (by have h9 := vp_in_iff.mp hin; unfold okA at hok; revert hok h9 hc1 hc19 hc20 hq27; simp only [Int32.lt_iff_toInt_lt, Int32.le_iff_toInt_le, ← Int32.toInt_inj, Int32.reduceToInt, i32_m1]; omega)
    · -- 6 not taken
      exact False.elim (by have h9 := vp_in_iff.mp hin; unfold okA at hok; revert hok h9 hc1 hc19; simp only [Int32.lt_iff_toInt_lt, Int32.le_iff_toInt_le, ← Int32.toInt_inj, Int32.reduceToInt, i32_m1]; omega)
