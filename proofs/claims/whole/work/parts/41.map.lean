theorem d_Sw_in_0 : decode b_Sw_in 0 = .ok (.iload_n 0, 1) := by decide +kernel
theorem d_Sw_in_1 : decode b_Sw_in 1 = .ok (.iload_n 1, 1) := by decide +kernel
theorem d_Sw_in_2 : decode b_Sw_in 2 = .ok (.ishr, 1) := by decide +kernel
theorem d_Sw_in_3 : decode b_Sw_in 3 = .ok (.iconst 1, 1) := by decide +kernel
theorem d_Sw_in_4 : decode b_Sw_in 4 = .ok (.iand, 1) := by decide +kernel
theorem d_Sw_in_5 : decode b_Sw_in 5 = .ok (.ifCond .eq 7, 3) := by decide +kernel
theorem d_Sw_in_8 : decode b_Sw_in 8 = .ok (.iconst 1, 1) := by decide +kernel
theorem d_Sw_in_9 : decode b_Sw_in 9 = .ok (.goto 4, 3) := by decide +kernel
theorem d_Sw_in_12 : decode b_Sw_in 12 = .ok (.iconst 0, 1) := by decide +kernel
theorem d_Sw_in_13 : decode b_Sw_in 13 = .ok (.ireturn, 1) := by decide +kernel

set_option maxHeartbeats 4000000 in
set_option maxRecDepth 100000 in
theorem c_Sw_in (l : Launch) (D : va_G) (cI cZ cJ cS : ClassId) (aT : Nat) (ceT : Cell) (T9 : Nat → Bool) (a : Nat) (h_a : a < 12) : Met l y_in w_Sw_in ({ frames := 0, cells := 0, slots := 0, locals := 0 }) (tP D cI cZ cJ cS aT ceT [.int (mI T9), .int (nI a)] []) (vp_Si (fun r => r = bI (T9 a))) 0 0 (fun _ => False) := by
  refine Met.ofW (cc := b_Sw_in) (maxL := 2) (ret := (some .boolean)) (by decide) rfl ?_
  intro p e s m args below meth c s₁ B hml hv
  obtain ⟨rfl, hP, hK, hX⟩ := hv
  have hx := B.exec
  have hb := B.bytes
  have hr := B.returns
  have hts0 := atoms_spec (ws := w_Sw_in) B.pre
  have hts : ∀ w ∈ TB, w.before _ s = true := fun w h => hts0 w (List.mem_cons_of_mem _ h)
  have hown : s.vm.findClass R_Sw = some m.cls := findClass_of_methodNamed B.named
  have hlocks := B.notSynchronized
  have hXH : s.heap[aT]? = s.heap[aT]? := rfl
  have hl := lv_entry ([.int (mI T9), .int (nI a)]) (n := 2) (Nat.le_of_ble_eq_true rfl)
  rw [lg_entry_eq]
  generalize (lg_sl ([.int (mI T9), .int (nI a)]) ++ List.replicate (2 - (lg_sl ([.int (mI T9), .int (nI a)])).length) Slot.unset).toArray = ls at hl ⊢
  have hl : lv_has ls 2 [(0, .int (mI T9)), (1, .int (nI a))] := hl
  refine lv_iload_n hx hb d_Sw_in_0 rfl (lv_at hl 0 rfl) ?_
  refine lv_iload_n hx hb d_Sw_in_1 rfl (lv_at hl 1 rfl) ?_
  refine lv_ishr hx hb d_Sw_in_2 ?_
  refine lv_iconst (v := 1) hx hb d_Sw_in_3 (by decide) ?_
  refine lv_iand hx hb d_Sw_in_4 ?_
  refine tr_top (mI_in T9 h_a) ?_
  rcases bI_c (T9 a) with ⟨hb2, e9⟩ | ⟨hb2, e9⟩
  · refine tr_top e9 ?_
    refine lv_if_eq (tgt := 12) hx hb d_Sw_in_5 (by decide) (fun h0 => absurd h0 (by decide)) (fun _ => ?_)
    refine lv_iconst (v := 1) hx hb d_Sw_in_8 (by decide) ?_
    refine lv_goto (tgt := 13) hx hb d_Sw_in_9 (by decide) ?_
    exact W.zret (v := 1) hx hb hr (by decide) (fun t ht hW => ⟨1, rfl, (bI_t (by simp [hb2])).symm, ht⟩) (fun q hq => by cases hq) d_Sw_in_13
  · refine tr_top e9 ?_
    refine lv_if_eq (tgt := 12) hx hb d_Sw_in_5 (by decide) (fun _ => ?_) (fun h0 => absurd (by decide) h0)
    refine lv_iconst (v := 0) hx hb d_Sw_in_12 (by decide) ?_
    exact W.zret (v := 0) hx hb hr (by decide) (fun t ht hW => ⟨0, rfl, (bI_f (by simp [hb2])).symm, ht⟩) (fun q hq => by cases hq) d_Sw_in_13


set_option maxHeartbeats 4000000 in
set_option maxRecDepth 100000 in
theorem c_Sw_bitN (l : Launch) (D : va_G) (cI cZ cJ cS : ClassId) (aT : Nat) (ceT : Cell) (a : Nat) (h_a : a < 12) : Met l y_bit w_Sw_bit ({ frames := 0, cells := 0, slots := 0, locals := 0 }) (tP D cI cZ cJ cS aT ceT [.int (nI a)] []) (vp_Si (fun r => r = mI (fun j => decide (j = a)))) 0 0 (fun _ => False) := by
  refine Met.ofW (cc := b_Sw_bit) (maxL := 1) (ret := (some .int)) (by decide) rfl ?_
  intro p e s m args below meth c s₁ B hml hv
  obtain ⟨rfl, hP, hK, hX⟩ := hv
  have hx := B.exec
  have hb := B.bytes
  have hr := B.returns
  have hts0 := atoms_spec (ws := w_Sw_bit) B.pre
  have hts : ∀ w ∈ TB, w.before _ s = true := fun w h => hts0 w (List.mem_cons_of_mem _ h)
  have hown : s.vm.findClass R_Sw = some m.cls := findClass_of_methodNamed B.named
  have hlocks := B.notSynchronized
  have hXH : s.heap[aT]? = s.heap[aT]? := rfl
  have hl := lv_entry ([.int (nI a)]) (n := 1) (Nat.le_of_ble_eq_true rfl)
  rw [lg_entry_eq]
  generalize (lg_sl ([.int (nI a)]) ++ List.replicate (1 - (lg_sl ([.int (nI a)])).length) Slot.unset).toArray = ls at hl ⊢
  have hl : lv_has ls 1 [(0, .int (nI a))] := hl
  refine lv_iconst (v := 1) hx hb d_Sw_bit_0 (by decide) ?_
  refine lv_iload_n hx hb d_Sw_bit_1 rfl (lv_at hl 0 rfl) ?_
  refine lv_ishl hx hb d_Sw_bit_2 ?_
  exact W.iret (v := 1 <<< ((nI a) &&& 31)) hx hb hr (fun t ht hW => ⟨1 <<< ((nI a) &&& 31), rfl, mI_one h_a, ht⟩) (fun q hq => by cases hq) d_Sw_bit_3

theorem d_Wm_isSea_0 : decode b_Wm_isSea 0 = .ok (.aload_n 0, 1) := by decide +kernel
theorem d_Wm_isSea_1 : decode b_Wm_isSea 1 = .ok (.getfield 22, 3) := by decide +kernel
theorem d_Wm_isSea_4 : decode b_Wm_isSea 4 = .ok (.iload_n 1, 1) := by decide +kernel
theorem d_Wm_isSea_5 : decode b_Wm_isSea 5 = .ok (.invokestatic 32, 3) := by decide +kernel
theorem d_Wm_isSea_8 : decode b_Wm_isSea 8 = .ok (.ireturn, 1) := by decide +kernel
theorem wd_285 : (Cond.code ({ cls := "SheetWar", name := "in", desc := "(II)Z" } : MethodName) prog_1_method_26_code (2 : Nat) (Option.some FieldType.boolean)) ∈ TB := tb_t 285 (by decide +kernel) (by decide +kernel)
theorem wd_284 : (Cond.static ({ cls := "SheetWar", name := "in", desc := "(II)Z" } : MethodName)) ∈ TB := tb_t 284 (by decide +kernel) (by decide +kernel)
set_option maxHeartbeats 4000000 in
set_option maxRecDepth 100000 in
theorem c_Wm_isSea (l : Launch) (D : va_G) (cI cZ cJ cS : ClassId) (aT : Nat) (ceT : Cell) (h0 qh qn n : Nat) (S Ce : Nat → Bool) (a : Nat) (h_a : a < 12) : Met l y_Wm_isSea w_Wm_isSea ({ frames := 1, cells := 0, slots := 0, locals := 21 }) (tP D cI cZ cJ cS aT ceT [.ref h0, .int (nI a)] [(h0, .inr (4, [.int (nI n), .int (mI S), .int (mI Ce), .ref qh, .ref qn]))]) (vp_Si (fun r => r = bI (S a))) 0 0 (fun _ => False) := by
  refine Met.ofW (cc := b_Wm_isSea) (maxL := 2) (ret := (some .boolean)) (by decide) rfl ?_
  intro p e s m args below meth c s₁ B hml hv
  obtain ⟨rfl, hP, hK, hX⟩ := hv
  have hx := B.exec
  have hb := B.bytes
  have hr := B.returns
  have hts0 := atoms_spec (ws := w_Wm_isSea) B.pre
  have hts : ∀ w ∈ TB, w.before _ s = true := fun w h => hts0 w (List.mem_cons_of_mem _ h)
  have hown : s.vm.findClass R_Wm = some m.cls := findClass_of_methodNamed B.named
  have hlocks := B.notSynchronized
  have hXH : s.heap[aT]? = s.heap[aT]? := rfl
  have hl := lv_entry ([.ref h0, .int (nI a)]) (n := 2) (Nat.le_of_ble_eq_true rfl)
  rw [lg_entry_eq]
  generalize (lg_sl ([.ref h0, .int (nI a)]) ++ List.replicate (2 - (lg_sl ([.ref h0, .int (nI a)])).length) Slot.unset).toArray = ls at hl ⊢
  have hl : lv_has ls 2 [(0, .ref h0), (1, .int (nI a))] := hl
  refine lv_aload_n hx hb d_Wm_isSea_0 rfl (lv_at hl 0 rfl) ?_
  refine va_get (D := D) (ci := 4) (v := .int (mI S)) (C := R_Wm) (T := T_Wm) (N := 5) hx hb hts hin_Wm hown hK hP 0 rfl rfl 1 (by decide) (hts _ wd_34) (fun _ h9 => h9) rfl d_Wm_isSea_1 ?_
  refine lv_iload_n hx hb d_Wm_isSea_4 rfl (lv_at hl 1 rfl) ?_
  have hPc := hP.sub (ws' := []) [] rfl
  refine vp_callSi (va_Run.run (va_runSN (As := [.int (mI S), .int (nI a)]) (rest := []) ⟨hx, hb, hml, hown, hts⟩ (c_Sw_in l D cI cZ cJ cS aT ceT  S a h_a) (⟨va_cnB 2 hts (tb_c wd_285) rfl rfl rfl hX.2.2.2.2.2.1 (hts _ wd_1) ⟨by decide, by decide, by decide +kernel⟩ ⟨Nat.le_of_ble_eq_true rfl, Nat.le_of_ble_eq_true rfl⟩, hts _ wd_284, trivial⟩) (tP_S hK hX hXH hPc) rfl rfl hl.1 rfl (lv_room (Nat.le_of_ble_eq_true rfl)) d_Wm_isSea_5 ⟨Nat.le_of_ble_eq_true rfl, Nat.le_of_ble_eq_true rfl⟩)) (fun r1 hr9 => ?_)
  rw [hr9]
  exact W.zret (v := bI (S a)) hx hb hr (bI_n _) (fun t ht hW => ⟨bI (S a), rfl, rfl, ht⟩) (fun q hq => by cases hq) d_Wm_isSea_8

theorem d_Wm_canGo_0 : decode b_Wm_canGo 0 = .ok (.aload_n 0, 1) := by decide +kernel
theorem d_Wm_canGo_1 : decode b_Wm_canGo 1 = .ok (.iload_n 2, 1) := by decide +kernel
theorem d_Wm_canGo_2 : decode b_Wm_canGo 2 = .ok (.invokevirtual 36, 3) := by decide +kernel
theorem d_Wm_canGo_5 : decode b_Wm_canGo 5 = .ok (.ifCond .ne 11, 3) := by decide +kernel
theorem d_Wm_canGo_8 : decode b_Wm_canGo 8 = .ok (.aload_n 0, 1) := by decide +kernel
theorem d_Wm_canGo_9 : decode b_Wm_canGo 9 = .ok (.iload_n 3, 1) := by decide +kernel
theorem d_Wm_canGo_10 : decode b_Wm_canGo 10 = .ok (.invokevirtual 36, 3) := by decide +kernel
theorem d_Wm_canGo_13 : decode b_Wm_canGo 13 = .ok (.ifCond .eq 7, 3) := by decide +kernel
theorem d_Wm_canGo_16 : decode b_Wm_canGo 16 = .ok (.iconst 1, 1) := by decide +kernel
theorem d_Wm_canGo_17 : decode b_Wm_canGo 17 = .ok (.goto 4, 3) := by decide +kernel
theorem d_Wm_canGo_20 : decode b_Wm_canGo 20 = .ok (.iconst 0, 1) := by decide +kernel
theorem d_Wm_canGo_21 : decode b_Wm_canGo 21 = .ok (.istore 4, 2) := by decide +kernel
theorem d_Wm_canGo_23 : decode b_Wm_canGo 23 = .ok (.aload_n 0, 1) := by decide +kernel
theorem d_Wm_canGo_24 : decode b_Wm_canGo 24 = .ok (.getfield 15, 3) := by decide +kernel
theorem d_Wm_canGo_27 : decode b_Wm_canGo 27 = .ok (.iload_n 2, 1) := by decide +kernel
theorem d_Wm_canGo_28 : decode b_Wm_canGo 28 = .ok (.iaload, 1) := by decide +kernel
theorem d_Wm_canGo_29 : decode b_Wm_canGo 29 = .ok (.iload_n 3, 1) := by decide +kernel
theorem d_Wm_canGo_30 : decode b_Wm_canGo 30 = .ok (.invokestatic 32, 3) := by decide +kernel
theorem d_Wm_canGo_33 : decode b_Wm_canGo 33 = .ok (.ifCond .eq 22, 3) := by decide +kernel
theorem d_Wm_canGo_36 : decode b_Wm_canGo 36 = .ok (.iload 4, 2) := by decide +kernel
theorem d_Wm_canGo_38 : decode b_Wm_canGo 38 = .ok (.iload_n 1, 1) := by decide +kernel
theorem d_Wm_canGo_39 : decode b_Wm_canGo 39 = .ok (.iconst 1, 1) := by decide +kernel
theorem d_Wm_canGo_40 : decode b_Wm_canGo 40 = .ok (.if_icmp .ne 7, 3) := by decide +kernel
theorem d_Wm_canGo_43 : decode b_Wm_canGo 43 = .ok (.iconst 1, 1) := by decide +kernel
theorem d_Wm_canGo_44 : decode b_Wm_canGo 44 = .ok (.goto 4, 3) := by decide +kernel
theorem d_Wm_canGo_47 : decode b_Wm_canGo 47 = .ok (.iconst 0, 1) := by decide +kernel
theorem d_Wm_canGo_48 : decode b_Wm_canGo 48 = .ok (.if_icmp .ne 7, 3) := by decide +kernel
theorem d_Wm_canGo_51 : decode b_Wm_canGo 51 = .ok (.iconst 1, 1) := by decide +kernel
theorem d_Wm_canGo_52 : decode b_Wm_canGo 52 = .ok (.goto 4, 3) := by decide +kernel
theorem d_Wm_canGo_55 : decode b_Wm_canGo 55 = .ok (.iconst 0, 1) := by decide +kernel
theorem d_Wm_canGo_56 : decode b_Wm_canGo 56 = .ok (.ireturn, 1) := by decide +kernel
theorem wd_282 : (Cond.code ({ cls := "SheetWar$WarMap", name := "isSea", desc := "(I)Z" } : MethodName) prog_6_method_5_code (2 : Nat) (Option.some FieldType.boolean)) ∈ TB := tb_t 282 (by decide +kernel) (by decide +kernel)
theorem wd_279 : (Cond.methodLink "SheetWar$WarMap" (36 : Nat) ({ cls := "SheetWar$WarMap", name := "isSea", desc := "(I)Z" } : MethodName)) ∈ TB := tb_t 279 (by decide +kernel) (by decide +kernel)
theorem wd_280 : (Cond.instanceMethod ({ cls := "SheetWar$WarMap", name := "isSea", desc := "(I)Z" } : MethodName)) ∈ TB := tb_t 280 (by decide +kernel) (by decide +kernel)
theorem wd_281 : (Cond.selects "SheetWar$WarMap" ({ cls := "SheetWar$WarMap", name := "isSea", desc := "(I)Z" } : MethodName) ({ cls := "SheetWar$WarMap", name := "isSea", desc := "(I)Z" } : MethodName)) ∈ TB := tb_t 281 (by decide +kernel) (by decide +kernel)
set_option maxHeartbeats 4000000 in
set_option maxRecDepth 100000 in
theorem c_Wm_canGo (l : Launch) (D : va_G) (cI cZ cJ cS : ClassId) (aT : Nat) (ceT : Cell) (h0 qh qn n : Nat) (S Ce : Nat → Bool) (N : Nat → Nat → Bool) (k : Int32) (a : Nat) (b : Nat) (h_a : a < 12) (h_b : b < 12) : Met l y_Wm_canGo w_Wm_canGo ({ frames := 2, cells := 0, slots := 0, locals := 42 }) (tP D cI cZ cJ cS aT ceT [.ref h0, .int k, .int (nI a), .int (nI b)] [(h0, .inr (4, [.int (nI n), .int (mI S), .int (mI Ce), .ref qh, .ref qn])), (qn, .inl (cI, 12, .inl (fun j => mI (N j))))]) (vp_Si (fun r => r = bI (N a b && ((S a || S b) == decide (k = 1))))) 0 0 (fun _ => False) := by
  refine Met.ofW (cc := b_Wm_canGo) (maxL := 5) (ret := (some .boolean)) (by decide) rfl ?_
  intro p e s m args below meth c s₁ B hml hv
  obtain ⟨rfl, hP, hK, hX⟩ := hv
  have hx := B.exec
  have hb := B.bytes
  have hr := B.returns
  have hts0 := atoms_spec (ws := w_Wm_canGo) B.pre
  have hts : ∀ w ∈ TB, w.before _ s = true := fun w h => hts0 w (List.mem_cons_of_mem _ h)
  have hown : s.vm.findClass R_Wm = some m.cls := findClass_of_methodNamed B.named
  have hlocks := B.notSynchronized
  have hXH : s.heap[aT]? = s.heap[aT]? := rfl
  have hl := lv_entry ([.ref h0, .int k, .int (nI a), .int (nI b)]) (n := 5) (Nat.le_of_ble_eq_true rfl)
  rw [lg_entry_eq]
  generalize (lg_sl ([.ref h0, .int k, .int (nI a), .int (nI b)]) ++ List.replicate (5 - (lg_sl ([.ref h0, .int k, .int (nI a), .int (nI b)])).length) Slot.unset).toArray = ls at hl ⊢
  have hl : lv_has ls 5 [(0, .ref h0), (1, .int k), (2, .int (nI a)), (3, .int (nI b))] := hl
  refine lv_aload_n hx hb d_Wm_canGo_0 rfl (lv_at hl 0 rfl) ?_
  refine lv_iload_n hx hb d_Wm_canGo_1 rfl (lv_at hl 2 rfl) ?_
  have hPc := hP.sub (ws' := [(h0, .inr (4, [.int (nI n), .int (mI S), .int (mI Ce), .ref qh, .ref qn]))]) [0] rfl
  refine vp_callSi (va_Run.run (va_runV (As := [.int (nI a)]) (rest := []) ⟨hx, hb, hml, hown, hts⟩ (c_Wm_isSea l D cI cZ cJ cS aT ceT  h0 qh qn n S Ce a h_a) (cwV 1 hts (tb_4 wd_279 wd_280 wd_281 wd_2 (tb_c wd_282)) rfl rfl rfl ⟨rfl, by decide, by decide, by decide +kernel⟩ ⟨Nat.le_of_ble_eq_true rfl, Nat.le_of_ble_eq_true rfl⟩) (tP_V hK hX hXH hPc (q := 0) rfl rfl) rfl rfl hl.1 rfl (lv_room (Nat.le_of_ble_eq_true rfl)) d_Wm_canGo_2 ⟨Nat.le_of_ble_eq_true rfl, Nat.le_of_ble_eq_true rfl⟩)) (fun r1 hr9 => ?_)
  rw [hr9]
  rcases bI_c (S a) with ⟨hb3, e9⟩ | ⟨hb3, e9⟩
  · refine tr_top e9 ?_
    refine lv_if_ne (tgt := 16) hx hb d_Wm_canGo_5 (by decide) (fun _ => ?_) (fun h0 => absurd h0 (by decide))
    refine lv_iconst (v := 1) hx hb d_Wm_canGo_16 (by decide) ?_
    refine lv_goto (tgt := 21) hx hb d_Wm_canGo_17 (by decide) ?_
    refine lv_istore (lv' := [(4, .int 1), (0, .ref h0), (1, .int k), (2, .int (nI a)), (3, .int (nI b))]) hx hb d_Wm_canGo_21 hl (by decide) rfl (fun ls hl => ?_)
    refine lv_aload_n hx hb d_Wm_canGo_23 rfl (lv_at hl 1 rfl) ?_
    refine va_get (D := D) (ci := 4) (v := .ref qn) (C := R_Wm) (T := T_Wm) (N := 5) hx hb hts hin_Wm hown hK hP 0 rfl rfl 4 (by decide) (hts _ wd_39) (fun _ h9 => h9) rfl d_Wm_canGo_24 ?_
    refine lv_iload_n hx hb d_Wm_canGo_27 rfl (lv_at hl 3 rfl) ?_
    refine tr_iald (v := mI (N a)) hx hb hK hP 1 0 rfl rfl a h_a (by decide) rfl d_Wm_canGo_28 ?_
    refine lv_iload_n hx hb d_Wm_canGo_29 rfl (lv_at hl 4 rfl) ?_
    have hPc := hP.sub (ws' := []) [] rfl
    refine vp_callSi (va_Run.run (va_runSN (As := [.int (mI (N a)), .int (nI b)]) (rest := []) ⟨hx, hb, hml, hown, hts⟩ (c_Sw_in l D cI cZ cJ cS aT ceT  (N a) b h_b) (⟨va_cnB 2 hts (tb_c wd_285) rfl rfl rfl hX.2.2.2.2.2.1 (hts _ wd_1) ⟨by decide, by decide, by decide +kernel⟩ ⟨Nat.le_of_ble_eq_true rfl, Nat.le_of_ble_eq_true rfl⟩, hts _ wd_284, trivial⟩) (tP_S hK hX hXH hPc) rfl rfl hl.1 rfl (lv_room (Nat.le_of_ble_eq_true rfl)) d_Wm_canGo_30 ⟨Nat.le_of_ble_eq_true rfl, Nat.le_of_ble_eq_true rfl⟩)) (fun r5 hr9 => ?_)
    rw [hr9]
    rcases bI_c ((N a) b) with ⟨hb7, e9⟩ | ⟨hb7, e9⟩
    · refine tr_top e9 ?_
      refine lv_if_eq (tgt := 55) hx hb d_Wm_canGo_33 (by decide) (fun h0 => absurd h0 (by decide)) (fun _ => ?_)
      refine lv_iload hx hb d_Wm_canGo_36 (lv_at hl 0 rfl) ?_
      refine lv_iload_n hx hb d_Wm_canGo_38 rfl (lv_at hl 2 rfl) ?_
      refine lv_iconst (v := 1) hx hb d_Wm_canGo_39 (by decide) ?_
      refine lv_icmp_ne (tgt := 47) hx hb d_Wm_canGo_40 (by decide) (fun hc9 => ?_) (fun hc9 => ?_)
      · -- 40 taken
        refine lv_iconst (v := 0) hx hb d_Wm_canGo_47 (by decide) ?_
        refine lv_icmp_ne (tgt := 55) hx hb d_Wm_canGo_48 (by decide) (fun _ => ?_) (fun h0 => absurd h0 (by decide))
        refine lv_iconst (v := 0) hx hb d_Wm_canGo_55 (by decide) ?_
        exact W.zret (v := 0) hx hb hr (by decide) (fun t ht hW => ⟨0, rfl, (bI_f (by simp [hb3, hb7, hc9])).symm, ht⟩) (fun q hq => by cases hq) d_Wm_canGo_56
      · -- 40 not taken
        refine lv_iconst (v := 1) hx hb d_Wm_canGo_43 (by decide) ?_
        refine lv_goto (tgt := 48) hx hb d_Wm_canGo_44 (by decide) ?_
        refine lv_icmp_ne (tgt := 55) hx hb d_Wm_canGo_48 (by decide) (fun h0 => absurd (by decide) h0) (fun _ => ?_)
        refine lv_iconst (v := 1) hx hb d_Wm_canGo_51 (by decide) ?_
        refine lv_goto (tgt := 56) hx hb d_Wm_canGo_52 (by decide) ?_
        exact W.zret (v := 1) hx hb hr (by decide) (fun t ht hW => ⟨1, rfl, (bI_t (by simp [hb3, hb7, hc9])).symm, ht⟩) (fun q hq => by cases hq) d_Wm_canGo_56
    · refine tr_top e9 ?_
      refine lv_if_eq (tgt := 55) hx hb d_Wm_canGo_33 (by decide) (fun _ => ?_) (fun h0 => absurd (by decide) h0)
      refine lv_iconst (v := 0) hx hb d_Wm_canGo_55 (by decide) ?_
      exact W.zret (v := 0) hx hb hr (by decide) (fun t ht hW => ⟨0, rfl, (bI_f (by simp [hb3, hb7])).symm, ht⟩) (fun q hq => by cases hq) d_Wm_canGo_56
  · refine tr_top e9 ?_
    refine lv_if_ne (tgt := 16) hx hb d_Wm_canGo_5 (by decide) (fun h0 => absurd (by decide) h0) (fun _ => ?_)
    refine lv_aload_n hx hb d_Wm_canGo_8 rfl (lv_at hl 0 rfl) ?_
    refine lv_iload_n hx hb d_Wm_canGo_9 rfl (lv_at hl 3 rfl) ?_
    have hPc := hP.sub (ws' := [(h0, .inr (4, [.int (nI n), .int (mI S), .int (mI Ce), .ref qh, .ref qn]))]) [0] rfl
    refine vp_callSi (va_Run.run (va_runV (As := [.int (nI b)]) (rest := []) ⟨hx, hb, hml, hown, hts⟩ (c_Wm_isSea l D cI cZ cJ cS aT ceT  h0 qh qn n S Ce b h_b) (cwV 1 hts (tb_4 wd_279 wd_280 wd_281 wd_2 (tb_c wd_282)) rfl rfl rfl ⟨rfl, by decide, by decide, by decide +kernel⟩ ⟨Nat.le_of_ble_eq_true rfl, Nat.le_of_ble_eq_true rfl⟩) (tP_V hK hX hXH hPc (q := 0) rfl rfl) rfl rfl hl.1 rfl (lv_room (Nat.le_of_ble_eq_true rfl)) d_Wm_canGo_10 ⟨Nat.le_of_ble_eq_true rfl, Nat.le_of_ble_eq_true rfl⟩)) (fun r14 hr9 => ?_)
    rw [hr9]
    rcases bI_c (S b) with ⟨hb16, e9⟩ | ⟨hb16, e9⟩
    · refine tr_top e9 ?_
      refine lv_if_eq (tgt := 20) hx hb d_Wm_canGo_13 (by decide) (fun h0 => absurd h0 (by decide)) (fun _ => ?_)
      refine lv_iconst (v := 1) hx hb d_Wm_canGo_16 (by decide) ?_
      refine lv_goto (tgt := 21) hx hb d_Wm_canGo_17 (by decide) ?_
      refine lv_istore (lv' := [(4, .int 1), (0, .ref h0), (1, .int k), (2, .int (nI a)), (3, .int (nI b))]) hx hb d_Wm_canGo_21 hl (by decide) rfl (fun ls hl => ?_)
      refine lv_aload_n hx hb d_Wm_canGo_23 rfl (lv_at hl 1 rfl) ?_
      refine va_get (D := D) (ci := 4) (v := .ref qn) (C := R_Wm) (T := T_Wm) (N := 5) hx hb hts hin_Wm hown hK hP 0 rfl rfl 4 (by decide) (hts _ wd_39) (fun _ h9 => h9) rfl d_Wm_canGo_24 ?_
      refine lv_iload_n hx hb d_Wm_canGo_27 rfl (lv_at hl 3 rfl) ?_
      refine tr_iald (v := mI (N a)) hx hb hK hP 1 0 rfl rfl a h_a (by decide) rfl d_Wm_canGo_28 ?_
      refine lv_iload_n hx hb d_Wm_canGo_29 rfl (lv_at hl 4 rfl) ?_
      have hPc := hP.sub (ws' := []) [] rfl
      refine vp_callSi (va_Run.run (va_runSN (As := [.int (mI (N a)), .int (nI b)]) (rest := []) ⟨hx, hb, hml, hown, hts⟩ (c_Sw_in l D cI cZ cJ cS aT ceT  (N a) b h_b) (⟨va_cnB 2 hts (tb_c wd_285) rfl rfl rfl hX.2.2.2.2.2.1 (hts _ wd_1) ⟨by decide, by decide, by decide +kernel⟩ ⟨Nat.le_of_ble_eq_true rfl, Nat.le_of_ble_eq_true rfl⟩, hts _ wd_284, trivial⟩) (tP_S hK hX hXH hPc) rfl rfl hl.1 rfl (lv_room (Nat.le_of_ble_eq_true rfl)) d_Wm_canGo_30 ⟨Nat.le_of_ble_eq_true rfl, Nat.le_of_ble_eq_true rfl⟩)) (fun r18 hr9 => ?_)
      rw [hr9]
      rcases bI_c ((N a) b) with ⟨hb20, e9⟩ | ⟨hb20, e9⟩
      · refine tr_top e9 ?_
        refine lv_if_eq (tgt := 55) hx hb d_Wm_canGo_33 (by decide) (fun h0 => absurd h0 (by decide)) (fun _ => ?_)
        refine lv_iload hx hb d_Wm_canGo_36 (lv_at hl 0 rfl) ?_
        refine lv_iload_n hx hb d_Wm_canGo_38 rfl (lv_at hl 2 rfl) ?_
        refine lv_iconst (v := 1) hx hb d_Wm_canGo_39 (by decide) ?_
        refine lv_icmp_ne (tgt := 47) hx hb d_Wm_canGo_40 (by decide) (fun hc22 => ?_) (fun hc22 => ?_)
        · -- 40 taken
          refine lv_iconst (v := 0) hx hb d_Wm_canGo_47 (by decide) ?_
          refine lv_icmp_ne (tgt := 55) hx hb d_Wm_canGo_48 (by decide) (fun _ => ?_) (fun h0 => absurd h0 (by decide))
          refine lv_iconst (v := 0) hx hb d_Wm_canGo_55 (by decide) ?_
          exact W.zret (v := 0) hx hb hr (by decide) (fun t ht hW => ⟨0, rfl, (bI_f (by simp [hb3, hb16, hb20, hc22])).symm, ht⟩) (fun q hq => by cases hq) d_Wm_canGo_56
        · -- 40 not taken
          refine lv_iconst (v := 1) hx hb d_Wm_canGo_43 (by decide) ?_
          refine lv_goto (tgt := 48) hx hb d_Wm_canGo_44 (by decide) ?_
          refine lv_icmp_ne (tgt := 55) hx hb d_Wm_canGo_48 (by decide) (fun h0 => absurd (by decide) h0) (fun _ => ?_)
          refine lv_iconst (v := 1) hx hb d_Wm_canGo_51 (by decide) ?_
          refine lv_goto (tgt := 56) hx hb d_Wm_canGo_52 (by decide) ?_
          exact W.zret (v := 1) hx hb hr (by decide) (fun t ht hW => ⟨1, rfl, (bI_t (by simp [hb3, hb16, hb20, hc22])).symm, ht⟩) (fun q hq => by cases hq) d_Wm_canGo_56
      · refine tr_top e9 ?_
        refine lv_if_eq (tgt := 55) hx hb d_Wm_canGo_33 (by decide) (fun _ => ?_) (fun h0 => absurd (by decide) h0)
        refine lv_iconst (v := 0) hx hb d_Wm_canGo_55 (by decide) ?_
        exact W.zret (v := 0) hx hb hr (by decide) (fun t ht hW => ⟨0, rfl, (bI_f (by simp [hb3, hb16, hb20])).symm, ht⟩) (fun q hq => by cases hq) d_Wm_canGo_56
    · refine tr_top e9 ?_
      refine lv_if_eq (tgt := 20) hx hb d_Wm_canGo_13 (by decide) (fun _ => ?_) (fun h0 => absurd (by decide) h0)
      refine lv_iconst (v := 0) hx hb d_Wm_canGo_20 (by decide) ?_
      refine lv_istore (lv' := [(4, .int 0), (0, .ref h0), (1, .int k), (2, .int (nI a)), (3, .int (nI b))]) hx hb d_Wm_canGo_21 hl (by decide) rfl (fun ls hl => ?_)
      refine lv_aload_n hx hb d_Wm_canGo_23 rfl (lv_at hl 1 rfl) ?_
      refine va_get (D := D) (ci := 4) (v := .ref qn) (C := R_Wm) (T := T_Wm) (N := 5) hx hb hts hin_Wm hown hK hP 0 rfl rfl 4 (by decide) (hts _ wd_39) (fun _ h9 => h9) rfl d_Wm_canGo_24 ?_
      refine lv_iload_n hx hb d_Wm_canGo_27 rfl (lv_at hl 3 rfl) ?_
      refine tr_iald (v := mI (N a)) hx hb hK hP 1 0 rfl rfl a h_a (by decide) rfl d_Wm_canGo_28 ?_
      refine lv_iload_n hx hb d_Wm_canGo_29 rfl (lv_at hl 4 rfl) ?_
      have hPc := hP.sub (ws' := []) [] rfl
      refine vp_callSi (va_Run.run (va_runSN (As := [.int (mI (N a)), .int (nI b)]) (rest := []) ⟨hx, hb, hml, hown, hts⟩ (c_Sw_in l D cI cZ cJ cS aT ceT  (N a) b h_b) (⟨va_cnB 2 hts (tb_c wd_285) rfl rfl rfl hX.2.2.2.2.2.1 (hts _ wd_1) ⟨by decide, by decide, by decide +kernel⟩ ⟨Nat.le_of_ble_eq_true rfl, Nat.le_of_ble_eq_true rfl⟩, hts _ wd_284, trivial⟩) (tP_S hK hX hXH hPc) rfl rfl hl.1 rfl (lv_room (Nat.le_of_ble_eq_true rfl)) d_Wm_canGo_30 ⟨Nat.le_of_ble_eq_true rfl, Nat.le_of_ble_eq_true rfl⟩)) (fun r27 hr9 => ?_)
      rw [hr9]
      rcases bI_c ((N a) b) with ⟨hb29, e9⟩ | ⟨hb29, e9⟩
      · refine tr_top e9 ?_
        refine lv_if_eq (tgt := 55) hx hb d_Wm_canGo_33 (by decide) (fun h0 => absurd h0 (by decide)) (fun _ => ?_)
        refine lv_iload hx hb d_Wm_canGo_36 (lv_at hl 0 rfl) ?_
        refine lv_iload_n hx hb d_Wm_canGo_38 rfl (lv_at hl 2 rfl) ?_
        refine lv_iconst (v := 1) hx hb d_Wm_canGo_39 (by decide) ?_
        refine lv_icmp_ne (tgt := 47) hx hb d_Wm_canGo_40 (by decide) (fun hc31 => ?_) (fun hc31 => ?_)
        · -- 40 taken
          refine lv_iconst (v := 0) hx hb d_Wm_canGo_47 (by decide) ?_
          refine lv_icmp_ne (tgt := 55) hx hb d_Wm_canGo_48 (by decide) (fun h0 => absurd (by decide) h0) (fun _ => ?_)
          refine lv_iconst (v := 1) hx hb d_Wm_canGo_51 (by decide) ?_
          refine lv_goto (tgt := 56) hx hb d_Wm_canGo_52 (by decide) ?_
          exact W.zret (v := 1) hx hb hr (by decide) (fun t ht hW => ⟨1, rfl, (bI_t (by simp [hb3, hb16, hb29, hc31])).symm, ht⟩) (fun q hq => by cases hq) d_Wm_canGo_56
        · -- 40 not taken
          refine lv_iconst (v := 1) hx hb d_Wm_canGo_43 (by decide) ?_
          refine lv_goto (tgt := 48) hx hb d_Wm_canGo_44 (by decide) ?_
          refine lv_icmp_ne (tgt := 55) hx hb d_Wm_canGo_48 (by decide) (fun _ => ?_) (fun h0 => absurd h0 (by decide))
          refine lv_iconst (v := 0) hx hb d_Wm_canGo_55 (by decide) ?_
          exact W.zret (v := 0) hx hb hr (by decide) (fun t ht hW => ⟨0, rfl, (bI_f (by simp [hb3, hb16, hb29, hc31])).symm, ht⟩) (fun q hq => by cases hq) d_Wm_canGo_56
      · refine tr_top e9 ?_
        refine lv_if_eq (tgt := 55) hx hb d_Wm_canGo_33 (by decide) (fun _ => ?_) (fun h0 => absurd (by decide) h0)
        refine lv_iconst (v := 0) hx hb d_Wm_canGo_55 (by decide) ?_
        exact W.zret (v := 0) hx hb hr (by decide) (fun t ht hW => ⟨0, rfl, (bI_f (by simp [hb3, hb16, hb29])).symm, ht⟩) (fun q hq => by cases hq) d_Wm_canGo_56

theorem d_Wm_canStand_0 : decode b_Wm_canStand 0 = .ok (.iload_n 1, 1) := by decide +kernel
theorem d_Wm_canStand_1 : decode b_Wm_canStand 1 = .ok (.ifCond .ne 17, 3) := by decide +kernel
theorem d_Wm_canStand_4 : decode b_Wm_canStand 4 = .ok (.aload_n 0, 1) := by decide +kernel
theorem d_Wm_canStand_5 : decode b_Wm_canStand 5 = .ok (.iload_n 2, 1) := by decide +kernel
theorem d_Wm_canStand_6 : decode b_Wm_canStand 6 = .ok (.invokevirtual 36, 3) := by decide +kernel
theorem d_Wm_canStand_9 : decode b_Wm_canStand 9 = .ok (.ifCond .ne 7, 3) := by decide +kernel
theorem d_Wm_canStand_12 : decode b_Wm_canStand 12 = .ok (.iconst 1, 1) := by decide +kernel
theorem d_Wm_canStand_13 : decode b_Wm_canStand 13 = .ok (.goto 4, 3) := by decide +kernel
theorem d_Wm_canStand_16 : decode b_Wm_canStand 16 = .ok (.iconst 0, 1) := by decide +kernel
theorem d_Wm_canStand_17 : decode b_Wm_canStand 17 = .ok (.ireturn, 1) := by decide +kernel
theorem d_Wm_canStand_18 : decode b_Wm_canStand 18 = .ok (.aload_n 0, 1) := by decide +kernel
theorem d_Wm_canStand_19 : decode b_Wm_canStand 19 = .ok (.iload_n 2, 1) := by decide +kernel
theorem d_Wm_canStand_20 : decode b_Wm_canStand 20 = .ok (.invokevirtual 36, 3) := by decide +kernel
theorem d_Wm_canStand_23 : decode b_Wm_canStand 23 = .ok (.ifCond .ne 17, 3) := by decide +kernel
theorem d_Wm_canStand_26 : decode b_Wm_canStand 26 = .ok (.aload_n 0, 1) := by decide +kernel
theorem d_Wm_canStand_27 : decode b_Wm_canStand 27 = .ok (.getfield 15, 3) := by decide +kernel
theorem d_Wm_canStand_30 : decode b_Wm_canStand 30 = .ok (.iload_n 2, 1) := by decide +kernel
theorem d_Wm_canStand_31 : decode b_Wm_canStand 31 = .ok (.iaload, 1) := by decide +kernel
theorem d_Wm_canStand_32 : decode b_Wm_canStand 32 = .ok (.aload_n 0, 1) := by decide +kernel
theorem d_Wm_canStand_33 : decode b_Wm_canStand 33 = .ok (.getfield 22, 3) := by decide +kernel
theorem d_Wm_canStand_36 : decode b_Wm_canStand 36 = .ok (.iand, 1) := by decide +kernel
theorem d_Wm_canStand_37 : decode b_Wm_canStand 37 = .ok (.ifCond .eq 7, 3) := by decide +kernel
theorem d_Wm_canStand_40 : decode b_Wm_canStand 40 = .ok (.iconst 1, 1) := by decide +kernel
theorem d_Wm_canStand_41 : decode b_Wm_canStand 41 = .ok (.goto 4, 3) := by decide +kernel
theorem d_Wm_canStand_44 : decode b_Wm_canStand 44 = .ok (.iconst 0, 1) := by decide +kernel
theorem d_Wm_canStand_45 : decode b_Wm_canStand 45 = .ok (.ireturn, 1) := by decide +kernel

set_option maxHeartbeats 4000000 in
set_option maxRecDepth 100000 in
theorem c_Wm_canStand (l : Launch) (D : va_G) (cI cZ cJ cS : ClassId) (aT : Nat) (ceT : Cell) (h0 qh qn n : Nat) (S Ce : Nat → Bool) (N : Nat → Nat → Bool) (k : Int32) (a : Nat) (h_a : a < 12) : Met l y_Wm_canStand w_Wm_canStand ({ frames := 2, cells := 0, slots := 0, locals := 42 }) (tP D cI cZ cJ cS aT ceT [.ref h0, .int k, .int (nI a)] [(h0, .inr (4, [.int (nI n), .int (mI S), .int (mI Ce), .ref qh, .ref qn])), (qn, .inl (cI, 12, .inl (fun j => mI (N j))))]) (vp_Si (fun r => r = bI (if k = 0 then !S a else S a || anyB (fun j => N a j && S j) 12))) 0 0 (fun _ => False) := by
  refine Met.ofW (cc := b_Wm_canStand) (maxL := 3) (ret := (some .boolean)) (by decide) rfl ?_
  intro p e s m args below meth c s₁ B hml hv
  obtain ⟨rfl, hP, hK, hX⟩ := hv
  have hx := B.exec
  have hb := B.bytes
  have hr := B.returns
  have hts0 := atoms_spec (ws := w_Wm_canStand) B.pre
  have hts : ∀ w ∈ TB, w.before _ s = true := fun w h => hts0 w (List.mem_cons_of_mem _ h)
  have hown : s.vm.findClass R_Wm = some m.cls := findClass_of_methodNamed B.named
  have hlocks := B.notSynchronized
  have hXH : s.heap[aT]? = s.heap[aT]? := rfl
  have hl := lv_entry ([.ref h0, .int k, .int (nI a)]) (n := 3) (Nat.le_of_ble_eq_true rfl)
  rw [lg_entry_eq]
  generalize (lg_sl ([.ref h0, .int k, .int (nI a)]) ++ List.replicate (3 - (lg_sl ([.ref h0, .int k, .int (nI a)])).length) Slot.unset).toArray = ls at hl ⊢
  have hl : lv_has ls 3 [(0, .ref h0), (1, .int k), (2, .int (nI a))] := hl
  refine lv_iload_n hx hb d_Wm_canStand_0 rfl (lv_at hl 1 rfl) ?_
  refine lv_if_ne (tgt := 18) hx hb d_Wm_canStand_1 (by decide) (fun hc1 => ?_) (fun hc1 => ?_)
  · -- 1 taken
    refine lv_aload_n hx hb d_Wm_canStand_18 rfl (lv_at hl 0 rfl) ?_
    refine lv_iload_n hx hb d_Wm_canStand_19 rfl (lv_at hl 2 rfl) ?_
    have hPc := hP.sub (ws' := [(h0, .inr (4, [.int (nI n), .int (mI S), .int (mI Ce), .ref qh, .ref qn]))]) [0] rfl
    refine vp_callSi (va_Run.run (va_runV (As := [.int (nI a)]) (rest := []) ⟨hx, hb, hml, hown, hts⟩ (c_Wm_isSea l D cI cZ cJ cS aT ceT  h0 qh qn n S Ce a h_a) (cwV 1 hts (tb_4 wd_279 wd_280 wd_281 wd_2 (tb_c wd_282)) rfl rfl rfl ⟨rfl, by decide, by decide, by decide +kernel⟩ ⟨Nat.le_of_ble_eq_true rfl, Nat.le_of_ble_eq_true rfl⟩) (tP_V hK hX hXH hPc (q := 0) rfl rfl) rfl rfl hl.1 rfl (lv_room (Nat.le_of_ble_eq_true rfl)) d_Wm_canStand_20 ⟨Nat.le_of_ble_eq_true rfl, Nat.le_of_ble_eq_true rfl⟩)) (fun r2 hr9 => ?_)
    rw [hr9]
    rcases bI_c (S a) with ⟨hb4, e9⟩ | ⟨hb4, e9⟩
    · refine tr_top e9 ?_
      refine lv_if_ne (tgt := 40) hx hb d_Wm_canStand_23 (by decide) (fun _ => ?_) (fun h0 => absurd h0 (by decide))
      refine lv_iconst (v := 1) hx hb d_Wm_canStand_40 (by decide) ?_
      refine lv_goto (tgt := 45) hx hb d_Wm_canStand_41 (by decide) ?_
      exact W.zret (v := 1) hx hb hr (by decide) (fun t ht hW => ⟨1, rfl, (bI_t (by simp [hc1, hb4])).symm, ht⟩) (fun q hq => by cases hq) d_Wm_canStand_45
    · refine tr_top e9 ?_
      refine lv_if_ne (tgt := 40) hx hb d_Wm_canStand_23 (by decide) (fun h0 => absurd (by decide) h0) (fun _ => ?_)
      refine lv_aload_n hx hb d_Wm_canStand_26 rfl (lv_at hl 0 rfl) ?_
      refine va_get (D := D) (ci := 4) (v := .ref qn) (C := R_Wm) (T := T_Wm) (N := 5) hx hb hts hin_Wm hown hK hP 0 rfl rfl 4 (by decide) (hts _ wd_39) (fun _ h9 => h9) rfl d_Wm_canStand_27 ?_
      refine lv_iload_n hx hb d_Wm_canStand_30 rfl (lv_at hl 2 rfl) ?_
      refine tr_iald (v := mI (N a)) hx hb hK hP 1 0 rfl rfl a h_a (by decide) rfl d_Wm_canStand_31 ?_
      refine lv_aload_n hx hb d_Wm_canStand_32 rfl (lv_at hl 0 rfl) ?_
      refine va_get (D := D) (ci := 4) (v := .int (mI S)) (C := R_Wm) (T := T_Wm) (N := 5) hx hb hts hin_Wm hown hK hP 0 rfl rfl 1 (by decide) (hts _ wd_34) (fun _ h9 => h9) rfl d_Wm_canStand_33 ?_
      refine lv_iand hx hb d_Wm_canStand_36 ?_
      refine tr_top (y := mI (fun j => N a j && S j)) (mI_and _ _) ?_
      cases hm8 : anyB (fun j => N a j && S j) 12 with
      | false =>
        refine tr_top ((mI_eq0 _).mpr hm8) ?_
        refine lv_if_eq (tgt := 44) hx hb d_Wm_canStand_37 (by decide) (fun _ => ?_) (fun h0 => absurd (by decide) h0)
        refine lv_iconst (v := 0) hx hb d_Wm_canStand_44 (by decide) ?_
        exact W.zret (v := 0) hx hb hr (by decide) (fun t ht hW => ⟨0, rfl, (bI_f (by simp [hc1, hb4, hm8])).symm, ht⟩) (fun q hq => by cases hq) d_Wm_canStand_45
      | true =>
        refine lv_if_eq (tgt := 44) hx hb d_Wm_canStand_37 (by decide) (fun h0 => absurd ((mI_eq0 _).mp h0) (by rw [hm8]; decide)) (fun _ => ?_)
        refine lv_iconst (v := 1) hx hb d_Wm_canStand_40 (by decide) ?_
        refine lv_goto (tgt := 45) hx hb d_Wm_canStand_41 (by decide) ?_
        exact W.zret (v := 1) hx hb hr (by decide) (fun t ht hW => ⟨1, rfl, (bI_t (by simp [hc1, hb4, hm8])).symm, ht⟩) (fun q hq => by cases hq) d_Wm_canStand_45
  · -- 1 not taken
    refine lv_aload_n hx hb d_Wm_canStand_4 rfl (lv_at hl 0 rfl) ?_
    refine lv_iload_n hx hb d_Wm_canStand_5 rfl (lv_at hl 2 rfl) ?_
    have hPc := hP.sub (ws' := [(h0, .inr (4, [.int (nI n), .int (mI S), .int (mI Ce), .ref qh, .ref qn]))]) [0] rfl
    refine vp_callSi (va_Run.run (va_runV (As := [.int (nI a)]) (rest := []) ⟨hx, hb, hml, hown, hts⟩ (c_Wm_isSea l D cI cZ cJ cS aT ceT  h0 qh qn n S Ce a h_a) (cwV 1 hts (tb_4 wd_279 wd_280 wd_281 wd_2 (tb_c wd_282)) rfl rfl rfl ⟨rfl, by decide, by decide, by decide +kernel⟩ ⟨Nat.le_of_ble_eq_true rfl, Nat.le_of_ble_eq_true rfl⟩) (tP_V hK hX hXH hPc (q := 0) rfl rfl) rfl rfl hl.1 rfl (lv_room (Nat.le_of_ble_eq_true rfl)) d_Wm_canStand_6 ⟨Nat.le_of_ble_eq_true rfl, Nat.le_of_ble_eq_true rfl⟩)) (fun r10 hr9 => ?_)
    rw [hr9]
    rcases bI_c (S a) with ⟨hb12, e9⟩ | ⟨hb12, e9⟩
    · refine tr_top e9 ?_
      refine lv_if_ne (tgt := 16) hx hb d_Wm_canStand_9 (by decide) (fun _ => ?_) (fun h0 => absurd h0 (by decide))
      refine lv_iconst (v := 0) hx hb d_Wm_canStand_16 (by decide) ?_
      exact W.zret (v := 0) hx hb hr (by decide) (fun t ht hW => ⟨0, rfl, (bI_f (by simp [hc1, hb12])).symm, ht⟩) (fun q hq => by cases hq) d_Wm_canStand_17
    · refine tr_top e9 ?_
      refine lv_if_ne (tgt := 16) hx hb d_Wm_canStand_9 (by decide) (fun h0 => absurd (by decide) h0) (fun _ => ?_)
      refine lv_iconst (v := 1) hx hb d_Wm_canStand_12 (by decide) ?_
      refine lv_goto (tgt := 17) hx hb d_Wm_canStand_13 (by decide) ?_
      exact W.zret (v := 1) hx hb hr (by decide) (fun t ht hW => ⟨1, rfl, (bI_t (by simp [hc1, hb12])).symm, ht⟩) (fun q hq => by cases hq) d_Wm_canStand_17
