theorem nI_pl {p : Nat} (h : p < 4) : 0 ≤ nI p ∧ nI p < 4 := ⟨Int32.not_lt.mp (nI_nn (by omega)), (nI_ltI (b := 4) (by omega) (by decide)).mpr h⟩
theorem nI_ar {a n : Nat} (h : a < n) (hn : n ≤ 12) : 0 ≤ nI a ∧ nI a < nI n := ⟨Int32.not_lt.mp (nI_nn (by omega)), (nI_ltI (by omega) (by omega)).mpr h⟩

theorem wd_422 : (Cond.code ({ cls := "SheetWar$WarMap", name := "join", desc := "(II)Z" } : MethodName) prog_6_method_4_code (3 : Nat) (Option.some FieldType.boolean)) ∈ TB := tb_t 422 (by decide +kernel) (by decide +kernel)
theorem wd_419 : (Cond.methodLink "SheetWar" (74 : Nat) ({ cls := "SheetWar$WarMap", name := "join", desc := "(II)Z" } : MethodName)) ∈ TB := tb_t 419 (by decide +kernel) (by decide +kernel)
theorem wd_420 : (Cond.instanceMethod ({ cls := "SheetWar$WarMap", name := "join", desc := "(II)Z" } : MethodName)) ∈ TB := tb_t 420 (by decide +kernel) (by decide +kernel)
theorem wd_421 : (Cond.selects "SheetWar$WarMap" ({ cls := "SheetWar$WarMap", name := "join", desc := "(II)Z" } : MethodName) ({ cls := "SheetWar$WarMap", name := "join", desc := "(II)Z" } : MethodName)) ∈ TB := tb_t 421 (by decide +kernel) (by decide +kernel)
set_option maxHeartbeats 4000000 in
set_option maxRecDepth 100000 in
theorem c_Sw_border0 (l : Launch) (D : va_G) (cI cZ cJ cS : ClassId) (aT : Nat) (ceT : Cell) (sz : Nat) (h0 hm hh he ha hp : Nat) (qh qn n : Nat) (S Ce : Nat → Bool) (N : Nat → Nat → Bool) (a b : Nat) (hn : n ≤ 12) (h_a : a < n) (h_b : b < n) (hab : ¬ a = b) (hnb : N a b = true) : Met l y_Sw_border w_Sw_border ({ frames := 2, cells := 0, slots := 0, locals := 43 }) (tH D cI cZ cJ cS aT ceT [.ref h0, .int (nI a), .int (nI b)] sz [(h0, .inr (5, [.ref hm, .ref hh, .ref he, .ref ha, .ref hp, .int 0])), (hm, .inr (4, [.int (nI n), .int (mI S), .int (mI Ce), .ref qh, .ref qn])), (qn, .inl (cI, 12, .inl (fun j => mI (N j))))]) (va_Qi (fun (r : Int32) (_ : Unit) => r = 0) (fun _ t => tB D (va_A [(h0, .inr (5, [.ref hm, .ref hh, .ref he, .ref ha, .ref hp, .int 0])), (hm, .inr (4, [.int (nI n), .int (mI S), .int (mI Ce), .ref qh, .ref qn])), (qn, .inl (cI, 12, .inl (fun j => mI (N j))))] sz) [(h0, .inr (5, [.ref hm, .ref hh, .ref he, .ref ha, .ref hp, .int 0])), (hm, .inr (4, [.int (nI n), .int (mI S), .int (mI Ce), .ref qh, .ref qn])), (qn, .inl (cI, 12, .inl (fun j => mI (N j))))] t) (va_A [(h0, .inr (5, [.ref hm, .ref hh, .ref he, .ref ha, .ref hp, .int 0])), (hm, .inr (4, [.int (nI n), .int (mI S), .int (mI Ce), .ref qh, .ref qn])), (qn, .inl (cI, 12, .inl (fun j => mI (N j))))] sz)) 0 0 (va_A [(h0, .inr (5, [.ref hm, .ref hh, .ref he, .ref ha, .ref hp, .int 0])), (hm, .inr (4, [.int (nI n), .int (mI S), .int (mI Ce), .ref qh, .ref qn])), (qn, .inl (cI, 12, .inl (fun j => mI (N j))))] sz) := by
  refine Met.ofW (cc := b_Sw_border) (maxL := 3) (ret := (some .boolean)) (by decide) rfl ?_
  intro p e s m args below meth c s₁ B hml hv
  obtain ⟨rfl, hsz, hP, hK, hD0, hX⟩ := hv
  have hx := B.exec
  have hb := B.bytes
  have hr := B.returns
  have hts0 := atoms_spec (ws := w_Sw_border) B.pre
  have hts : ∀ w ∈ TB, w.before _ s = true := fun w h => hts0 w (List.mem_cons_of_mem _ h)
  have hown : s.vm.findClass R_Sw = some m.cls := findClass_of_methodNamed B.named
  have hlocks := B.notSynchronized
  subst hsz
  have hXl := tx_lt hX
  have hXn := tx_far hP hX
  have hD := hD0.self (sz := s.heap.size)
  generalize hAe : va_A [(h0, .inr (5, [.ref hm, .ref hh, .ref he, .ref ha, .ref hp, .int 0])), (hm, .inr (4, [.int (nI n), .int (mI S), .int (mI Ce), .ref qh, .ref qn])), (qn, .inl (cI, 12, .inl (fun j => mI (N j))))] s.heap.size = A at hD hXn ⊢
  have hA : ∀ q : Nat, s.heap.size ≤ q → A q := fun q h => by rw [← hAe]; exact Or.inr h
  have hS : va_S A s.heap s.heap [] := va_S.rf
  have hXH : s.heap[aT]? = s.heap[aT]? := rfl
  have hl := lv_entry ([.ref h0, .int (nI a), .int (nI b)]) (n := 3) (Nat.le_of_ble_eq_true rfl)
  rw [lg_entry_eq]
  generalize (lg_sl ([.ref h0, .int (nI a), .int (nI b)]) ++ List.replicate (3 - (lg_sl ([.ref h0, .int (nI a), .int (nI b)])).length) Slot.unset).toArray = ls at hl ⊢
  have hl : lv_has ls 3 [(0, .ref h0), (1, .int (nI a)), (2, .int (nI b))] := hl
  refine lv_aload_n hx hb d_Sw_border_0 rfl (lv_at hl 0 rfl) ?_
  refine va_get (D := D) (ci := 5) (v := .ref hm) (C := R_Sw) (T := T_Sw) (N := 6) hx hb hts hin_Sw hown hK hP 0 rfl rfl 0 (by decide) (hts _ wd_201) (fun _ h9 => h9) rfl d_Sw_border_1 ?_
  refine lv_iload_n hx hb d_Sw_border_4 rfl (lv_at hl 1 rfl) ?_
  have hPc := hP.sub (ws' := [(hm, .inr (4, [.int (nI n), .int (mI S), .int (mI Ce), .ref qh, .ref qn]))]) [1] rfl
  refine vp_callSi (va_Run.run (va_runV (As := [.int (nI a)]) (rest := []) ⟨hx, hb, hml, hown, hts⟩ (c_Wm_hasY l D cI cZ cJ cS aT ceT  hm qh qn n S Ce a hn h_a) (cwV 1 hts (tb_4 wd_224 wd_225 wd_226 wd_2 (tb_c wd_227)) rfl rfl rfl ⟨rfl, by decide, by decide, by decide +kernel⟩ ⟨Nat.le_of_ble_eq_true rfl, Nat.le_of_ble_eq_true rfl⟩) (tP_V hK hX (hS.2.1 aT hXl hXn) hPc (q := 0) rfl rfl) rfl rfl hl.1 rfl (lv_room (Nat.le_of_ble_eq_true rfl)) d_Sw_border_5 ⟨Nat.le_of_ble_eq_true rfl, Nat.le_of_ble_eq_true rfl⟩)) (fun r1 hr9 => ?_)
  rw [hr9]
  refine lv_if_eq (tgt := 27) hx hb d_Sw_border_8 (by decide) (fun h0 => absurd h0 (by decide)) (fun _ => ?_)
  refine lv_aload_n hx hb d_Sw_border_11 rfl (lv_at hl 0 rfl) ?_
  refine va_get (D := D) (ci := 5) (v := .ref hm) (C := R_Sw) (T := T_Sw) (N := 6) hx hb hts hin_Sw hown hK hP 0 rfl rfl 0 (by decide) (hts _ wd_201) (fun _ h9 => h9) rfl d_Sw_border_12 ?_
  refine lv_iload_n hx hb d_Sw_border_15 rfl (lv_at hl 2 rfl) ?_
  have hPc := hP.sub (ws' := [(hm, .inr (4, [.int (nI n), .int (mI S), .int (mI Ce), .ref qh, .ref qn]))]) [1] rfl
  refine vp_callSi (va_Run.run (va_runV (As := [.int (nI b)]) (rest := []) ⟨hx, hb, hml, hown, hts⟩ (c_Wm_hasY l D cI cZ cJ cS aT ceT  hm qh qn n S Ce b hn h_b) (cwV 1 hts (tb_4 wd_224 wd_225 wd_226 wd_2 (tb_c wd_227)) rfl rfl rfl ⟨rfl, by decide, by decide, by decide +kernel⟩ ⟨Nat.le_of_ble_eq_true rfl, Nat.le_of_ble_eq_true rfl⟩) (tP_V hK hX (hS.2.1 aT hXl hXn) hPc (q := 0) rfl rfl) rfl rfl hl.1 rfl (lv_room (Nat.le_of_ble_eq_true rfl)) d_Sw_border_16 ⟨Nat.le_of_ble_eq_true rfl, Nat.le_of_ble_eq_true rfl⟩)) (fun r3 hr9 => ?_)
  rw [hr9]
  refine lv_if_eq (tgt := 27) hx hb d_Sw_border_19 (by decide) (fun h0 => absurd h0 (by decide)) (fun _ => ?_)
  refine lv_iload_n hx hb d_Sw_border_22 rfl (lv_at hl 1 rfl) ?_
  refine lv_iload_n hx hb d_Sw_border_23 rfl (lv_at hl 2 rfl) ?_
  refine lv_icmp_ne (tgt := 35) hx hb d_Sw_border_24 (by decide) (fun _ => ?_) (fun h0 => absurd ((nI_lit (Nat.lt_trans (Nat.lt_of_lt_of_le h_a hn) (by decide)) (Nat.lt_trans (Nat.lt_of_lt_of_le h_b hn) (by decide))).mp h0) hab)
  refine lv_aload_n hx hb d_Sw_border_35 rfl (lv_at hl 0 rfl) ?_
  refine va_get (D := D) (ci := 5) (v := .int 0) (C := R_Sw) (T := T_Sw) (N := 6) hx hb hts hin_Sw hown hK hP 0 rfl rfl 5 (by decide) (hts _ wd_206) (fun _ h9 => h9) rfl d_Sw_border_36 ?_
  refine lv_if_eq (tgt := 50) hx hb d_Sw_border_39 (by decide) (fun _ => ?_) (fun h0 => absurd (by decide) h0)
  refine lv_aload_n hx hb d_Sw_border_50 rfl (lv_at hl 0 rfl) ?_
  refine va_get (D := D) (ci := 5) (v := .ref hm) (C := R_Sw) (T := T_Sw) (N := 6) hx hb hts hin_Sw hown hK hP 0 rfl rfl 0 (by decide) (hts _ wd_201) (fun _ h9 => h9) rfl d_Sw_border_51 ?_
  refine lv_iload_n hx hb d_Sw_border_54 rfl (lv_at hl 1 rfl) ?_
  refine lv_iload_n hx hb d_Sw_border_55 rfl (lv_at hl 2 rfl) ?_
  have hPc := hP.sub (ws' := [(hm, .inr (4, [.int (nI n), .int (mI S), .int (mI Ce), .ref qh, .ref qn])), (qn, .inl (cI, 12, .inl (fun j => mI (N j))))]) [1, 2] rfl
  refine vp_callSi (va_Run.run (va_runV (As := [.int (nI a), .int (nI b)]) (rest := []) ⟨hx, hb, hml, hown, hts⟩ (c_Wm_join0 l D cI cZ cJ cS aT ceT  hm qh qn n S Ce N a b (Nat.lt_of_lt_of_le h_a hn) (Nat.lt_of_lt_of_le h_b hn) hnb) (cwV 2 hts (tb_4 wd_419 wd_420 wd_421 wd_2 (tb_c wd_422)) rfl rfl rfl ⟨rfl, by decide, by decide, by decide +kernel⟩ ⟨Nat.le_of_ble_eq_true rfl, Nat.le_of_ble_eq_true rfl⟩) (tP_V hK hX (hS.2.1 aT hXl hXn) hPc (q := 0) rfl rfl) rfl rfl hl.1 rfl (lv_room (Nat.le_of_ble_eq_true rfl)) d_Sw_border_56 ⟨Nat.le_of_ble_eq_true rfl, Nat.le_of_ble_eq_true rfl⟩)) (fun r7 hr9 => ?_)
  rw [hr9]
  have hP9 := hP.sub (ws' := [(h0, .inr (5, [.ref hm, .ref hh, .ref he, .ref ha, .ref hp, .int 0])), (hm, .inr (4, [.int (nI n), .int (mI S), .int (mI Ce), .ref qh, .ref qn])), (qn, .inl (cI, 12, .inl (fun j => mI (N j))))]) [0, 1, 2] rfl
  have hD9 := hD.sub (ws' := [(h0, .inr (5, [.ref hm, .ref hh, .ref he, .ref ha, .ref hp, .int 0])), (hm, .inr (4, [.int (nI n), .int (mI S), .int (mI Ce), .ref qh, .ref qn])), (qn, .inl (cI, 12, .inl (fun j => mI (N j))))]) [0, 1, 2] (by decide) rfl
  exact W.zret (v := 0) hx hb hr (by decide) (fun t ht hW => ⟨⟨0, (), rfl, rfl, by rw [ht]; exact hP9, hD9⟩, hS.F ht⟩) hS.2.2 d_Sw_border_59


set_option maxHeartbeats 4000000 in
set_option maxRecDepth 100000 in
theorem c_Sw_border1 (l : Launch) (D : va_G) (cI cZ cJ cS : ClassId) (aT : Nat) (ceT : Cell) (sz : Nat) (h0 hm hh he ha hp : Nat) (qh qn n : Nat) (S Ce : Nat → Bool) (N : Nat → Nat → Bool) (a b : Nat) (hn : n ≤ 12) (h_a : a < n) (h_b : b < n) (hab : ¬ a = b) (hnb : N a b = false) : Met l y_Sw_border w_Sw_border ({ frames := 2, cells := 0, slots := 0, locals := 43 }) (tH D cI cZ cJ cS aT ceT [.ref h0, .int (nI a), .int (nI b)] sz [(h0, .inr (5, [.ref hm, .ref hh, .ref he, .ref ha, .ref hp, .int 0])), (hm, .inr (4, [.int (nI n), .int (mI S), .int (mI Ce), .ref qh, .ref qn])), (qn, .inl (cI, 12, .inl (fun j => mI (N j))))]) (va_Qi (fun (r : Int32) (_ : Unit) => r = 1) (fun _ t => tB D (va_A [(h0, .inr (5, [.ref hm, .ref hh, .ref he, .ref ha, .ref hp, .int 0])), (hm, .inr (4, [.int (nI n), .int (mI S), .int (mI Ce), .ref qh, .ref qn])), (qn, .inl (cI, 12, .inl (fun j => mI (N j))))] sz) [(h0, .inr (5, [.ref hm, .ref hh, .ref he, .ref ha, .ref hp, .int 0])), (hm, .inr (4, [.int (nI n), .int (mI S), .int (mI Ce), .ref qh, .ref qn])), (qn, .inl (cI, 12, .inl (fun j => mI (jnN N a b j))))] t) (va_A [(h0, .inr (5, [.ref hm, .ref hh, .ref he, .ref ha, .ref hp, .int 0])), (hm, .inr (4, [.int (nI n), .int (mI S), .int (mI Ce), .ref qh, .ref qn])), (qn, .inl (cI, 12, .inl (fun j => mI (N j))))] sz)) 0 0 (va_A [(h0, .inr (5, [.ref hm, .ref hh, .ref he, .ref ha, .ref hp, .int 0])), (hm, .inr (4, [.int (nI n), .int (mI S), .int (mI Ce), .ref qh, .ref qn])), (qn, .inl (cI, 12, .inl (fun j => mI (N j))))] sz) := by
  refine Met.ofW (cc := b_Sw_border) (maxL := 3) (ret := (some .boolean)) (by decide) rfl ?_
  intro p e s m args below meth c s₁ B hml hv
  obtain ⟨rfl, hsz, hP, hK, hD0, hX⟩ := hv
  have hx := B.exec
  have hb := B.bytes
  have hr := B.returns
  have hts0 := atoms_spec (ws := w_Sw_border) B.pre
  have hts : ∀ w ∈ TB, w.before _ s = true := fun w h => hts0 w (List.mem_cons_of_mem _ h)
  have hown : s.vm.findClass R_Sw = some m.cls := findClass_of_methodNamed B.named
  have hlocks := B.notSynchronized
  subst hsz
  have hXl := tx_lt hX
  have hXn := tx_far hP hX
  have hD := hD0.self (sz := s.heap.size)
  generalize hAe : va_A [(h0, .inr (5, [.ref hm, .ref hh, .ref he, .ref ha, .ref hp, .int 0])), (hm, .inr (4, [.int (nI n), .int (mI S), .int (mI Ce), .ref qh, .ref qn])), (qn, .inl (cI, 12, .inl (fun j => mI (N j))))] s.heap.size = A at hD hXn ⊢
  have hA : ∀ q : Nat, s.heap.size ≤ q → A q := fun q h => by rw [← hAe]; exact Or.inr h
  have hS : va_S A s.heap s.heap [] := va_S.rf
  have hXH : s.heap[aT]? = s.heap[aT]? := rfl
  have hl := lv_entry ([.ref h0, .int (nI a), .int (nI b)]) (n := 3) (Nat.le_of_ble_eq_true rfl)
  rw [lg_entry_eq]
  generalize (lg_sl ([.ref h0, .int (nI a), .int (nI b)]) ++ List.replicate (3 - (lg_sl ([.ref h0, .int (nI a), .int (nI b)])).length) Slot.unset).toArray = ls at hl ⊢
  have hl : lv_has ls 3 [(0, .ref h0), (1, .int (nI a)), (2, .int (nI b))] := hl
  refine lv_aload_n hx hb d_Sw_border_0 rfl (lv_at hl 0 rfl) ?_
  refine va_get (D := D) (ci := 5) (v := .ref hm) (C := R_Sw) (T := T_Sw) (N := 6) hx hb hts hin_Sw hown hK hP 0 rfl rfl 0 (by decide) (hts _ wd_201) (fun _ h9 => h9) rfl d_Sw_border_1 ?_
  refine lv_iload_n hx hb d_Sw_border_4 rfl (lv_at hl 1 rfl) ?_
  have hPc := hP.sub (ws' := [(hm, .inr (4, [.int (nI n), .int (mI S), .int (mI Ce), .ref qh, .ref qn]))]) [1] rfl
  refine vp_callSi (va_Run.run (va_runV (As := [.int (nI a)]) (rest := []) ⟨hx, hb, hml, hown, hts⟩ (c_Wm_hasY l D cI cZ cJ cS aT ceT  hm qh qn n S Ce a hn h_a) (cwV 1 hts (tb_4 wd_224 wd_225 wd_226 wd_2 (tb_c wd_227)) rfl rfl rfl ⟨rfl, by decide, by decide, by decide +kernel⟩ ⟨Nat.le_of_ble_eq_true rfl, Nat.le_of_ble_eq_true rfl⟩) (tP_V hK hX (hS.2.1 aT hXl hXn) hPc (q := 0) rfl rfl) rfl rfl hl.1 rfl (lv_room (Nat.le_of_ble_eq_true rfl)) d_Sw_border_5 ⟨Nat.le_of_ble_eq_true rfl, Nat.le_of_ble_eq_true rfl⟩)) (fun r1 hr9 => ?_)
  rw [hr9]
  refine lv_if_eq (tgt := 27) hx hb d_Sw_border_8 (by decide) (fun h0 => absurd h0 (by decide)) (fun _ => ?_)
  refine lv_aload_n hx hb d_Sw_border_11 rfl (lv_at hl 0 rfl) ?_
  refine va_get (D := D) (ci := 5) (v := .ref hm) (C := R_Sw) (T := T_Sw) (N := 6) hx hb hts hin_Sw hown hK hP 0 rfl rfl 0 (by decide) (hts _ wd_201) (fun _ h9 => h9) rfl d_Sw_border_12 ?_
  refine lv_iload_n hx hb d_Sw_border_15 rfl (lv_at hl 2 rfl) ?_
  have hPc := hP.sub (ws' := [(hm, .inr (4, [.int (nI n), .int (mI S), .int (mI Ce), .ref qh, .ref qn]))]) [1] rfl
  refine vp_callSi (va_Run.run (va_runV (As := [.int (nI b)]) (rest := []) ⟨hx, hb, hml, hown, hts⟩ (c_Wm_hasY l D cI cZ cJ cS aT ceT  hm qh qn n S Ce b hn h_b) (cwV 1 hts (tb_4 wd_224 wd_225 wd_226 wd_2 (tb_c wd_227)) rfl rfl rfl ⟨rfl, by decide, by decide, by decide +kernel⟩ ⟨Nat.le_of_ble_eq_true rfl, Nat.le_of_ble_eq_true rfl⟩) (tP_V hK hX (hS.2.1 aT hXl hXn) hPc (q := 0) rfl rfl) rfl rfl hl.1 rfl (lv_room (Nat.le_of_ble_eq_true rfl)) d_Sw_border_16 ⟨Nat.le_of_ble_eq_true rfl, Nat.le_of_ble_eq_true rfl⟩)) (fun r3 hr9 => ?_)
  rw [hr9]
  refine lv_if_eq (tgt := 27) hx hb d_Sw_border_19 (by decide) (fun h0 => absurd h0 (by decide)) (fun _ => ?_)
  refine lv_iload_n hx hb d_Sw_border_22 rfl (lv_at hl 1 rfl) ?_
  refine lv_iload_n hx hb d_Sw_border_23 rfl (lv_at hl 2 rfl) ?_
  refine lv_icmp_ne (tgt := 35) hx hb d_Sw_border_24 (by decide) (fun _ => ?_) (fun h0 => absurd ((nI_lit (Nat.lt_trans (Nat.lt_of_lt_of_le h_a hn) (by decide)) (Nat.lt_trans (Nat.lt_of_lt_of_le h_b hn) (by decide))).mp h0) hab)
  refine lv_aload_n hx hb d_Sw_border_35 rfl (lv_at hl 0 rfl) ?_
  refine va_get (D := D) (ci := 5) (v := .int 0) (C := R_Sw) (T := T_Sw) (N := 6) hx hb hts hin_Sw hown hK hP 0 rfl rfl 5 (by decide) (hts _ wd_206) (fun _ h9 => h9) rfl d_Sw_border_36 ?_
  refine lv_if_eq (tgt := 50) hx hb d_Sw_border_39 (by decide) (fun _ => ?_) (fun h0 => absurd (by decide) h0)
  refine lv_aload_n hx hb d_Sw_border_50 rfl (lv_at hl 0 rfl) ?_
  refine va_get (D := D) (ci := 5) (v := .ref hm) (C := R_Sw) (T := T_Sw) (N := 6) hx hb hts hin_Sw hown hK hP 0 rfl rfl 0 (by decide) (hts _ wd_201) (fun _ h9 => h9) rfl d_Sw_border_51 ?_
  refine lv_iload_n hx hb d_Sw_border_54 rfl (lv_at hl 1 rfl) ?_
  refine lv_iload_n hx hb d_Sw_border_55 rfl (lv_at hl 2 rfl) ?_
  have hPc := hP.sub (ws' := [(hm, .inr (4, [.int (nI n), .int (mI S), .int (mI Ce), .ref qh, .ref qn])), (qn, .inl (cI, 12, .inl (fun j => mI (N j))))]) [1, 2] rfl
  have hDc := hD.sub (ws' := [(hm, .inr (4, [.int (nI n), .int (mI S), .int (mI Ce), .ref qh, .ref qn])), (qn, .inl (cI, 12, .inl (fun j => mI (N j))))]) [1, 2] (by decide) rfl
  have hFc := va_free (wc := [(hm, .inr (4, [.int (nI n), .int (mI S), .int (mI Ce), .ref qh, .ref qn])), (qn, .inl (cI, 12, .inl (fun j => mI (N j))))]) hD hS hA [1, 2] rfl
  refine va_calli (va_runV (As := [.int (nI a), .int (nI b)]) (rest := []) ⟨hx, hb, hml, hown, hts⟩ (c_Wm_join1 l D cI cZ cJ cS aT ceT s.heap.size hm qh qn n S Ce N a b (Nat.lt_of_lt_of_le h_a hn) (Nat.lt_of_lt_of_le h_b hn) hnb) (cwV 2 hts (tb_4 wd_419 wd_420 wd_421 wd_2 (tb_c wd_422)) rfl rfl rfl ⟨rfl, by decide, by decide, by decide +kernel⟩ ⟨Nat.le_of_ble_eq_true rfl, Nat.le_of_ble_eq_true rfl⟩) (tH_V hK hX (hS.2.1 aT hXl hXn) hPc hDc (q := 0) rfl rfl) rfl rfl hl.1 rfl (lv_room (Nat.le_of_ble_eq_true rfl)) d_Sw_border_56 ⟨Nat.le_of_ble_eq_true rfl, Nat.le_of_ble_eq_true rfl⟩) hS (fun q _ h => hFc q h) hFc (fun r9 u t H1 locs ht hvm h9 hB hz1 hk1 hS => ?_)
  rw [h9]
  obtain ⟨hP1, hD1⟩ := hB
  rw [ht] at hP1
  obtain ⟨hP, hD⟩ := va_join (wr := [(h0, .inr (5, [.ref hm, .ref hh, .ref he, .ref ha, .ref hp, .int 0]))]) (w1 := [(hm, .inr (4, [.int (nI n), .int (mI S), .int (mI Ce), .ref qh, .ref qn])), (qn, .inl (cI, 12, .inl (fun j => mI (jnN N a b j))))]) hP hD [1, 2] [0] rfl rfl (by decide) (by decide) hk1 hFc hP1 hD1
  generalize H1 = H at hP hS ⊢
  have hP : va_P D vwCl [(h0, .inr (5, [.ref hm, .ref hh, .ref he, .ref ha, .ref hp, .int 0])), (hm, .inr (4, [.int (nI n), .int (mI S), .int (mI Ce), .ref qh, .ref qn])), (qn, .inl (cI, 12, .inl (fun j => mI (jnN N a b j))))] H := hP
  have hD : va_D A [(h0, .inr (5, [.ref hm, .ref hh, .ref he, .ref ha, .ref hp, .int 0])), (hm, .inr (4, [.int (nI n), .int (mI S), .int (mI Ce), .ref qh, .ref qn])), (qn, .inl (cI, 12, .inl (fun j => mI (jnN N a b j))))] := hD
  have hP9 := hP.sub (ws' := [(h0, .inr (5, [.ref hm, .ref hh, .ref he, .ref ha, .ref hp, .int 0])), (hm, .inr (4, [.int (nI n), .int (mI S), .int (mI Ce), .ref qh, .ref qn])), (qn, .inl (cI, 12, .inl (fun j => mI (jnN N a b j))))]) [0, 1, 2] rfl
  have hD9 := hD.sub (ws' := [(h0, .inr (5, [.ref hm, .ref hh, .ref he, .ref ha, .ref hp, .int 0])), (hm, .inr (4, [.int (nI n), .int (mI S), .int (mI Ce), .ref qh, .ref qn])), (qn, .inl (cI, 12, .inl (fun j => mI (jnN N a b j))))]) [0, 1, 2] (by decide) rfl
  exact W.zret (v := 1) hx hb hr (by decide) (fun t ht hW => ⟨⟨1, (), rfl, rfl, by rw [ht]; exact hP9, hD9⟩, hS.F ht⟩) hS.2.2 d_Sw_border_59

theorem wd_267 : (Cond.methodLink "SheetWar" (140 : Nat) ({ cls := "SheetWar$Aside", name := "hasUnit", desc := "(I)Z" } : MethodName)) ∈ TB := tb_t 267 (by decide +kernel) (by decide +kernel)
theorem wd_274 : (Cond.code ({ cls := "SheetWar", name := "isRefuge", desc := "(II)Z" } : MethodName) prog_1_method_30_code (3 : Nat) (Option.some FieldType.boolean)) ∈ TB := tb_t 274 (by decide +kernel) (by decide +kernel)
theorem wd_271 : (Cond.methodLink "SheetWar" (142 : Nat) ({ cls := "SheetWar", name := "isRefuge", desc := "(II)Z" } : MethodName)) ∈ TB := tb_t 271 (by decide +kernel) (by decide +kernel)
theorem wd_273 : (Cond.instanceMethod ({ cls := "SheetWar", name := "isRefuge", desc := "(II)Z" } : MethodName)) ∈ TB := tb_t 273 (by decide +kernel) (by decide +kernel)
theorem wd_169 : (Cond.fieldLink "SheetWar" (145 : Nat) "SheetWar$Aside" "goals" "[I") ∈ TB := tb_t 169 (by decide +kernel) (by decide +kernel)
theorem wp_0 : Cond.selects "SheetWar" ⟨"SheetWar", "isRefuge", "(II)Z"⟩ ⟨"SheetWar", "isRefuge", "(II)Z"⟩ ∈ TB := tb_p 0 (by decide +kernel) (by decide +kernel)
set_option maxHeartbeats 4000000 in
set_option maxRecDepth 100000 in
theorem c_Sw_retreat (l : Launch) (D : va_G) (cI cZ cJ cS : ClassId) (aT : Nat) (ceT : Cell) (sz : Nat) (h0 hm hh he ha hp : Nat) (qh qn n : Nat) (S Ce : Nat → Bool) (N : Nat → Nat → Bool) (tn : Int32) (qu qo qx qy qr qw : Nat) (fu : Nat → Int32) (au ao ag : Nat) (Co : Nat → Bool) (ga go gg : Nat → Int32) (p9 a b : Nat) (hn : n ≤ 12) (h_a : a < n) (h_b : b < n) (h_p : p9 < 4) : Met l y_Sw_retreat w_Sw_retreat ({ frames := 4, cells := 0, slots := 0, locals := 88 }) (tH D cI cZ cJ cS aT ceT [.ref h0, .int (nI p9), .int (nI a), .int (nI b)] sz [(h0, .inr (5, [.ref hm, .ref hh, .ref he, .ref ha, .ref hp, .int 2])), (hm, .inr (4, [.int (nI n), .int (mI S), .int (mI Ce), .ref qh, .ref qn])), (qn, .inl (cI, 12, .inl (fun j => mI (N j)))), (hh, .inr (3, [.int tn, .ref qu, .ref qo, .ref qx, .ref qy, .ref qr, .ref qw])), (qu, .inl (cI, 12, .inl fu)), (ha, .inr (0, [.ref au, .ref ao, .ref ag, .int (mI Co)])), (au, .inl (cI, 12, .inl ga)), (ao, .inl (cI, 12, .inl go)), (ag, .inl (cI, 12, .inl gg))]) (va_Qi (fun (r : Int32) (_ : Unit) => r = nI (odR (!decide (ga a = -1) && decide (ga a / 2 = nI p9)) (rfC N S Co fu ga go a b))) (fun _ t => tB D (va_A [(h0, .inr (5, [.ref hm, .ref hh, .ref he, .ref ha, .ref hp, .int 2])), (hm, .inr (4, [.int (nI n), .int (mI S), .int (mI Ce), .ref qh, .ref qn])), (qn, .inl (cI, 12, .inl (fun j => mI (N j)))), (hh, .inr (3, [.int tn, .ref qu, .ref qo, .ref qx, .ref qy, .ref qr, .ref qw])), (qu, .inl (cI, 12, .inl fu)), (ha, .inr (0, [.ref au, .ref ao, .ref ag, .int (mI Co)])), (au, .inl (cI, 12, .inl ga)), (ao, .inl (cI, 12, .inl go)), (ag, .inl (cI, 12, .inl gg))] sz) [(h0, .inr (5, [.ref hm, .ref hh, .ref he, .ref ha, .ref hp, .int 2])), (hm, .inr (4, [.int (nI n), .int (mI S), .int (mI Ce), .ref qh, .ref qn])), (qn, .inl (cI, 12, .inl (fun j => mI (N j)))), (hh, .inr (3, [.int tn, .ref qu, .ref qo, .ref qx, .ref qy, .ref qr, .ref qw])), (qu, .inl (cI, 12, .inl fu)), (ha, .inr (0, [.ref au, .ref ao, .ref ag, .int (mI Co)])), (au, .inl (cI, 12, .inl ga)), (ao, .inl (cI, 12, .inl go)), (ag, .inl (cI, 12, .inl (pkU (odR (!decide (ga a = -1) && decide (ga a / 2 = nI p9)) (rfC N S Co fu ga go a b)) gg a (nI b))))] t) (va_A [(h0, .inr (5, [.ref hm, .ref hh, .ref he, .ref ha, .ref hp, .int 2])), (hm, .inr (4, [.int (nI n), .int (mI S), .int (mI Ce), .ref qh, .ref qn])), (qn, .inl (cI, 12, .inl (fun j => mI (N j)))), (hh, .inr (3, [.int tn, .ref qu, .ref qo, .ref qx, .ref qy, .ref qr, .ref qw])), (qu, .inl (cI, 12, .inl fu)), (ha, .inr (0, [.ref au, .ref ao, .ref ag, .int (mI Co)])), (au, .inl (cI, 12, .inl ga)), (ao, .inl (cI, 12, .inl go)), (ag, .inl (cI, 12, .inl gg))] sz)) 0 0 (va_A [(h0, .inr (5, [.ref hm, .ref hh, .ref he, .ref ha, .ref hp, .int 2])), (hm, .inr (4, [.int (nI n), .int (mI S), .int (mI Ce), .ref qh, .ref qn])), (qn, .inl (cI, 12, .inl (fun j => mI (N j)))), (hh, .inr (3, [.int tn, .ref qu, .ref qo, .ref qx, .ref qy, .ref qr, .ref qw])), (qu, .inl (cI, 12, .inl fu)), (ha, .inr (0, [.ref au, .ref ao, .ref ag, .int (mI Co)])), (au, .inl (cI, 12, .inl ga)), (ao, .inl (cI, 12, .inl go)), (ag, .inl (cI, 12, .inl gg))] sz) := by
  refine Met.ofW (cc := b_Sw_retreat) (maxL := 4) (ret := (some .int)) (by decide) rfl ?_
  intro p e s m args below meth c s₁ B hml hv
  obtain ⟨rfl, hsz, hP, hK, hD0, hX⟩ := hv
  have hx := B.exec
  have hb := B.bytes
  have hr := B.returns
  have hts0 := atoms_spec (ws := w_Sw_retreat) B.pre
  have hts : ∀ w ∈ TB, w.before _ s = true := fun w h => hts0 w (List.mem_cons_of_mem _ h)
  have hown : s.vm.findClass R_Sw = some m.cls := findClass_of_methodNamed B.named
  have hlocks := B.notSynchronized
  subst hsz
  have hXl := tx_lt hX
  have hXn := tx_far hP hX
  have hD := hD0.self (sz := s.heap.size)
  generalize hAe : va_A [(h0, .inr (5, [.ref hm, .ref hh, .ref he, .ref ha, .ref hp, .int 2])), (hm, .inr (4, [.int (nI n), .int (mI S), .int (mI Ce), .ref qh, .ref qn])), (qn, .inl (cI, 12, .inl (fun j => mI (N j)))), (hh, .inr (3, [.int tn, .ref qu, .ref qo, .ref qx, .ref qy, .ref qr, .ref qw])), (qu, .inl (cI, 12, .inl fu)), (ha, .inr (0, [.ref au, .ref ao, .ref ag, .int (mI Co)])), (au, .inl (cI, 12, .inl ga)), (ao, .inl (cI, 12, .inl go)), (ag, .inl (cI, 12, .inl gg))] s.heap.size = A at hD hXn ⊢
  have hA : ∀ q : Nat, s.heap.size ≤ q → A q := fun q h => by rw [← hAe]; exact Or.inr h
  have hS : va_S A s.heap s.heap [] := va_S.rf
  have hXH : s.heap[aT]? = s.heap[aT]? := rfl
  have hl := lv_entry ([.ref h0, .int (nI p9), .int (nI a), .int (nI b)]) (n := 4) (Nat.le_of_ble_eq_true rfl)
  rw [lg_entry_eq]
  generalize (lg_sl ([.ref h0, .int (nI p9), .int (nI a), .int (nI b)]) ++ List.replicate (4 - (lg_sl ([.ref h0, .int (nI p9), .int (nI a), .int (nI b)])).length) Slot.unset).toArray = ls at hl ⊢
  have hl : lv_has ls 4 [(0, .ref h0), (1, .int (nI p9)), (2, .int (nI a)), (3, .int (nI b))] := hl
  refine lv_iload_n hx hb d_Sw_retreat_0 rfl (lv_at hl 1 rfl) ?_
  have hPc := hP.sub (ws' := []) [] rfl
  refine vp_callSi (va_Run.run (va_runS (As := [.int (nI p9)]) (rest := []) ⟨hx, hb, hml, hown, hts⟩ (c_Sw_isPlayerY l D cI cZ cJ cS aT ceT  p9 h_p) (va_cwS 1 hts (tb_3 wd_299 wd_300 wd_1 (tb_c wd_301)) rfl rfl rfl ⟨by decide, by decide, by decide +kernel⟩ ⟨Nat.le_of_ble_eq_true rfl, Nat.le_of_ble_eq_true rfl⟩) (tP_S hK hX (hS.2.1 aT hXl hXn) hPc) rfl rfl hl.1 rfl (lv_room (Nat.le_of_ble_eq_true rfl)) d_Sw_retreat_1 ⟨Nat.le_of_ble_eq_true rfl, Nat.le_of_ble_eq_true rfl⟩)) (fun r1 hr9 => ?_)
  rw [hr9]
  refine lv_if_eq (tgt := 29) hx hb d_Sw_retreat_4 (by decide) (fun h0 => absurd h0 (by decide)) (fun _ => ?_)
  refine lv_aload_n hx hb d_Sw_retreat_7 rfl (lv_at hl 0 rfl) ?_
  refine va_get (D := D) (ci := 5) (v := .ref hm) (C := R_Sw) (T := T_Sw) (N := 6) hx hb hts hin_Sw hown hK hP 0 rfl rfl 0 (by decide) (hts _ wd_201) (fun _ h9 => h9) rfl d_Sw_retreat_8 ?_
  refine lv_iload_n hx hb d_Sw_retreat_11 rfl (lv_at hl 2 rfl) ?_
  have hPc := hP.sub (ws' := [(hm, .inr (4, [.int (nI n), .int (mI S), .int (mI Ce), .ref qh, .ref qn]))]) [1] rfl
  refine vp_callSi (va_Run.run (va_runV (As := [.int (nI a)]) (rest := []) ⟨hx, hb, hml, hown, hts⟩ (c_Wm_hasY l D cI cZ cJ cS aT ceT  hm qh qn n S Ce a hn h_a) (cwV 1 hts (tb_4 wd_224 wd_225 wd_226 wd_2 (tb_c wd_227)) rfl rfl rfl ⟨rfl, by decide, by decide, by decide +kernel⟩ ⟨Nat.le_of_ble_eq_true rfl, Nat.le_of_ble_eq_true rfl⟩) (tP_V hK hX (hS.2.1 aT hXl hXn) hPc (q := 0) rfl rfl) rfl rfl hl.1 rfl (lv_room (Nat.le_of_ble_eq_true rfl)) d_Sw_retreat_12 ⟨Nat.le_of_ble_eq_true rfl, Nat.le_of_ble_eq_true rfl⟩)) (fun r3 hr9 => ?_)
  rw [hr9]
  refine lv_if_eq (tgt := 29) hx hb d_Sw_retreat_15 (by decide) (fun h0 => absurd h0 (by decide)) (fun _ => ?_)
  refine lv_aload_n hx hb d_Sw_retreat_18 rfl (lv_at hl 0 rfl) ?_
  refine va_get (D := D) (ci := 5) (v := .ref hm) (C := R_Sw) (T := T_Sw) (N := 6) hx hb hts hin_Sw hown hK hP 0 rfl rfl 0 (by decide) (hts _ wd_201) (fun _ h9 => h9) rfl d_Sw_retreat_19 ?_
  refine lv_iload_n hx hb d_Sw_retreat_22 rfl (lv_at hl 3 rfl) ?_
  have hPc := hP.sub (ws' := [(hm, .inr (4, [.int (nI n), .int (mI S), .int (mI Ce), .ref qh, .ref qn]))]) [1] rfl
  refine vp_callSi (va_Run.run (va_runV (As := [.int (nI b)]) (rest := []) ⟨hx, hb, hml, hown, hts⟩ (c_Wm_hasY l D cI cZ cJ cS aT ceT  hm qh qn n S Ce b hn h_b) (cwV 1 hts (tb_4 wd_224 wd_225 wd_226 wd_2 (tb_c wd_227)) rfl rfl rfl ⟨rfl, by decide, by decide, by decide +kernel⟩ ⟨Nat.le_of_ble_eq_true rfl, Nat.le_of_ble_eq_true rfl⟩) (tP_V hK hX (hS.2.1 aT hXl hXn) hPc (q := 0) rfl rfl) rfl rfl hl.1 rfl (lv_room (Nat.le_of_ble_eq_true rfl)) d_Sw_retreat_23 ⟨Nat.le_of_ble_eq_true rfl, Nat.le_of_ble_eq_true rfl⟩)) (fun r5 hr9 => ?_)
  rw [hr9]
  refine lv_if_ne (tgt := 37) hx hb d_Sw_retreat_26 (by decide) (fun _ => ?_) (fun h0 => absurd h0 (by decide))
  refine lv_aload_n hx hb d_Sw_retreat_37 rfl (lv_at hl 0 rfl) ?_
  refine va_get (D := D) (ci := 5) (v := .int 2) (C := R_Sw) (T := T_Sw) (N := 6) hx hb hts hin_Sw hown hK hP 0 rfl rfl 5 (by decide) (hts _ wd_206) (fun _ h9 => h9) rfl d_Sw_retreat_38 ?_
  refine lv_iconst (v := 2) hx hb d_Sw_retreat_41 (by decide) ?_
  refine lv_icmp_eq (tgt := 53) hx hb d_Sw_retreat_42 (by decide) (fun _ => ?_) (fun h0 => absurd (by decide) h0)
  refine lv_aload_n hx hb d_Sw_retreat_53 rfl (lv_at hl 0 rfl) ?_
  refine va_get (D := D) (ci := 5) (v := .ref ha) (C := R_Sw) (T := T_Sw) (N := 6) hx hb hts hin_Sw hown hK hP 0 rfl rfl 3 (by decide) (hts _ wd_204) (fun _ h9 => h9) rfl d_Sw_retreat_54 ?_
  refine lv_iload_n hx hb d_Sw_retreat_57 rfl (lv_at hl 2 rfl) ?_
  have hPc := hP.sub (ws' := [(ha, .inr (0, [.ref au, .ref ao, .ref ag, .int (mI Co)])), (au, .inl (cI, 12, .inl ga))]) [5, 6] rfl
  refine vp_callSi (va_Run.run (va_runV (As := [.int (nI a)]) (rest := []) ⟨hx, hb, hml, hown, hts⟩ (c_As_hasUnitP l D cI cZ cJ cS aT ceT  ha au ao ag (mI Co) ga a (Nat.lt_of_lt_of_le h_a hn)) (cwV 1 hts (tb_4 wd_267 wd_268 wd_269 wd_6 (tb_c wd_270)) rfl rfl rfl ⟨rfl, by decide, by decide, by decide +kernel⟩ ⟨Nat.le_of_ble_eq_true rfl, Nat.le_of_ble_eq_true rfl⟩) (tP_V hK hX (hS.2.1 aT hXl hXn) hPc (q := 0) rfl rfl) rfl rfl hl.1 rfl (lv_room (Nat.le_of_ble_eq_true rfl)) d_Sw_retreat_58 ⟨Nat.le_of_ble_eq_true rfl, Nat.le_of_ble_eq_true rfl⟩)) (fun r8 hr9 => ?_)
  rw [hr9]
  rcases bI_c (!decide (ga a = -1)) with ⟨hb10, e9⟩ | ⟨hb10, e9⟩
  · refine tr_top e9 ?_
    refine lv_if_eq (tgt := 79) hx hb d_Sw_retreat_61 (by decide) (fun h0 => absurd h0 (by decide)) (fun _ => ?_)
    refine lv_aload_n hx hb d_Sw_retreat_64 rfl (lv_at hl 0 rfl) ?_
    refine va_get (D := D) (ci := 5) (v := .ref ha) (C := R_Sw) (T := T_Sw) (N := 6) hx hb hts hin_Sw hown hK hP 0 rfl rfl 3 (by decide) (hts _ wd_204) (fun _ h9 => h9) rfl d_Sw_retreat_65 ?_
    refine va_get (D := D) (ci := 0) (v := .ref au) (C := R_As) (T := T_As) (N := 4) hx hb hts hin_As hown hK hP 5 rfl rfl 0 (by decide) (hts _ wd_164) (fun _ h9 => h9) rfl d_Sw_retreat_68 ?_
    refine lv_iload_n hx hb d_Sw_retreat_71 rfl (lv_at hl 2 rfl) ?_
    refine tr_iald (v := ga a) hx hb hK hP 6 0 rfl rfl a (Nat.lt_of_lt_of_le h_a hn) (by decide) rfl d_Sw_retreat_72 ?_
    refine lv_iconst (v := 2) hx hb d_Sw_retreat_73 (by decide) ?_
    refine lv_idiv hx hb d_Sw_retreat_74 (by decide) ?_
    refine lv_iload_n hx hb d_Sw_retreat_75 rfl (lv_at hl 1 rfl) ?_
    refine lv_icmp_eq (tgt := 81) hx hb d_Sw_retreat_76 (by decide) (fun hc12 => ?_) (fun hc12 => ?_)
    · -- 76 taken
      refine lv_aload_n hx hb d_Sw_retreat_81 rfl (lv_at hl 0 rfl) ?_
      refine lv_iload_n hx hb d_Sw_retreat_82 rfl (lv_at hl 2 rfl) ?_
      refine lv_iload_n hx hb d_Sw_retreat_83 rfl (lv_at hl 3 rfl) ?_
      have hPc := hP.sub (ws' := [(h0, .inr (5, [.ref hm, .ref hh, .ref he, .ref ha, .ref hp, .int 2])), (hm, .inr (4, [.int (nI n), .int (mI S), .int (mI Ce), .ref qh, .ref qn])), (qn, .inl (cI, 12, .inl (fun j => mI (N j)))), (hh, .inr (3, [.int tn, .ref qu, .ref qo, .ref qx, .ref qy, .ref qr, .ref qw])), (qu, .inl (cI, 12, .inl fu)), (ha, .inr (0, [.ref au, .ref ao, .ref ag, .int (mI Co)])), (au, .inl (cI, 12, .inl ga)), (ao, .inl (cI, 12, .inl go))]) [0, 1, 2, 3, 4, 5, 6, 7] rfl
      refine vp_callSi (va_Run.run (va_runV (As := [.int (nI a), .int (nI b)]) (rest := []) ⟨hx, hb, hml, hown, hts⟩ (c_Sw_isRefuge l D cI cZ cJ cS aT ceT  h0 hm hh he ha hp 2 qh qn n S Ce N tn qu qo qx qy qr qw fu au ao ag Co ga go a b (Nat.lt_of_lt_of_le h_a hn) (Nat.lt_of_lt_of_le h_b hn)) (cwV 2 hts (tb_4 wd_271 wd_273 wp_0 wd_1 (tb_c wd_274)) rfl rfl rfl ⟨rfl, by decide, by decide, by decide +kernel⟩ ⟨Nat.le_of_ble_eq_true rfl, Nat.le_of_ble_eq_true rfl⟩) (tP_V hK hX (hS.2.1 aT hXl hXn) hPc (q := 0) rfl rfl) rfl rfl hl.1 rfl (lv_room (Nat.le_of_ble_eq_true rfl)) d_Sw_retreat_84 ⟨Nat.le_of_ble_eq_true rfl, Nat.le_of_ble_eq_true rfl⟩)) (fun r13 hr9 => ?_)
      rw [hr9]
      rcases bI_c (rfC N S Co fu ga go a b) with ⟨hb15, e9⟩ | ⟨hb15, e9⟩
      · refine tr_top e9 ?_
        refine lv_if_ne (tgt := 92) hx hb d_Sw_retreat_87 (by decide) (fun _ => ?_) (fun h0 => absurd h0 (by decide))
        refine lv_aload_n hx hb d_Sw_retreat_92 rfl (lv_at hl 0 rfl) ?_
        refine va_get (D := D) (ci := 5) (v := .ref ha) (C := R_Sw) (T := T_Sw) (N := 6) hx hb hts hin_Sw hown hK hP 0 rfl rfl 3 (by decide) (hts _ wd_204) (fun _ h9 => h9) rfl d_Sw_retreat_93 ?_
        refine va_get (D := D) (ci := 0) (v := .ref ag) (C := R_As) (T := T_As) (N := 4) hx hb hts hin_As hown hK hP 5 rfl rfl 2 (by decide) (hts _ wd_169) (fun _ h9 => h9) rfl d_Sw_retreat_96 ?_
        refine lv_iload_n hx hb d_Sw_retreat_99 rfl (lv_at hl 2 rfl) ?_
        refine lv_iload_n hx hb d_Sw_retreat_100 rfl (lv_at hl 3 rfl) ?_
        refine tr_iast (g := upd gg a (nI b)) hx hb hK hP hD hS 8 0 rfl rfl a (Nat.lt_of_lt_of_le h_a hn) (by decide) rfl d_Sw_retreat_101 (fun H locs hP hD hS => ?_)
        have hP : va_P D vwCl [(h0, .inr (5, [.ref hm, .ref hh, .ref he, .ref ha, .ref hp, .int 2])), (hm, .inr (4, [.int (nI n), .int (mI S), .int (mI Ce), .ref qh, .ref qn])), (qn, .inl (cI, 12, .inl (fun j => mI (N j)))), (hh, .inr (3, [.int tn, .ref qu, .ref qo, .ref qx, .ref qy, .ref qr, .ref qw])), (qu, .inl (cI, 12, .inl fu)), (ha, .inr (0, [.ref au, .ref ao, .ref ag, .int (mI Co)])), (au, .inl (cI, 12, .inl ga)), (ao, .inl (cI, 12, .inl go)), (ag, .inl (cI, 12, .inl (upd gg a (nI b))))] H := hP
        have hD : va_D A [(h0, .inr (5, [.ref hm, .ref hh, .ref he, .ref ha, .ref hp, .int 2])), (hm, .inr (4, [.int (nI n), .int (mI S), .int (mI Ce), .ref qh, .ref qn])), (qn, .inl (cI, 12, .inl (fun j => mI (N j)))), (hh, .inr (3, [.int tn, .ref qu, .ref qo, .ref qx, .ref qy, .ref qr, .ref qw])), (qu, .inl (cI, 12, .inl fu)), (ha, .inr (0, [.ref au, .ref ao, .ref ag, .int (mI Co)])), (au, .inl (cI, 12, .inl ga)), (ao, .inl (cI, 12, .inl go)), (ag, .inl (cI, 12, .inl (upd gg a (nI b))))] := hD
        refine lv_iconst (v := 0) hx hb d_Sw_retreat_102 (by decide) ?_
        have hP9 := hP.sub (ws' := [(h0, .inr (5, [.ref hm, .ref hh, .ref he, .ref ha, .ref hp, .int 2])), (hm, .inr (4, [.int (nI n), .int (mI S), .int (mI Ce), .ref qh, .ref qn])), (qn, .inl (cI, 12, .inl (fun j => mI (N j)))), (hh, .inr (3, [.int tn, .ref qu, .ref qo, .ref qx, .ref qy, .ref qr, .ref qw])), (qu, .inl (cI, 12, .inl fu)), (ha, .inr (0, [.ref au, .ref ao, .ref ag, .int (mI Co)])), (au, .inl (cI, 12, .inl ga)), (ao, .inl (cI, 12, .inl go)), (ag, .inl (cI, 12, .inl (upd gg a (nI b))))]) [0, 1, 2, 3, 4, 5, 6, 7, 8] rfl
        have hD9 := hD.sub (ws' := [(h0, .inr (5, [.ref hm, .ref hh, .ref he, .ref ha, .ref hp, .int 2])), (hm, .inr (4, [.int (nI n), .int (mI S), .int (mI Ce), .ref qh, .ref qn])), (qn, .inl (cI, 12, .inl (fun j => mI (N j)))), (hh, .inr (3, [.int tn, .ref qu, .ref qo, .ref qx, .ref qy, .ref qr, .ref qw])), (qu, .inl (cI, 12, .inl fu)), (ha, .inr (0, [.ref au, .ref ao, .ref ag, .int (mI Co)])), (au, .inl (cI, 12, .inl ga)), (ao, .inl (cI, 12, .inl go)), (ag, .inl (cI, 12, .inl (upd gg a (nI b))))]) [0, 1, 2, 3, 4, 5, 6, 7, 8] (by decide) rfl
        have ej : odR (!decide (ga a = -1) && decide (ga a / 2 = nI p9)) (rfC N S Co fu ga go a b) = 0 := by simp only [odR, hb10, hb15] <;> simp [hb10, hc12, hb15]
        have hP9 : va_P D vwCl [(h0, .inr (5, [.ref hm, .ref hh, .ref he, .ref ha, .ref hp, .int 2])), (hm, .inr (4, [.int (nI n), .int (mI S), .int (mI Ce), .ref qh, .ref qn])), (qn, .inl (cI, 12, .inl (fun j => mI (N j)))), (hh, .inr (3, [.int tn, .ref qu, .ref qo, .ref qx, .ref qy, .ref qr, .ref qw])), (qu, .inl (cI, 12, .inl fu)), (ha, .inr (0, [.ref au, .ref ao, .ref ag, .int (mI Co)])), (au, .inl (cI, 12, .inl ga)), (ao, .inl (cI, 12, .inl go)), (ag, .inl (cI, 12, .inl (pkU (odR (!decide (ga a = -1) && decide (ga a / 2 = nI p9)) (rfC N S Co fu ga go a b)) gg a (nI b))))] H := by rw [ej]; exact hP9
        have hD9 : va_D A [(h0, .inr (5, [.ref hm, .ref hh, .ref he, .ref ha, .ref hp, .int 2])), (hm, .inr (4, [.int (nI n), .int (mI S), .int (mI Ce), .ref qh, .ref qn])), (qn, .inl (cI, 12, .inl (fun j => mI (N j)))), (hh, .inr (3, [.int tn, .ref qu, .ref qo, .ref qx, .ref qy, .ref qr, .ref qw])), (qu, .inl (cI, 12, .inl fu)), (ha, .inr (0, [.ref au, .ref ao, .ref ag, .int (mI Co)])), (au, .inl (cI, 12, .inl ga)), (ao, .inl (cI, 12, .inl go)), (ag, .inl (cI, 12, .inl (pkU (odR (!decide (ga a = -1) && decide (ga a / 2 = nI p9)) (rfC N S Co fu ga go a b)) gg a (nI b))))] := by rw [ej]; exact hD9
        exact W.iret (v := 0) hx hb hr (fun t ht hW => ⟨⟨0, (), rfl, by rw [ej]; rfl, by rw [ht]; exact hP9, hD9⟩, hS.F ht⟩) hS.2.2 d_Sw_retreat_103
      · refine tr_top e9 ?_
        refine lv_if_ne (tgt := 92) hx hb d_Sw_retreat_87 (by decide) (fun h0 => absurd (by decide) h0) (fun _ => ?_)
        refine lv_iconst (v := 2) hx hb d_Sw_retreat_90 (by decide) ?_
        have hP9 := hP.sub (ws' := [(h0, .inr (5, [.ref hm, .ref hh, .ref he, .ref ha, .ref hp, .int 2])), (hm, .inr (4, [.int (nI n), .int (mI S), .int (mI Ce), .ref qh, .ref qn])), (qn, .inl (cI, 12, .inl (fun j => mI (N j)))), (hh, .inr (3, [.int tn, .ref qu, .ref qo, .ref qx, .ref qy, .ref qr, .ref qw])), (qu, .inl (cI, 12, .inl fu)), (ha, .inr (0, [.ref au, .ref ao, .ref ag, .int (mI Co)])), (au, .inl (cI, 12, .inl ga)), (ao, .inl (cI, 12, .inl go)), (ag, .inl (cI, 12, .inl gg))]) [0, 1, 2, 3, 4, 5, 6, 7, 8] rfl
        have hD9 := hD.sub (ws' := [(h0, .inr (5, [.ref hm, .ref hh, .ref he, .ref ha, .ref hp, .int 2])), (hm, .inr (4, [.int (nI n), .int (mI S), .int (mI Ce), .ref qh, .ref qn])), (qn, .inl (cI, 12, .inl (fun j => mI (N j)))), (hh, .inr (3, [.int tn, .ref qu, .ref qo, .ref qx, .ref qy, .ref qr, .ref qw])), (qu, .inl (cI, 12, .inl fu)), (ha, .inr (0, [.ref au, .ref ao, .ref ag, .int (mI Co)])), (au, .inl (cI, 12, .inl ga)), (ao, .inl (cI, 12, .inl go)), (ag, .inl (cI, 12, .inl gg))]) [0, 1, 2, 3, 4, 5, 6, 7, 8] (by decide) rfl
        have ej : odR (!decide (ga a = -1) && decide (ga a / 2 = nI p9)) (rfC N S Co fu ga go a b) = 2 := by simp only [odR, hb10, hb15] <;> simp [hb10, hc12, hb15]
        have hP9 : va_P D vwCl [(h0, .inr (5, [.ref hm, .ref hh, .ref he, .ref ha, .ref hp, .int 2])), (hm, .inr (4, [.int (nI n), .int (mI S), .int (mI Ce), .ref qh, .ref qn])), (qn, .inl (cI, 12, .inl (fun j => mI (N j)))), (hh, .inr (3, [.int tn, .ref qu, .ref qo, .ref qx, .ref qy, .ref qr, .ref qw])), (qu, .inl (cI, 12, .inl fu)), (ha, .inr (0, [.ref au, .ref ao, .ref ag, .int (mI Co)])), (au, .inl (cI, 12, .inl ga)), (ao, .inl (cI, 12, .inl go)), (ag, .inl (cI, 12, .inl (pkU (odR (!decide (ga a = -1) && decide (ga a / 2 = nI p9)) (rfC N S Co fu ga go a b)) gg a (nI b))))] s.heap := by rw [ej]; exact hP9
        have hD9 : va_D A [(h0, .inr (5, [.ref hm, .ref hh, .ref he, .ref ha, .ref hp, .int 2])), (hm, .inr (4, [.int (nI n), .int (mI S), .int (mI Ce), .ref qh, .ref qn])), (qn, .inl (cI, 12, .inl (fun j => mI (N j)))), (hh, .inr (3, [.int tn, .ref qu, .ref qo, .ref qx, .ref qy, .ref qr, .ref qw])), (qu, .inl (cI, 12, .inl fu)), (ha, .inr (0, [.ref au, .ref ao, .ref ag, .int (mI Co)])), (au, .inl (cI, 12, .inl ga)), (ao, .inl (cI, 12, .inl go)), (ag, .inl (cI, 12, .inl (pkU (odR (!decide (ga a = -1) && decide (ga a / 2 = nI p9)) (rfC N S Co fu ga go a b)) gg a (nI b))))] := by rw [ej]; exact hD9
        exact W.iret (v := 2) hx hb hr (fun t ht hW => ⟨⟨2, (), rfl, by rw [ej]; rfl, by rw [ht]; exact hP9, hD9⟩, hS.F ht⟩) hS.2.2 d_Sw_retreat_91
    · -- 76 not taken
      refine lv_iconst (v := 1) hx hb d_Sw_retreat_79 (by decide) ?_
      have hP9 := hP.sub (ws' := [(h0, .inr (5, [.ref hm, .ref hh, .ref he, .ref ha, .ref hp, .int 2])), (hm, .inr (4, [.int (nI n), .int (mI S), .int (mI Ce), .ref qh, .ref qn])), (qn, .inl (cI, 12, .inl (fun j => mI (N j)))), (hh, .inr (3, [.int tn, .ref qu, .ref qo, .ref qx, .ref qy, .ref qr, .ref qw])), (qu, .inl (cI, 12, .inl fu)), (ha, .inr (0, [.ref au, .ref ao, .ref ag, .int (mI Co)])), (au, .inl (cI, 12, .inl ga)), (ao, .inl (cI, 12, .inl go)), (ag, .inl (cI, 12, .inl gg))]) [0, 1, 2, 3, 4, 5, 6, 7, 8] rfl
      have hD9 := hD.sub (ws' := [(h0, .inr (5, [.ref hm, .ref hh, .ref he, .ref ha, .ref hp, .int 2])), (hm, .inr (4, [.int (nI n), .int (mI S), .int (mI Ce), .ref qh, .ref qn])), (qn, .inl (cI, 12, .inl (fun j => mI (N j)))), (hh, .inr (3, [.int tn, .ref qu, .ref qo, .ref qx, .ref qy, .ref qr, .ref qw])), (qu, .inl (cI, 12, .inl fu)), (ha, .inr (0, [.ref au, .ref ao, .ref ag, .int (mI Co)])), (au, .inl (cI, 12, .inl ga)), (ao, .inl (cI, 12, .inl go)), (ag, .inl (cI, 12, .inl gg))]) [0, 1, 2, 3, 4, 5, 6, 7, 8] (by decide) rfl
      have ej : odR (!decide (ga a = -1) && decide (ga a / 2 = nI p9)) (rfC N S Co fu ga go a b) = 1 := by simp only [odR, hb10] <;> simp [hb10, hc12]
      have hP9 : va_P D vwCl [(h0, .inr (5, [.ref hm, .ref hh, .ref he, .ref ha, .ref hp, .int 2])), (hm, .inr (4, [.int (nI n), .int (mI S), .int (mI Ce), .ref qh, .ref qn])), (qn, .inl (cI, 12, .inl (fun j => mI (N j)))), (hh, .inr (3, [.int tn, .ref qu, .ref qo, .ref qx, .ref qy, .ref qr, .ref qw])), (qu, .inl (cI, 12, .inl fu)), (ha, .inr (0, [.ref au, .ref ao, .ref ag, .int (mI Co)])), (au, .inl (cI, 12, .inl ga)), (ao, .inl (cI, 12, .inl go)), (ag, .inl (cI, 12, .inl (pkU (odR (!decide (ga a = -1) && decide (ga a / 2 = nI p9)) (rfC N S Co fu ga go a b)) gg a (nI b))))] s.heap := by rw [ej]; exact hP9
      have hD9 : va_D A [(h0, .inr (5, [.ref hm, .ref hh, .ref he, .ref ha, .ref hp, .int 2])), (hm, .inr (4, [.int (nI n), .int (mI S), .int (mI Ce), .ref qh, .ref qn])), (qn, .inl (cI, 12, .inl (fun j => mI (N j)))), (hh, .inr (3, [.int tn, .ref qu, .ref qo, .ref qx, .ref qy, .ref qr, .ref qw])), (qu, .inl (cI, 12, .inl fu)), (ha, .inr (0, [.ref au, .ref ao, .ref ag, .int (mI Co)])), (au, .inl (cI, 12, .inl ga)), (ao, .inl (cI, 12, .inl go)), (ag, .inl (cI, 12, .inl (pkU (odR (!decide (ga a = -1) && decide (ga a / 2 = nI p9)) (rfC N S Co fu ga go a b)) gg a (nI b))))] := by rw [ej]; exact hD9
      exact W.iret (v := 1) hx hb hr (fun t ht hW => ⟨⟨1, (), rfl, by rw [ej]; rfl, by rw [ht]; exact hP9, hD9⟩, hS.F ht⟩) hS.2.2 d_Sw_retreat_80
  · refine tr_top e9 ?_
    refine lv_if_eq (tgt := 79) hx hb d_Sw_retreat_61 (by decide) (fun _ => ?_) (fun h0 => absurd (by decide) h0)
    refine lv_iconst (v := 1) hx hb d_Sw_retreat_79 (by decide) ?_
    have hP9 := hP.sub (ws' := [(h0, .inr (5, [.ref hm, .ref hh, .ref he, .ref ha, .ref hp, .int 2])), (hm, .inr (4, [.int (nI n), .int (mI S), .int (mI Ce), .ref qh, .ref qn])), (qn, .inl (cI, 12, .inl (fun j => mI (N j)))), (hh, .inr (3, [.int tn, .ref qu, .ref qo, .ref qx, .ref qy, .ref qr, .ref qw])), (qu, .inl (cI, 12, .inl fu)), (ha, .inr (0, [.ref au, .ref ao, .ref ag, .int (mI Co)])), (au, .inl (cI, 12, .inl ga)), (ao, .inl (cI, 12, .inl go)), (ag, .inl (cI, 12, .inl gg))]) [0, 1, 2, 3, 4, 5, 6, 7, 8] rfl
    have hD9 := hD.sub (ws' := [(h0, .inr (5, [.ref hm, .ref hh, .ref he, .ref ha, .ref hp, .int 2])), (hm, .inr (4, [.int (nI n), .int (mI S), .int (mI Ce), .ref qh, .ref qn])), (qn, .inl (cI, 12, .inl (fun j => mI (N j)))), (hh, .inr (3, [.int tn, .ref qu, .ref qo, .ref qx, .ref qy, .ref qr, .ref qw])), (qu, .inl (cI, 12, .inl fu)), (ha, .inr (0, [.ref au, .ref ao, .ref ag, .int (mI Co)])), (au, .inl (cI, 12, .inl ga)), (ao, .inl (cI, 12, .inl go)), (ag, .inl (cI, 12, .inl gg))]) [0, 1, 2, 3, 4, 5, 6, 7, 8] (by decide) rfl
    have ej : odR (!decide (ga a = -1) && decide (ga a / 2 = nI p9)) (rfC N S Co fu ga go a b) = 1 := by simp only [odR, hb10] <;> simp [hb10]
    have hP9 : va_P D vwCl [(h0, .inr (5, [.ref hm, .ref hh, .ref he, .ref ha, .ref hp, .int 2])), (hm, .inr (4, [.int (nI n), .int (mI S), .int (mI Ce), .ref qh, .ref qn])), (qn, .inl (cI, 12, .inl (fun j => mI (N j)))), (hh, .inr (3, [.int tn, .ref qu, .ref qo, .ref qx, .ref qy, .ref qr, .ref qw])), (qu, .inl (cI, 12, .inl fu)), (ha, .inr (0, [.ref au, .ref ao, .ref ag, .int (mI Co)])), (au, .inl (cI, 12, .inl ga)), (ao, .inl (cI, 12, .inl go)), (ag, .inl (cI, 12, .inl (pkU (odR (!decide (ga a = -1) && decide (ga a / 2 = nI p9)) (rfC N S Co fu ga go a b)) gg a (nI b))))] s.heap := by rw [ej]; exact hP9
    have hD9 : va_D A [(h0, .inr (5, [.ref hm, .ref hh, .ref he, .ref ha, .ref hp, .int 2])), (hm, .inr (4, [.int (nI n), .int (mI S), .int (mI Ce), .ref qh, .ref qn])), (qn, .inl (cI, 12, .inl (fun j => mI (N j)))), (hh, .inr (3, [.int tn, .ref qu, .ref qo, .ref qx, .ref qy, .ref qr, .ref qw])), (qu, .inl (cI, 12, .inl fu)), (ha, .inr (0, [.ref au, .ref ao, .ref ag, .int (mI Co)])), (au, .inl (cI, 12, .inl ga)), (ao, .inl (cI, 12, .inl go)), (ag, .inl (cI, 12, .inl (pkU (odR (!decide (ga a = -1) && decide (ga a / 2 = nI p9)) (rfC N S Co fu ga go a b)) gg a (nI b))))] := by rw [ej]; exact hD9
    exact W.iret (v := 1) hx hb hr (fun t ht hW => ⟨⟨1, (), rfl, by rw [ej]; rfl, by rw [ht]; exact hP9, hD9⟩, hS.F ht⟩) hS.2.2 d_Sw_retreat_80

theorem wd_677 : (Cond.code ({ cls := "SheetWar", name := "putUnit", desc := "(III)I" } : MethodName) prog_1_method_37_code (4 : Nat) (Option.some FieldType.int)) ∈ TB := tb_t 677 (by decide +kernel) (by decide +kernel)
theorem wd_674 : (Cond.methodLink "SheetWar" (151 : Nat) ({ cls := "SheetWar", name := "putUnit", desc := "(III)I" } : MethodName)) ∈ TB := tb_t 674 (by decide +kernel) (by decide +kernel)
theorem wd_676 : (Cond.instanceMethod ({ cls := "SheetWar", name := "putUnit", desc := "(III)I" } : MethodName)) ∈ TB := tb_t 676 (by decide +kernel) (by decide +kernel)
theorem wp_33 : Cond.selects "SheetWar" ⟨"SheetWar", "putUnit", "(III)I"⟩ ⟨"SheetWar", "putUnit", "(III)I"⟩ ∈ TB := tb_p 33 (by decide +kernel) (by decide +kernel)
set_option maxHeartbeats 4000000 in
set_option maxRecDepth 100000 in
theorem c_Sw_buildP (l : Launch) (D : va_G) (cI cZ cJ cS : ClassId) (aT : Nat) (ceT : Cell) (sz : Nat) (h0 hm hh he ha hp : Nat) (qh qn n : Nat) (S Ce : Nat → Bool) (N : Nat → Nat → Bool) (tn : Int32) (qu qo qx qy qr qw : Nat) (fh fw fu : Nat → Int32) (p9 a k : Nat) (hn : n ≤ 12) (h_a : a < n) (h_p : p9 < 4) (h_k : k < 2) : Met l y_Sw_build w_Sw_build ({ frames := 4, cells := 0, slots := 0, locals := 88 }) (tH D cI cZ cJ cS aT ceT [.ref h0, .int (nI p9), .int (nI a), .int (nI k)] sz [(h0, .inr (5, [.ref hm, .ref hh, .ref he, .ref ha, .ref hp, .int 3])), (hm, .inr (4, [.int (nI n), .int (mI S), .int (mI Ce), .ref qh, .ref qn])), (qh, .inl (cI, 12, .inl fh)), (qn, .inl (cI, 12, .inl (fun j => mI (N j)))), (hh, .inr (3, [.int tn, .ref qu, .ref qo, .ref qx, .ref qy, .ref qr, .ref qw])), (qu, .inl (cI, 12, .inl fu)), (qw, .inl (cI, 12, .inl fw))]) (va_Qi (fun (r : Int32) (_ : Unit) => r = nI (puR (msC fw fu (nI p9)) (bpC fh fw fu (nI p9) a && (if nI k = 0 then !S a else S a || anyB (fun j => N a j && S j) 12)))) (fun _ t => tB D (va_A [(h0, .inr (5, [.ref hm, .ref hh, .ref he, .ref ha, .ref hp, .int 3])), (hm, .inr (4, [.int (nI n), .int (mI S), .int (mI Ce), .ref qh, .ref qn])), (qh, .inl (cI, 12, .inl fh)), (qn, .inl (cI, 12, .inl (fun j => mI (N j)))), (hh, .inr (3, [.int tn, .ref qu, .ref qo, .ref qx, .ref qy, .ref qr, .ref qw])), (qu, .inl (cI, 12, .inl fu)), (qw, .inl (cI, 12, .inl fw))] sz) [(h0, .inr (5, [.ref hm, .ref hh, .ref he, .ref ha, .ref hp, .int 3])), (hm, .inr (4, [.int (nI n), .int (mI S), .int (mI Ce), .ref qh, .ref qn])), (qh, .inl (cI, 12, .inl fh)), (qn, .inl (cI, 12, .inl (fun j => mI (N j)))), (hh, .inr (3, [.int tn, .ref qu, .ref qo, .ref qx, .ref qy, .ref qr, .ref qw])), (qu, .inl (cI, 12, .inl (pkU (puR (msC fw fu (nI p9)) (bpC fh fw fu (nI p9) a && (if nI k = 0 then !S a else S a || anyB (fun j => N a j && S j) 12))) fu a (nI (2 * p9 + k))))), (qw, .inl (cI, 12, .inl fw))] t) (va_A [(h0, .inr (5, [.ref hm, .ref hh, .ref he, .ref ha, .ref hp, .int 3])), (hm, .inr (4, [.int (nI n), .int (mI S), .int (mI Ce), .ref qh, .ref qn])), (qh, .inl (cI, 12, .inl fh)), (qn, .inl (cI, 12, .inl (fun j => mI (N j)))), (hh, .inr (3, [.int tn, .ref qu, .ref qo, .ref qx, .ref qy, .ref qr, .ref qw])), (qu, .inl (cI, 12, .inl fu)), (qw, .inl (cI, 12, .inl fw))] sz)) 0 0 (va_A [(h0, .inr (5, [.ref hm, .ref hh, .ref he, .ref ha, .ref hp, .int 3])), (hm, .inr (4, [.int (nI n), .int (mI S), .int (mI Ce), .ref qh, .ref qn])), (qh, .inl (cI, 12, .inl fh)), (qn, .inl (cI, 12, .inl (fun j => mI (N j)))), (hh, .inr (3, [.int tn, .ref qu, .ref qo, .ref qx, .ref qy, .ref qr, .ref qw])), (qu, .inl (cI, 12, .inl fu)), (qw, .inl (cI, 12, .inl fw))] sz) := by
  refine Met.ofW (cc := b_Sw_build) (maxL := 4) (ret := (some .int)) (by decide) rfl ?_
  intro p e s m args below meth c s₁ B hml hv
  obtain ⟨rfl, hsz, hP, hK, hD0, hX⟩ := hv
  have hx := B.exec
  have hb := B.bytes
  have hr := B.returns
  have hts0 := atoms_spec (ws := w_Sw_build) B.pre
  have hts : ∀ w ∈ TB, w.before _ s = true := fun w h => hts0 w (List.mem_cons_of_mem _ h)
  have hown : s.vm.findClass R_Sw = some m.cls := findClass_of_methodNamed B.named
  have hlocks := B.notSynchronized
  subst hsz
  have hXl := tx_lt hX
  have hXn := tx_far hP hX
  have hD := hD0.self (sz := s.heap.size)
  generalize hAe : va_A [(h0, .inr (5, [.ref hm, .ref hh, .ref he, .ref ha, .ref hp, .int 3])), (hm, .inr (4, [.int (nI n), .int (mI S), .int (mI Ce), .ref qh, .ref qn])), (qh, .inl (cI, 12, .inl fh)), (qn, .inl (cI, 12, .inl (fun j => mI (N j)))), (hh, .inr (3, [.int tn, .ref qu, .ref qo, .ref qx, .ref qy, .ref qr, .ref qw])), (qu, .inl (cI, 12, .inl fu)), (qw, .inl (cI, 12, .inl fw))] s.heap.size = A at hD hXn ⊢
  have hA : ∀ q : Nat, s.heap.size ≤ q → A q := fun q h => by rw [← hAe]; exact Or.inr h
  have hS : va_S A s.heap s.heap [] := va_S.rf
  have hXH : s.heap[aT]? = s.heap[aT]? := rfl
  have hl := lv_entry ([.ref h0, .int (nI p9), .int (nI a), .int (nI k)]) (n := 4) (Nat.le_of_ble_eq_true rfl)
  rw [lg_entry_eq]
  generalize (lg_sl ([.ref h0, .int (nI p9), .int (nI a), .int (nI k)]) ++ List.replicate (4 - (lg_sl ([.ref h0, .int (nI p9), .int (nI a), .int (nI k)])).length) Slot.unset).toArray = ls at hl ⊢
  have hl : lv_has ls 4 [(0, .ref h0), (1, .int (nI p9)), (2, .int (nI a)), (3, .int (nI k))] := hl
  refine lv_iload_n hx hb d_Sw_build_0 rfl (lv_at hl 1 rfl) ?_
  have hPc := hP.sub (ws' := []) [] rfl
  refine vp_callSi (va_Run.run (va_runS (As := [.int (nI p9)]) (rest := []) ⟨hx, hb, hml, hown, hts⟩ (c_Sw_isPlayerY l D cI cZ cJ cS aT ceT  p9 h_p) (va_cwS 1 hts (tb_3 wd_299 wd_300 wd_1 (tb_c wd_301)) rfl rfl rfl ⟨by decide, by decide, by decide +kernel⟩ ⟨Nat.le_of_ble_eq_true rfl, Nat.le_of_ble_eq_true rfl⟩) (tP_S hK hX (hS.2.1 aT hXl hXn) hPc) rfl rfl hl.1 rfl (lv_room (Nat.le_of_ble_eq_true rfl)) d_Sw_build_1 ⟨Nat.le_of_ble_eq_true rfl, Nat.le_of_ble_eq_true rfl⟩)) (fun r1 hr9 => ?_)
  rw [hr9]
  refine lv_if_eq (tgt := 27) hx hb d_Sw_build_4 (by decide) (fun h0 => absurd h0 (by decide)) (fun _ => ?_)
  refine lv_aload_n hx hb d_Sw_build_7 rfl (lv_at hl 0 rfl) ?_
  refine va_get (D := D) (ci := 5) (v := .ref hm) (C := R_Sw) (T := T_Sw) (N := 6) hx hb hts hin_Sw hown hK hP 0 rfl rfl 0 (by decide) (hts _ wd_201) (fun _ h9 => h9) rfl d_Sw_build_8 ?_
  refine lv_iload_n hx hb d_Sw_build_11 rfl (lv_at hl 2 rfl) ?_
  have hPc := hP.sub (ws' := [(hm, .inr (4, [.int (nI n), .int (mI S), .int (mI Ce), .ref qh, .ref qn]))]) [1] rfl
  refine vp_callSi (va_Run.run (va_runV (As := [.int (nI a)]) (rest := []) ⟨hx, hb, hml, hown, hts⟩ (c_Wm_hasY l D cI cZ cJ cS aT ceT  hm qh qn n S Ce a hn h_a) (cwV 1 hts (tb_4 wd_224 wd_225 wd_226 wd_2 (tb_c wd_227)) rfl rfl rfl ⟨rfl, by decide, by decide, by decide +kernel⟩ ⟨Nat.le_of_ble_eq_true rfl, Nat.le_of_ble_eq_true rfl⟩) (tP_V hK hX (hS.2.1 aT hXl hXn) hPc (q := 0) rfl rfl) rfl rfl hl.1 rfl (lv_room (Nat.le_of_ble_eq_true rfl)) d_Sw_build_12 ⟨Nat.le_of_ble_eq_true rfl, Nat.le_of_ble_eq_true rfl⟩)) (fun r3 hr9 => ?_)
  rw [hr9]
  refine lv_if_eq (tgt := 27) hx hb d_Sw_build_15 (by decide) (fun h0 => absurd h0 (by decide)) (fun _ => ?_)
  refine lv_iload_n hx hb d_Sw_build_18 rfl (lv_at hl 3 rfl) ?_
  refine lv_if_lt (tgt := 27) hx hb d_Sw_build_19 (by decide) (fun h0 => absurd h0 (nI_nn (by omega))) (fun _ => ?_)
  refine lv_iload_n hx hb d_Sw_build_22 rfl (lv_at hl 3 rfl) ?_
  refine lv_iconst (v := 2) hx hb d_Sw_build_23 (by decide) ?_
  refine lv_icmp_le (tgt := 35) hx hb d_Sw_build_24 (by decide) (fun _ => ?_) (fun h0 => absurd ((nI_leI (b := 2) (by omega) (by decide)).mpr (by omega)) h0)
  refine lv_aload_n hx hb d_Sw_build_35 rfl (lv_at hl 0 rfl) ?_
  refine va_get (D := D) (ci := 5) (v := .int 3) (C := R_Sw) (T := T_Sw) (N := 6) hx hb hts hin_Sw hown hK hP 0 rfl rfl 5 (by decide) (hts _ wd_206) (fun _ h9 => h9) rfl d_Sw_build_36 ?_
  refine lv_iconst (v := 3) hx hb d_Sw_build_39 (by decide) ?_
  refine lv_icmp_eq (tgt := 51) hx hb d_Sw_build_40 (by decide) (fun _ => ?_) (fun h0 => absurd (by decide) h0)
  refine lv_iload_n hx hb d_Sw_build_51 rfl (lv_at hl 3 rfl) ?_
  refine lv_iconst (v := 2) hx hb d_Sw_build_52 (by decide) ?_
  refine lv_icmp_ne (tgt := 65) hx hb d_Sw_build_53 (by decide) (fun _ => ?_) (fun h0 => absurd ((nI_lit (by omega) (by decide)).mp h0) (Nat.ne_of_lt h_k))
  refine lv_aload_n hx hb d_Sw_build_65 rfl (lv_at hl 0 rfl) ?_
  refine lv_iload_n hx hb d_Sw_build_66 rfl (lv_at hl 1 rfl) ?_
  refine lv_iload_n hx hb d_Sw_build_67 rfl (lv_at hl 2 rfl) ?_
  refine lv_iload_n hx hb d_Sw_build_68 rfl (lv_at hl 3 rfl) ?_
  have hPc := hP.sub (ws' := [(h0, .inr (5, [.ref hm, .ref hh, .ref he, .ref ha, .ref hp, .int 3])), (hm, .inr (4, [.int (nI n), .int (mI S), .int (mI Ce), .ref qh, .ref qn])), (qh, .inl (cI, 12, .inl fh)), (qn, .inl (cI, 12, .inl (fun j => mI (N j)))), (hh, .inr (3, [.int tn, .ref qu, .ref qo, .ref qx, .ref qy, .ref qr, .ref qw])), (qu, .inl (cI, 12, .inl fu)), (qw, .inl (cI, 12, .inl fw))]) [0, 1, 2, 3, 4, 5, 6] rfl
  have hDc := hD.sub (ws' := [(h0, .inr (5, [.ref hm, .ref hh, .ref he, .ref ha, .ref hp, .int 3])), (hm, .inr (4, [.int (nI n), .int (mI S), .int (mI Ce), .ref qh, .ref qn])), (qh, .inl (cI, 12, .inl fh)), (qn, .inl (cI, 12, .inl (fun j => mI (N j)))), (hh, .inr (3, [.int tn, .ref qu, .ref qo, .ref qx, .ref qy, .ref qr, .ref qw])), (qu, .inl (cI, 12, .inl fu)), (qw, .inl (cI, 12, .inl fw))]) [0, 1, 2, 3, 4, 5, 6] (by decide) rfl
  have hFc := va_free (wc := [(h0, .inr (5, [.ref hm, .ref hh, .ref he, .ref ha, .ref hp, .int 3])), (hm, .inr (4, [.int (nI n), .int (mI S), .int (mI Ce), .ref qh, .ref qn])), (qh, .inl (cI, 12, .inl fh)), (qn, .inl (cI, 12, .inl (fun j => mI (N j)))), (hh, .inr (3, [.int tn, .ref qu, .ref qo, .ref qx, .ref qy, .ref qr, .ref qw])), (qu, .inl (cI, 12, .inl fu)), (qw, .inl (cI, 12, .inl fw))]) hD hS hA [0, 1, 2, 3, 4, 5, 6] rfl
  refine va_calli (va_runV (As := [.int (nI p9), .int (nI a), .int (nI k)]) (rest := []) ⟨hx, hb, hml, hown, hts⟩ (c_Sw_putUnit l D cI cZ cJ cS aT ceT s.heap.size h0 hm hh he ha hp 3 qh qn n S Ce N tn qu qo qx qy qr qw fh fw fu p9 a k (Nat.lt_of_lt_of_le h_a hn)) (cwV 3 hts (tb_4 wd_674 wd_676 wp_33 wd_1 (tb_c wd_677)) rfl rfl rfl ⟨rfl, by decide, by decide, by decide +kernel⟩ ⟨Nat.le_of_ble_eq_true rfl, Nat.le_of_ble_eq_true rfl⟩) (tH_V hK hX (hS.2.1 aT hXl hXn) hPc hDc (q := 0) rfl rfl) rfl rfl hl.1 rfl (lv_room (Nat.le_of_ble_eq_true rfl)) d_Sw_build_69 ⟨Nat.le_of_ble_eq_true rfl, Nat.le_of_ble_eq_true rfl⟩) hS (fun q _ h => hFc q h) hFc (fun r9 u t H1 locs ht hvm h9 hB hz1 hk1 hS => ?_)
  rw [h9]
  obtain ⟨hP1, hD1⟩ := hB
  rw [ht] at hP1
  obtain ⟨hP, hD⟩ := va_join (wr := []) (w1 := [(h0, .inr (5, [.ref hm, .ref hh, .ref he, .ref ha, .ref hp, .int 3])), (hm, .inr (4, [.int (nI n), .int (mI S), .int (mI Ce), .ref qh, .ref qn])), (qh, .inl (cI, 12, .inl fh)), (qn, .inl (cI, 12, .inl (fun j => mI (N j)))), (hh, .inr (3, [.int tn, .ref qu, .ref qo, .ref qx, .ref qy, .ref qr, .ref qw])), (qu, .inl (cI, 12, .inl (pkU (puR (msC fw fu (nI p9)) (bpC fh fw fu (nI p9) a && (if nI k = 0 then !S a else S a || anyB (fun j => N a j && S j) 12))) fu a (nI (2 * p9 + k))))), (qw, .inl (cI, 12, .inl fw))]) hP hD [0, 1, 2, 3, 4, 5, 6] [] rfl rfl (by decide) (by decide) hk1 hFc hP1 hD1
  generalize H1 = H at hP hS ⊢
  have hP : va_P D vwCl [(h0, .inr (5, [.ref hm, .ref hh, .ref he, .ref ha, .ref hp, .int 3])), (hm, .inr (4, [.int (nI n), .int (mI S), .int (mI Ce), .ref qh, .ref qn])), (qh, .inl (cI, 12, .inl fh)), (qn, .inl (cI, 12, .inl (fun j => mI (N j)))), (hh, .inr (3, [.int tn, .ref qu, .ref qo, .ref qx, .ref qy, .ref qr, .ref qw])), (qu, .inl (cI, 12, .inl (pkU (puR (msC fw fu (nI p9)) (bpC fh fw fu (nI p9) a && (if nI k = 0 then !S a else S a || anyB (fun j => N a j && S j) 12))) fu a (nI (2 * p9 + k))))), (qw, .inl (cI, 12, .inl fw))] H := hP
  have hD : va_D A [(h0, .inr (5, [.ref hm, .ref hh, .ref he, .ref ha, .ref hp, .int 3])), (hm, .inr (4, [.int (nI n), .int (mI S), .int (mI Ce), .ref qh, .ref qn])), (qh, .inl (cI, 12, .inl fh)), (qn, .inl (cI, 12, .inl (fun j => mI (N j)))), (hh, .inr (3, [.int tn, .ref qu, .ref qo, .ref qx, .ref qy, .ref qr, .ref qw])), (qu, .inl (cI, 12, .inl (pkU (puR (msC fw fu (nI p9)) (bpC fh fw fu (nI p9) a && (if nI k = 0 then !S a else S a || anyB (fun j => N a j && S j) 12))) fu a (nI (2 * p9 + k))))), (qw, .inl (cI, 12, .inl fw))] := hD
  have hP9 := hP.sub (ws' := [(h0, .inr (5, [.ref hm, .ref hh, .ref he, .ref ha, .ref hp, .int 3])), (hm, .inr (4, [.int (nI n), .int (mI S), .int (mI Ce), .ref qh, .ref qn])), (qh, .inl (cI, 12, .inl fh)), (qn, .inl (cI, 12, .inl (fun j => mI (N j)))), (hh, .inr (3, [.int tn, .ref qu, .ref qo, .ref qx, .ref qy, .ref qr, .ref qw])), (qu, .inl (cI, 12, .inl (pkU (puR (msC fw fu (nI p9)) (bpC fh fw fu (nI p9) a && (if nI k = 0 then !S a else S a || anyB (fun j => N a j && S j) 12))) fu a (nI (2 * p9 + k))))), (qw, .inl (cI, 12, .inl fw))]) [0, 1, 2, 3, 4, 5, 6] rfl
  have hD9 := hD.sub (ws' := [(h0, .inr (5, [.ref hm, .ref hh, .ref he, .ref ha, .ref hp, .int 3])), (hm, .inr (4, [.int (nI n), .int (mI S), .int (mI Ce), .ref qh, .ref qn])), (qh, .inl (cI, 12, .inl fh)), (qn, .inl (cI, 12, .inl (fun j => mI (N j)))), (hh, .inr (3, [.int tn, .ref qu, .ref qo, .ref qx, .ref qy, .ref qr, .ref qw])), (qu, .inl (cI, 12, .inl (pkU (puR (msC fw fu (nI p9)) (bpC fh fw fu (nI p9) a && (if nI k = 0 then !S a else S a || anyB (fun j => N a j && S j) 12))) fu a (nI (2 * p9 + k))))), (qw, .inl (cI, 12, .inl fw))]) [0, 1, 2, 3, 4, 5, 6] (by decide) rfl
  exact W.iret (v := nI (puR (msC fw fu (nI p9)) (bpC fh fw fu (nI p9) a && (if nI k = 0 then !S a else S a || anyB (fun j => N a j && S j) 12)))) hx hb hr (fun t ht hW => ⟨⟨nI (puR (msC fw fu (nI p9)) (bpC fh fw fu (nI p9) a && (if nI k = 0 then !S a else S a || anyB (fun j => N a j && S j) 12))), (), rfl, rfl, by rw [ht]; exact hP9, hD9⟩, hS.F ht⟩) hS.2.2 d_Sw_build_72

theorem wd_673 : (Cond.code ({ cls := "SheetWar", name := "takeUnit", desc := "(II)I" } : MethodName) prog_1_method_38_code (3 : Nat) (Option.some FieldType.int)) ∈ TB := tb_t 673 (by decide +kernel) (by decide +kernel)
theorem wd_670 : (Cond.methodLink "SheetWar" (148 : Nat) ({ cls := "SheetWar", name := "takeUnit", desc := "(II)I" } : MethodName)) ∈ TB := tb_t 670 (by decide +kernel) (by decide +kernel)
theorem wd_672 : (Cond.instanceMethod ({ cls := "SheetWar", name := "takeUnit", desc := "(II)I" } : MethodName)) ∈ TB := tb_t 672 (by decide +kernel) (by decide +kernel)
theorem wp_32 : Cond.selects "SheetWar" ⟨"SheetWar", "takeUnit", "(II)I"⟩ ⟨"SheetWar", "takeUnit", "(II)I"⟩ ∈ TB := tb_p 32 (by decide +kernel) (by decide +kernel)
set_option maxHeartbeats 4000000 in
set_option maxRecDepth 100000 in
theorem c_Sw_buildT (l : Launch) (D : va_G) (cI cZ cJ cS : ClassId) (aT : Nat) (ceT : Cell) (sz : Nat) (h0 hm hh he ha hp : Nat) (qh qn n : Nat) (S Ce : Nat → Bool) (N : Nat → Nat → Bool) (tn : Int32) (qu qo qx qy qr qw : Nat) (fh fw fu : Nat → Int32) (p9 a : Nat) (hn : n ≤ 12) (h_a : a < n) (h_p : p9 < 4) : Met l y_Sw_build w_Sw_build ({ frames := 4, cells := 0, slots := 0, locals := 87 }) (tH D cI cZ cJ cS aT ceT [.ref h0, .int (nI p9), .int (nI a), .int 2] sz [(h0, .inr (5, [.ref hm, .ref hh, .ref he, .ref ha, .ref hp, .int 3])), (hm, .inr (4, [.int (nI n), .int (mI S), .int (mI Ce), .ref qh, .ref qn])), (qh, .inl (cI, 12, .inl fh)), (qn, .inl (cI, 12, .inl (fun j => mI (N j)))), (hh, .inr (3, [.int tn, .ref qu, .ref qo, .ref qx, .ref qy, .ref qr, .ref qw])), (qu, .inl (cI, 12, .inl fu)), (qw, .inl (cI, 12, .inl fw))]) (va_Qi (fun (r : Int32) (_ : Unit) => r = nI (tuR (msC fw fu (nI p9)) (!decide (fu a = -1) && decide (fu a / 2 = nI p9)))) (fun _ t => tB D (va_A [(h0, .inr (5, [.ref hm, .ref hh, .ref he, .ref ha, .ref hp, .int 3])), (hm, .inr (4, [.int (nI n), .int (mI S), .int (mI Ce), .ref qh, .ref qn])), (qh, .inl (cI, 12, .inl fh)), (qn, .inl (cI, 12, .inl (fun j => mI (N j)))), (hh, .inr (3, [.int tn, .ref qu, .ref qo, .ref qx, .ref qy, .ref qr, .ref qw])), (qu, .inl (cI, 12, .inl fu)), (qw, .inl (cI, 12, .inl fw))] sz) [(h0, .inr (5, [.ref hm, .ref hh, .ref he, .ref ha, .ref hp, .int 3])), (hm, .inr (4, [.int (nI n), .int (mI S), .int (mI Ce), .ref qh, .ref qn])), (qh, .inl (cI, 12, .inl fh)), (qn, .inl (cI, 12, .inl (fun j => mI (N j)))), (hh, .inr (3, [.int tn, .ref qu, .ref qo, .ref qx, .ref qy, .ref qr, .ref qw])), (qu, .inl (cI, 12, .inl (pkU (tuR (msC fw fu (nI p9)) (!decide (fu a = -1) && decide (fu a / 2 = nI p9))) fu a (-1)))), (qw, .inl (cI, 12, .inl fw))] t) (va_A [(h0, .inr (5, [.ref hm, .ref hh, .ref he, .ref ha, .ref hp, .int 3])), (hm, .inr (4, [.int (nI n), .int (mI S), .int (mI Ce), .ref qh, .ref qn])), (qh, .inl (cI, 12, .inl fh)), (qn, .inl (cI, 12, .inl (fun j => mI (N j)))), (hh, .inr (3, [.int tn, .ref qu, .ref qo, .ref qx, .ref qy, .ref qr, .ref qw])), (qu, .inl (cI, 12, .inl fu)), (qw, .inl (cI, 12, .inl fw))] sz)) 0 0 (va_A [(h0, .inr (5, [.ref hm, .ref hh, .ref he, .ref ha, .ref hp, .int 3])), (hm, .inr (4, [.int (nI n), .int (mI S), .int (mI Ce), .ref qh, .ref qn])), (qh, .inl (cI, 12, .inl fh)), (qn, .inl (cI, 12, .inl (fun j => mI (N j)))), (hh, .inr (3, [.int tn, .ref qu, .ref qo, .ref qx, .ref qy, .ref qr, .ref qw])), (qu, .inl (cI, 12, .inl fu)), (qw, .inl (cI, 12, .inl fw))] sz) := by
  refine Met.ofW (cc := b_Sw_build) (maxL := 4) (ret := (some .int)) (by decide) rfl ?_
  intro p e s m args below meth c s₁ B hml hv
  obtain ⟨rfl, hsz, hP, hK, hD0, hX⟩ := hv
  have hx := B.exec
  have hb := B.bytes
  have hr := B.returns
  have hts0 := atoms_spec (ws := w_Sw_build) B.pre
  have hts : ∀ w ∈ TB, w.before _ s = true := fun w h => hts0 w (List.mem_cons_of_mem _ h)
  have hown : s.vm.findClass R_Sw = some m.cls := findClass_of_methodNamed B.named
  have hlocks := B.notSynchronized
  subst hsz
  have hXl := tx_lt hX
  have hXn := tx_far hP hX
  have hD := hD0.self (sz := s.heap.size)
  generalize hAe : va_A [(h0, .inr (5, [.ref hm, .ref hh, .ref he, .ref ha, .ref hp, .int 3])), (hm, .inr (4, [.int (nI n), .int (mI S), .int (mI Ce), .ref qh, .ref qn])), (qh, .inl (cI, 12, .inl fh)), (qn, .inl (cI, 12, .inl (fun j => mI (N j)))), (hh, .inr (3, [.int tn, .ref qu, .ref qo, .ref qx, .ref qy, .ref qr, .ref qw])), (qu, .inl (cI, 12, .inl fu)), (qw, .inl (cI, 12, .inl fw))] s.heap.size = A at hD hXn ⊢
  have hA : ∀ q : Nat, s.heap.size ≤ q → A q := fun q h => by rw [← hAe]; exact Or.inr h
  have hS : va_S A s.heap s.heap [] := va_S.rf
  have hXH : s.heap[aT]? = s.heap[aT]? := rfl
  have hl := lv_entry ([.ref h0, .int (nI p9), .int (nI a), .int 2]) (n := 4) (Nat.le_of_ble_eq_true rfl)
  rw [lg_entry_eq]
  generalize (lg_sl ([.ref h0, .int (nI p9), .int (nI a), .int 2]) ++ List.replicate (4 - (lg_sl ([.ref h0, .int (nI p9), .int (nI a), .int 2])).length) Slot.unset).toArray = ls at hl ⊢
  have hl : lv_has ls 4 [(0, .ref h0), (1, .int (nI p9)), (2, .int (nI a)), (3, .int 2)] := hl
  refine lv_iload_n hx hb d_Sw_build_0 rfl (lv_at hl 1 rfl) ?_
  have hPc := hP.sub (ws' := []) [] rfl
  refine vp_callSi (va_Run.run (va_runS (As := [.int (nI p9)]) (rest := []) ⟨hx, hb, hml, hown, hts⟩ (c_Sw_isPlayerY l D cI cZ cJ cS aT ceT  p9 h_p) (va_cwS 1 hts (tb_3 wd_299 wd_300 wd_1 (tb_c wd_301)) rfl rfl rfl ⟨by decide, by decide, by decide +kernel⟩ ⟨Nat.le_of_ble_eq_true rfl, Nat.le_of_ble_eq_true rfl⟩) (tP_S hK hX (hS.2.1 aT hXl hXn) hPc) rfl rfl hl.1 rfl (lv_room (Nat.le_of_ble_eq_true rfl)) d_Sw_build_1 ⟨Nat.le_of_ble_eq_true rfl, Nat.le_of_ble_eq_true rfl⟩)) (fun r1 hr9 => ?_)
  rw [hr9]
  refine lv_if_eq (tgt := 27) hx hb d_Sw_build_4 (by decide) (fun h0 => absurd h0 (by decide)) (fun _ => ?_)
  refine lv_aload_n hx hb d_Sw_build_7 rfl (lv_at hl 0 rfl) ?_
  refine va_get (D := D) (ci := 5) (v := .ref hm) (C := R_Sw) (T := T_Sw) (N := 6) hx hb hts hin_Sw hown hK hP 0 rfl rfl 0 (by decide) (hts _ wd_201) (fun _ h9 => h9) rfl d_Sw_build_8 ?_
  refine lv_iload_n hx hb d_Sw_build_11 rfl (lv_at hl 2 rfl) ?_
  have hPc := hP.sub (ws' := [(hm, .inr (4, [.int (nI n), .int (mI S), .int (mI Ce), .ref qh, .ref qn]))]) [1] rfl
  refine vp_callSi (va_Run.run (va_runV (As := [.int (nI a)]) (rest := []) ⟨hx, hb, hml, hown, hts⟩ (c_Wm_hasY l D cI cZ cJ cS aT ceT  hm qh qn n S Ce a hn h_a) (cwV 1 hts (tb_4 wd_224 wd_225 wd_226 wd_2 (tb_c wd_227)) rfl rfl rfl ⟨rfl, by decide, by decide, by decide +kernel⟩ ⟨Nat.le_of_ble_eq_true rfl, Nat.le_of_ble_eq_true rfl⟩) (tP_V hK hX (hS.2.1 aT hXl hXn) hPc (q := 0) rfl rfl) rfl rfl hl.1 rfl (lv_room (Nat.le_of_ble_eq_true rfl)) d_Sw_build_12 ⟨Nat.le_of_ble_eq_true rfl, Nat.le_of_ble_eq_true rfl⟩)) (fun r3 hr9 => ?_)
  rw [hr9]
  refine lv_if_eq (tgt := 27) hx hb d_Sw_build_15 (by decide) (fun h0 => absurd h0 (by decide)) (fun _ => ?_)
  refine lv_iload_n hx hb d_Sw_build_18 rfl (lv_at hl 3 rfl) ?_
  refine lv_if_lt (tgt := 27) hx hb d_Sw_build_19 (by decide) (fun h0 => absurd h0 (by decide)) (fun _ => ?_)
  refine lv_iload_n hx hb d_Sw_build_22 rfl (lv_at hl 3 rfl) ?_
  refine lv_iconst (v := 2) hx hb d_Sw_build_23 (by decide) ?_
  refine lv_icmp_le (tgt := 35) hx hb d_Sw_build_24 (by decide) (fun _ => ?_) (fun h0 => absurd (by decide) h0)
  refine lv_aload_n hx hb d_Sw_build_35 rfl (lv_at hl 0 rfl) ?_
  refine va_get (D := D) (ci := 5) (v := .int 3) (C := R_Sw) (T := T_Sw) (N := 6) hx hb hts hin_Sw hown hK hP 0 rfl rfl 5 (by decide) (hts _ wd_206) (fun _ h9 => h9) rfl d_Sw_build_36 ?_
  refine lv_iconst (v := 3) hx hb d_Sw_build_39 (by decide) ?_
  refine lv_icmp_eq (tgt := 51) hx hb d_Sw_build_40 (by decide) (fun _ => ?_) (fun h0 => absurd (by decide) h0)
  refine lv_iload_n hx hb d_Sw_build_51 rfl (lv_at hl 3 rfl) ?_
  refine lv_iconst (v := 2) hx hb d_Sw_build_52 (by decide) ?_
  refine lv_icmp_ne (tgt := 65) hx hb d_Sw_build_53 (by decide) (fun h0 => absurd (by decide) h0) (fun _ => ?_)
  refine lv_aload_n hx hb d_Sw_build_56 rfl (lv_at hl 0 rfl) ?_
  refine lv_iload_n hx hb d_Sw_build_57 rfl (lv_at hl 1 rfl) ?_
  refine lv_iload_n hx hb d_Sw_build_58 rfl (lv_at hl 2 rfl) ?_
  have hPc := hP.sub (ws' := [(h0, .inr (5, [.ref hm, .ref hh, .ref he, .ref ha, .ref hp, .int 3])), (hm, .inr (4, [.int (nI n), .int (mI S), .int (mI Ce), .ref qh, .ref qn])), (qh, .inl (cI, 12, .inl fh)), (qn, .inl (cI, 12, .inl (fun j => mI (N j)))), (hh, .inr (3, [.int tn, .ref qu, .ref qo, .ref qx, .ref qy, .ref qr, .ref qw])), (qu, .inl (cI, 12, .inl fu)), (qw, .inl (cI, 12, .inl fw))]) [0, 1, 2, 3, 4, 5, 6] rfl
  have hDc := hD.sub (ws' := [(h0, .inr (5, [.ref hm, .ref hh, .ref he, .ref ha, .ref hp, .int 3])), (hm, .inr (4, [.int (nI n), .int (mI S), .int (mI Ce), .ref qh, .ref qn])), (qh, .inl (cI, 12, .inl fh)), (qn, .inl (cI, 12, .inl (fun j => mI (N j)))), (hh, .inr (3, [.int tn, .ref qu, .ref qo, .ref qx, .ref qy, .ref qr, .ref qw])), (qu, .inl (cI, 12, .inl fu)), (qw, .inl (cI, 12, .inl fw))]) [0, 1, 2, 3, 4, 5, 6] (by decide) rfl
  have hFc := va_free (wc := [(h0, .inr (5, [.ref hm, .ref hh, .ref he, .ref ha, .ref hp, .int 3])), (hm, .inr (4, [.int (nI n), .int (mI S), .int (mI Ce), .ref qh, .ref qn])), (qh, .inl (cI, 12, .inl fh)), (qn, .inl (cI, 12, .inl (fun j => mI (N j)))), (hh, .inr (3, [.int tn, .ref qu, .ref qo, .ref qx, .ref qy, .ref qr, .ref qw])), (qu, .inl (cI, 12, .inl fu)), (qw, .inl (cI, 12, .inl fw))]) hD hS hA [0, 1, 2, 3, 4, 5, 6] rfl
  refine va_calli (va_runV (As := [.int (nI p9), .int (nI a)]) (rest := []) ⟨hx, hb, hml, hown, hts⟩ (c_Sw_takeUnit l D cI cZ cJ cS aT ceT s.heap.size h0 hm hh he ha hp 3 qh qn n S Ce N tn qu qo qx qy qr qw fh fw fu p9 a (Nat.lt_of_lt_of_le h_a hn)) (cwV 2 hts (tb_4 wd_670 wd_672 wp_32 wd_1 (tb_c wd_673)) rfl rfl rfl ⟨rfl, by decide, by decide, by decide +kernel⟩ ⟨Nat.le_of_ble_eq_true rfl, Nat.le_of_ble_eq_true rfl⟩) (tH_V hK hX (hS.2.1 aT hXl hXn) hPc hDc (q := 0) rfl rfl) rfl rfl hl.1 rfl (lv_room (Nat.le_of_ble_eq_true rfl)) d_Sw_build_59 ⟨Nat.le_of_ble_eq_true rfl, Nat.le_of_ble_eq_true rfl⟩) hS (fun q _ h => hFc q h) hFc (fun r9 u t H1 locs ht hvm h9 hB hz1 hk1 hS => ?_)
  rw [h9]
  obtain ⟨hP1, hD1⟩ := hB
  rw [ht] at hP1
  obtain ⟨hP, hD⟩ := va_join (wr := []) (w1 := [(h0, .inr (5, [.ref hm, .ref hh, .ref he, .ref ha, .ref hp, .int 3])), (hm, .inr (4, [.int (nI n), .int (mI S), .int (mI Ce), .ref qh, .ref qn])), (qh, .inl (cI, 12, .inl fh)), (qn, .inl (cI, 12, .inl (fun j => mI (N j)))), (hh, .inr (3, [.int tn, .ref qu, .ref qo, .ref qx, .ref qy, .ref qr, .ref qw])), (qu, .inl (cI, 12, .inl (pkU (tuR (msC fw fu (nI p9)) (!decide (fu a = -1) && decide (fu a / 2 = nI p9))) fu a (-1)))), (qw, .inl (cI, 12, .inl fw))]) hP hD [0, 1, 2, 3, 4, 5, 6] [] rfl rfl (by decide) (by decide) hk1 hFc hP1 hD1
  generalize H1 = H at hP hS ⊢
  have hP : va_P D vwCl [(h0, .inr (5, [.ref hm, .ref hh, .ref he, .ref ha, .ref hp, .int 3])), (hm, .inr (4, [.int (nI n), .int (mI S), .int (mI Ce), .ref qh, .ref qn])), (qh, .inl (cI, 12, .inl fh)), (qn, .inl (cI, 12, .inl (fun j => mI (N j)))), (hh, .inr (3, [.int tn, .ref qu, .ref qo, .ref qx, .ref qy, .ref qr, .ref qw])), (qu, .inl (cI, 12, .inl (pkU (tuR (msC fw fu (nI p9)) (!decide (fu a = -1) && decide (fu a / 2 = nI p9))) fu a (-1)))), (qw, .inl (cI, 12, .inl fw))] H := hP
  have hD : va_D A [(h0, .inr (5, [.ref hm, .ref hh, .ref he, .ref ha, .ref hp, .int 3])), (hm, .inr (4, [.int (nI n), .int (mI S), .int (mI Ce), .ref qh, .ref qn])), (qh, .inl (cI, 12, .inl fh)), (qn, .inl (cI, 12, .inl (fun j => mI (N j)))), (hh, .inr (3, [.int tn, .ref qu, .ref qo, .ref qx, .ref qy, .ref qr, .ref qw])), (qu, .inl (cI, 12, .inl (pkU (tuR (msC fw fu (nI p9)) (!decide (fu a = -1) && decide (fu a / 2 = nI p9))) fu a (-1)))), (qw, .inl (cI, 12, .inl fw))] := hD
  refine lv_goto (tgt := 72) hx hb d_Sw_build_62 (by decide) ?_
  have hP9 := hP.sub (ws' := [(h0, .inr (5, [.ref hm, .ref hh, .ref he, .ref ha, .ref hp, .int 3])), (hm, .inr (4, [.int (nI n), .int (mI S), .int (mI Ce), .ref qh, .ref qn])), (qh, .inl (cI, 12, .inl fh)), (qn, .inl (cI, 12, .inl (fun j => mI (N j)))), (hh, .inr (3, [.int tn, .ref qu, .ref qo, .ref qx, .ref qy, .ref qr, .ref qw])), (qu, .inl (cI, 12, .inl (pkU (tuR (msC fw fu (nI p9)) (!decide (fu a = -1) && decide (fu a / 2 = nI p9))) fu a (-1)))), (qw, .inl (cI, 12, .inl fw))]) [0, 1, 2, 3, 4, 5, 6] rfl
  have hD9 := hD.sub (ws' := [(h0, .inr (5, [.ref hm, .ref hh, .ref he, .ref ha, .ref hp, .int 3])), (hm, .inr (4, [.int (nI n), .int (mI S), .int (mI Ce), .ref qh, .ref qn])), (qh, .inl (cI, 12, .inl fh)), (qn, .inl (cI, 12, .inl (fun j => mI (N j)))), (hh, .inr (3, [.int tn, .ref qu, .ref qo, .ref qx, .ref qy, .ref qr, .ref qw])), (qu, .inl (cI, 12, .inl (pkU (tuR (msC fw fu (nI p9)) (!decide (fu a = -1) && decide (fu a / 2 = nI p9))) fu a (-1)))), (qw, .inl (cI, 12, .inl fw))]) [0, 1, 2, 3, 4, 5, 6] (by decide) rfl
  exact W.iret (v := nI (tuR (msC fw fu (nI p9)) (!decide (fu a = -1) && decide (fu a / 2 = nI p9)))) hx hb hr (fun t ht hW => ⟨⟨nI (tuR (msC fw fu (nI p9)) (!decide (fu a = -1) && decide (fu a / 2 = nI p9))), (), rfl, rfl, by rw [ht]; exact hP9, hD9⟩, hS.F ht⟩) hS.2.2 d_Sw_build_72
