def cnt (f : Nat → Int32) (p : Int32) : Nat → Nat
  | 0 => 0
  | k + 1 => cnt f p k + if f k = p then 1 else 0
theorem tn_no {a : Int32} : ¬ (0 ≤ a ∧ a < (0 : Int32)) := fun h => absurd h.2 (Int32.not_lt.mpr h.1)
theorem tn_in {a n : Int32} {k : Nat} (hn : n.toInt ≤ k) (h : 0 ≤ a ∧ a < n) : vp_in a k := vp_in_iff.mpr (by
  obtain ⟨h1, h2⟩ := h
  simp only [Int32.lt_iff_toInt_lt, Int32.le_iff_toInt_le, Int32.reduceToInt] at h1 h2
  omega)

theorem d_Sw_phase_0 : decode b_Sw_phase 0 = .ok (.aload_n 0, 1) := by decide +kernel
theorem d_Sw_phase_1 : decode b_Sw_phase 1 = .ok (.getfield 46, 3) := by decide +kernel
theorem d_Sw_phase_4 : decode b_Sw_phase 4 = .ok (.ireturn, 1) := by decide +kernel

set_option maxHeartbeats 4000000 in
set_option maxRecDepth 100000 in
theorem c_Sw_phase (l : Launch) (D : va_G) (cI cZ cJ cS : ClassId) (aT : Nat) (ceT : Cell) (h0 hm hh he ha hp : Nat) (ph : Int32)  : Met l y_Sw_phase w_Sw_phase ({ frames := 0, cells := 0, slots := 0, locals := 0 }) (tP D cI cZ cJ cS aT ceT [.ref h0] [(h0, .inr (5, [.ref hm, .ref hh, .ref he, .ref ha, .ref hp, .int ph]))]) (vp_Si (fun r => r = ph)) 0 0 (fun _ => False) := by
  refine Met.ofW (cc := b_Sw_phase) (maxL := 1) (ret := (some .int)) (by decide) rfl ?_
  intro p e s m args below meth c s₁ B hml hv
  obtain ⟨rfl, hP, hK, hX⟩ := hv
  have hx := B.exec
  have hb := B.bytes
  have hr := B.returns
  have hts0 := atoms_spec (ws := w_Sw_phase) B.pre
  have hts : ∀ w ∈ TB, w.before _ s = true := fun w h => hts0 w (List.mem_cons_of_mem _ h)
  have hown : s.vm.findClass R_Sw = some m.cls := findClass_of_methodNamed B.named
  have hlocks := B.notSynchronized
  have hXH : s.heap[aT]? = s.heap[aT]? := rfl
  have hl := lv_entry ([.ref h0]) (n := 1) (Nat.le_of_ble_eq_true rfl)
  rw [lg_entry_eq]
  generalize (lg_sl ([.ref h0]) ++ List.replicate (1 - (lg_sl ([.ref h0])).length) Slot.unset).toArray = ls at hl ⊢
  have hl : lv_has ls 1 [(0, .ref h0)] := hl
  refine lv_aload_n hx hb d_Sw_phase_0 rfl (lv_at hl 0 rfl) ?_
  refine va_get (D := D) (ci := 5) (v := .int ph) (C := R_Sw) (T := T_Sw) (N := 6) hx hb hts hin_Sw hown hK hP 0 rfl rfl 5 (by decide) (hts _ wd_206) (fun _ h9 => h9) rfl d_Sw_phase_1 ?_
  exact W.iret (v := ph) hx hb hr (fun t ht hW => ⟨ph, rfl, rfl, ht⟩) (fun q hq => by cases hq) d_Sw_phase_4

theorem d_Sw_turn_0 : decode b_Sw_turn 0 = .ok (.aload_n 0, 1) := by decide +kernel
theorem d_Sw_turn_1 : decode b_Sw_turn 1 = .ok (.getfield 19, 3) := by decide +kernel
theorem d_Sw_turn_4 : decode b_Sw_turn 4 = .ok (.getfield 168, 3) := by decide +kernel
theorem d_Sw_turn_7 : decode b_Sw_turn 7 = .ok (.ireturn, 1) := by decide +kernel
theorem wd_63 : (Cond.fieldLink "SheetWar" (168 : Nat) "SheetWar$Sheet" "turnNumber" "I") ∈ TB := tb_t 63 (by decide +kernel) (by decide +kernel)
set_option maxHeartbeats 4000000 in
set_option maxRecDepth 100000 in
theorem c_Sw_turn (l : Launch) (D : va_G) (cI cZ cJ cS : ClassId) (aT : Nat) (ceT : Cell) (h0 hm hh he ha hp : Nat) (ph : Int32) (tn : Int32) (qu qo qx qy qr qw : Nat)  : Met l y_Sw_turn w_Sw_turn ({ frames := 0, cells := 0, slots := 0, locals := 0 }) (tP D cI cZ cJ cS aT ceT [.ref h0] [(h0, .inr (5, [.ref hm, .ref hh, .ref he, .ref ha, .ref hp, .int ph])), (hh, .inr (3, [.int tn, .ref qu, .ref qo, .ref qx, .ref qy, .ref qr, .ref qw]))]) (vp_Si (fun r => r = tn)) 0 0 (fun _ => False) := by
  refine Met.ofW (cc := b_Sw_turn) (maxL := 1) (ret := (some .int)) (by decide) rfl ?_
  intro p e s m args below meth c s₁ B hml hv
  obtain ⟨rfl, hP, hK, hX⟩ := hv
  have hx := B.exec
  have hb := B.bytes
  have hr := B.returns
  have hts0 := atoms_spec (ws := w_Sw_turn) B.pre
  have hts : ∀ w ∈ TB, w.before _ s = true := fun w h => hts0 w (List.mem_cons_of_mem _ h)
  have hown : s.vm.findClass R_Sw = some m.cls := findClass_of_methodNamed B.named
  have hlocks := B.notSynchronized
  have hXH : s.heap[aT]? = s.heap[aT]? := rfl
  have hl := lv_entry ([.ref h0]) (n := 1) (Nat.le_of_ble_eq_true rfl)
  rw [lg_entry_eq]
  generalize (lg_sl ([.ref h0]) ++ List.replicate (1 - (lg_sl ([.ref h0])).length) Slot.unset).toArray = ls at hl ⊢
  have hl : lv_has ls 1 [(0, .ref h0)] := hl
  refine lv_aload_n hx hb d_Sw_turn_0 rfl (lv_at hl 0 rfl) ?_
  refine va_get (D := D) (ci := 5) (v := .ref hh) (C := R_Sw) (T := T_Sw) (N := 6) hx hb hts hin_Sw hown hK hP 0 rfl rfl 1 (by decide) (hts _ wd_202) (fun _ h9 => h9) rfl d_Sw_turn_1 ?_
  refine va_get (D := D) (ci := 3) (v := .int tn) (C := R_Sh) (T := T_Sh) (N := 7) hx hb hts hin_Sh hown hK hP 1 rfl rfl 0 (by decide) (hts _ wd_63) (fun _ h9 => h9) rfl d_Sw_turn_4 ?_
  exact W.iret (v := tn) hx hb hr (fun t ht hW => ⟨tn, rfl, rfl, ht⟩) (fun q hq => by cases hq) d_Sw_turn_7

theorem d_Sw_at_0 : decode b_Sw_at 0 = .ok (.aload_n 0, 1) := by decide +kernel
theorem d_Sw_at_1 : decode b_Sw_at 1 = .ok (.getfield 13, 3) := by decide +kernel
theorem d_Sw_at_4 : decode b_Sw_at 4 = .ok (.iload_n 1, 1) := by decide +kernel
theorem d_Sw_at_5 : decode b_Sw_at 5 = .ok (.invokevirtual 71, 3) := by decide +kernel
theorem d_Sw_at_8 : decode b_Sw_at 8 = .ok (.ifCond .eq 15, 3) := by decide +kernel
theorem d_Sw_at_11 : decode b_Sw_at 11 = .ok (.aload_n 0, 1) := by decide +kernel
theorem d_Sw_at_12 : decode b_Sw_at 12 = .ok (.getfield 19, 3) := by decide +kernel
theorem d_Sw_at_15 : decode b_Sw_at 15 = .ok (.getfield 84, 3) := by decide +kernel
theorem d_Sw_at_18 : decode b_Sw_at 18 = .ok (.iload_n 1, 1) := by decide +kernel
theorem d_Sw_at_19 : decode b_Sw_at 19 = .ok (.iaload, 1) := by decide +kernel
theorem d_Sw_at_20 : decode b_Sw_at 20 = .ok (.goto 4, 3) := by decide +kernel
theorem d_Sw_at_23 : decode b_Sw_at 23 = .ok (.iconst (-1), 1) := by decide +kernel
theorem d_Sw_at_24 : decode b_Sw_at 24 = .ok (.ireturn, 1) := by decide +kernel
theorem wd_227 : (Cond.code ({ cls := "SheetWar$WarMap", name := "has", desc := "(I)Z" } : MethodName) prog_6_method_2_code (2 : Nat) (Option.some FieldType.boolean)) ∈ TB := tb_t 227 (by decide +kernel) (by decide +kernel)
theorem wd_224 : (Cond.methodLink "SheetWar" (71 : Nat) ({ cls := "SheetWar$WarMap", name := "has", desc := "(I)Z" } : MethodName)) ∈ TB := tb_t 224 (by decide +kernel) (by decide +kernel)
theorem wd_225 : (Cond.instanceMethod ({ cls := "SheetWar$WarMap", name := "has", desc := "(I)Z" } : MethodName)) ∈ TB := tb_t 225 (by decide +kernel) (by decide +kernel)
theorem wd_226 : (Cond.selects "SheetWar$WarMap" ({ cls := "SheetWar$WarMap", name := "has", desc := "(I)Z" } : MethodName) ({ cls := "SheetWar$WarMap", name := "has", desc := "(I)Z" } : MethodName)) ∈ TB := tb_t 226 (by decide +kernel) (by decide +kernel)
theorem wd_65 : (Cond.fieldLink "SheetWar" (84 : Nat) "SheetWar$Sheet" "units" "[I") ∈ TB := tb_t 65 (by decide +kernel) (by decide +kernel)
set_option maxHeartbeats 4000000 in
set_option maxRecDepth 100000 in
theorem c_Sw_at (l : Launch) (D : va_G) (cI cZ cJ cS : ClassId) (aT : Nat) (ceT : Cell) (h0 hm hh he ha hp : Nat) (ph : Int32) (qh qn : Nat) (n seas cen : Int32) (tn : Int32) (qu qo qx qy qr qw : Nat) (fu : Nat → Int32) (a : Int32) (hn : n.toInt ≤ 12) : Met l y_Sw_at w_Sw_at ({ frames := 1, cells := 0, slots := 0, locals := 21 }) (tP D cI cZ cJ cS aT ceT [.ref h0, .int a] [(h0, .inr (5, [.ref hm, .ref hh, .ref he, .ref ha, .ref hp, .int ph])), (hm, .inr (4, [.int n, .int seas, .int cen, .ref qh, .ref qn])), (hh, .inr (3, [.int tn, .ref qu, .ref qo, .ref qx, .ref qy, .ref qr, .ref qw])), (qu, .inl (cI, 12, .inl fu))]) (vp_Si (fun r => r = if 0 ≤ a ∧ a < n then fu a.toNatClampNeg else -1)) 0 0 (fun _ => False) := by
  refine Met.ofW (cc := b_Sw_at) (maxL := 2) (ret := (some .int)) (by decide) rfl ?_
  intro p e s m args below meth c s₁ B hml hv
  obtain ⟨rfl, hP, hK, hX⟩ := hv
  have hx := B.exec
  have hb := B.bytes
  have hr := B.returns
  have hts0 := atoms_spec (ws := w_Sw_at) B.pre
  have hts : ∀ w ∈ TB, w.before _ s = true := fun w h => hts0 w (List.mem_cons_of_mem _ h)
  have hown : s.vm.findClass R_Sw = some m.cls := findClass_of_methodNamed B.named
  have hlocks := B.notSynchronized
  have hXH : s.heap[aT]? = s.heap[aT]? := rfl
  have hl := lv_entry ([.ref h0, .int a]) (n := 2) (Nat.le_of_ble_eq_true rfl)
  rw [lg_entry_eq]
  generalize (lg_sl ([.ref h0, .int a]) ++ List.replicate (2 - (lg_sl ([.ref h0, .int a])).length) Slot.unset).toArray = ls at hl ⊢
  have hl : lv_has ls 2 [(0, .ref h0), (1, .int a)] := hl
  refine lv_aload_n hx hb d_Sw_at_0 rfl (lv_at hl 0 rfl) ?_
  refine va_get (D := D) (ci := 5) (v := .ref hm) (C := R_Sw) (T := T_Sw) (N := 6) hx hb hts hin_Sw hown hK hP 0 rfl rfl 0 (by decide) (hts _ wd_201) (fun _ h9 => h9) rfl d_Sw_at_1 ?_
  refine lv_iload_n hx hb d_Sw_at_4 rfl (lv_at hl 1 rfl) ?_
  have hPc := hP.sub (ws' := [(hm, .inr (4, [.int n, .int seas, .int cen, .ref qh, .ref qn]))]) [1] rfl
  refine vp_callSi (va_Run.run (va_runV (As := [.int a]) (rest := []) ⟨hx, hb, hml, hown, hts⟩ (c_Wm_has l D cI cZ cJ cS aT ceT  hm qh qn n seas cen a ) (cwV 1 hts (tb_4 wd_224 wd_225 wd_226 wd_2 (tb_c wd_227)) rfl rfl rfl ⟨rfl, by decide, by decide, by decide +kernel⟩ ⟨Nat.le_of_ble_eq_true rfl, Nat.le_of_ble_eq_true rfl⟩) (tP_V hK hX hXH hPc (q := 0) rfl rfl) rfl rfl hl.1 rfl (lv_room (Nat.le_of_ble_eq_true rfl)) d_Sw_at_5 ⟨Nat.le_of_ble_eq_true rfl, Nat.le_of_ble_eq_true rfl⟩)) (fun r1 hr9 => ?_)
  rcases hr9 with ⟨rfl, hq2⟩ | ⟨rfl, hq2⟩
  · -- 5: true
    refine lv_if_eq (tgt := 23) hx hb d_Sw_at_8 (by decide) (fun h0 => absurd h0 (by decide)) (fun _ => ?_)
    refine lv_aload_n hx hb d_Sw_at_11 rfl (lv_at hl 0 rfl) ?_
    refine va_get (D := D) (ci := 5) (v := .ref hh) (C := R_Sw) (T := T_Sw) (N := 6) hx hb hts hin_Sw hown hK hP 0 rfl rfl 1 (by decide) (hts _ wd_202) (fun _ h9 => h9) rfl d_Sw_at_12 ?_
    refine va_get (D := D) (ci := 3) (v := .ref qu) (C := R_Sh) (T := T_Sh) (N := 7) hx hb hts hin_Sh hown hK hP 2 rfl rfl 1 (by decide) (hts _ wd_65) (fun _ h9 => h9) rfl d_Sw_at_15 ?_
    refine lv_iload_n hx hb d_Sw_at_18 rfl (lv_at hl 1 rfl) ?_
    refine va_iald hx hb hK hP 3 0 rfl rfl (tn_in hn hq2) d_Sw_at_19 ?_
    refine lv_goto (tgt := 24) hx hb d_Sw_at_20 (by decide) ?_
    exact W.iret (v := fu a.toNatClampNeg) hx hb hr (fun t ht hW => ⟨fu a.toNatClampNeg, rfl, by rw [if_pos hq2], ht⟩) (fun q hq => by cases hq) d_Sw_at_24
  · -- 5: false
    refine lv_if_eq (tgt := 23) hx hb d_Sw_at_8 (by decide) (fun _ => ?_) (fun h0 => absurd (by decide) h0)
    refine lv_iconst (v := (-1)) hx hb d_Sw_at_23 (by decide) ?_
    exact W.iret (v := (-1)) hx hb hr (fun t ht hW => ⟨(-1), rfl, by rw [if_neg hq2], ht⟩) (fun q hq => by cases hq) d_Sw_at_24

theorem d_Sw_result_0 : decode b_Sw_result 0 = .ok (.aload_n 0, 1) := by decide +kernel
theorem d_Sw_result_1 : decode b_Sw_result 1 = .ok (.getfield 13, 3) := by decide +kernel
theorem d_Sw_result_4 : decode b_Sw_result 4 = .ok (.iload_n 1, 1) := by decide +kernel
theorem d_Sw_result_5 : decode b_Sw_result 5 = .ok (.invokevirtual 71, 3) := by decide +kernel
theorem d_Sw_result_8 : decode b_Sw_result 8 = .ok (.ifCond .eq 15, 3) := by decide +kernel
theorem d_Sw_result_11 : decode b_Sw_result 11 = .ok (.aload_n 0, 1) := by decide +kernel
theorem d_Sw_result_12 : decode b_Sw_result 12 = .ok (.getfield 19, 3) := by decide +kernel
theorem d_Sw_result_15 : decode b_Sw_result 15 = .ok (.getfield 137, 3) := by decide +kernel
theorem d_Sw_result_18 : decode b_Sw_result 18 = .ok (.iload_n 1, 1) := by decide +kernel
theorem d_Sw_result_19 : decode b_Sw_result 19 = .ok (.iaload, 1) := by decide +kernel
theorem d_Sw_result_20 : decode b_Sw_result 20 = .ok (.goto 4, 3) := by decide +kernel
theorem d_Sw_result_23 : decode b_Sw_result 23 = .ok (.iconst 0, 1) := by decide +kernel
theorem d_Sw_result_24 : decode b_Sw_result 24 = .ok (.ireturn, 1) := by decide +kernel
theorem wd_79 : (Cond.fieldLink "SheetWar" (137 : Nat) "SheetWar$Sheet" "outcomes" "[I") ∈ TB := tb_t 79 (by decide +kernel) (by decide +kernel)
set_option maxHeartbeats 4000000 in
set_option maxRecDepth 100000 in
theorem c_Sw_result (l : Launch) (D : va_G) (cI cZ cJ cS : ClassId) (aT : Nat) (ceT : Cell) (h0 hm hh he ha hp : Nat) (ph : Int32) (qh qn : Nat) (n seas cen : Int32) (tn : Int32) (qu qo qx qy qr qw : Nat) (fu : Nat → Int32) (a : Int32) (hn : n.toInt ≤ 12) : Met l y_Sw_result w_Sw_result ({ frames := 1, cells := 0, slots := 0, locals := 21 }) (tP D cI cZ cJ cS aT ceT [.ref h0, .int a] [(h0, .inr (5, [.ref hm, .ref hh, .ref he, .ref ha, .ref hp, .int ph])), (hm, .inr (4, [.int n, .int seas, .int cen, .ref qh, .ref qn])), (hh, .inr (3, [.int tn, .ref qu, .ref qo, .ref qx, .ref qy, .ref qr, .ref qw])), (qr, .inl (cI, 12, .inl fu))]) (vp_Si (fun r => r = if 0 ≤ a ∧ a < n then fu a.toNatClampNeg else 0)) 0 0 (fun _ => False) := by
  refine Met.ofW (cc := b_Sw_result) (maxL := 2) (ret := (some .int)) (by decide) rfl ?_
  intro p e s m args below meth c s₁ B hml hv
  obtain ⟨rfl, hP, hK, hX⟩ := hv
  have hx := B.exec
  have hb := B.bytes
  have hr := B.returns
  have hts0 := atoms_spec (ws := w_Sw_result) B.pre
  have hts : ∀ w ∈ TB, w.before _ s = true := fun w h => hts0 w (List.mem_cons_of_mem _ h)
  have hown : s.vm.findClass R_Sw = some m.cls := findClass_of_methodNamed B.named
  have hlocks := B.notSynchronized
  have hXH : s.heap[aT]? = s.heap[aT]? := rfl
  have hl := lv_entry ([.ref h0, .int a]) (n := 2) (Nat.le_of_ble_eq_true rfl)
  rw [lg_entry_eq]
  generalize (lg_sl ([.ref h0, .int a]) ++ List.replicate (2 - (lg_sl ([.ref h0, .int a])).length) Slot.unset).toArray = ls at hl ⊢
  have hl : lv_has ls 2 [(0, .ref h0), (1, .int a)] := hl
  refine lv_aload_n hx hb d_Sw_result_0 rfl (lv_at hl 0 rfl) ?_
  refine va_get (D := D) (ci := 5) (v := .ref hm) (C := R_Sw) (T := T_Sw) (N := 6) hx hb hts hin_Sw hown hK hP 0 rfl rfl 0 (by decide) (hts _ wd_201) (fun _ h9 => h9) rfl d_Sw_result_1 ?_
  refine lv_iload_n hx hb d_Sw_result_4 rfl (lv_at hl 1 rfl) ?_
  have hPc := hP.sub (ws' := [(hm, .inr (4, [.int n, .int seas, .int cen, .ref qh, .ref qn]))]) [1] rfl
  refine vp_callSi (va_Run.run (va_runV (As := [.int a]) (rest := []) ⟨hx, hb, hml, hown, hts⟩ (c_Wm_has l D cI cZ cJ cS aT ceT  hm qh qn n seas cen a ) (cwV 1 hts (tb_4 wd_224 wd_225 wd_226 wd_2 (tb_c wd_227)) rfl rfl rfl ⟨rfl, by decide, by decide, by decide +kernel⟩ ⟨Nat.le_of_ble_eq_true rfl, Nat.le_of_ble_eq_true rfl⟩) (tP_V hK hX hXH hPc (q := 0) rfl rfl) rfl rfl hl.1 rfl (lv_room (Nat.le_of_ble_eq_true rfl)) d_Sw_result_5 ⟨Nat.le_of_ble_eq_true rfl, Nat.le_of_ble_eq_true rfl⟩)) (fun r1 hr9 => ?_)
  rcases hr9 with ⟨rfl, hq2⟩ | ⟨rfl, hq2⟩
  · -- 5: true
    refine lv_if_eq (tgt := 23) hx hb d_Sw_result_8 (by decide) (fun h0 => absurd h0 (by decide)) (fun _ => ?_)
    refine lv_aload_n hx hb d_Sw_result_11 rfl (lv_at hl 0 rfl) ?_
    refine va_get (D := D) (ci := 5) (v := .ref hh) (C := R_Sw) (T := T_Sw) (N := 6) hx hb hts hin_Sw hown hK hP 0 rfl rfl 1 (by decide) (hts _ wd_202) (fun _ h9 => h9) rfl d_Sw_result_12 ?_
    refine va_get (D := D) (ci := 3) (v := .ref qr) (C := R_Sh) (T := T_Sh) (N := 7) hx hb hts hin_Sh hown hK hP 2 rfl rfl 5 (by decide) (hts _ wd_79) (fun _ h9 => h9) rfl d_Sw_result_15 ?_
    refine lv_iload_n hx hb d_Sw_result_18 rfl (lv_at hl 1 rfl) ?_
    refine va_iald hx hb hK hP 3 0 rfl rfl (tn_in hn hq2) d_Sw_result_19 ?_
    refine lv_goto (tgt := 24) hx hb d_Sw_result_20 (by decide) ?_
    exact W.iret (v := fu a.toNatClampNeg) hx hb hr (fun t ht hW => ⟨fu a.toNatClampNeg, rfl, by rw [if_pos hq2], ht⟩) (fun q hq => by cases hq) d_Sw_result_24
  · -- 5: false
    refine lv_if_eq (tgt := 23) hx hb d_Sw_result_8 (by decide) (fun _ => ?_) (fun h0 => absurd (by decide) h0)
    refine lv_iconst (v := 0) hx hb d_Sw_result_23 (by decide) ?_
    exact W.iret (v := 0) hx hb hr (fun t ht hW => ⟨0, rfl, by rw [if_neg hq2], ht⟩) (fun q hq => by cases hq) d_Sw_result_24

theorem d_Sw_owner_0 : decode b_Sw_owner 0 = .ok (.aload_n 0, 1) := by decide +kernel
theorem d_Sw_owner_1 : decode b_Sw_owner 1 = .ok (.getfield 13, 3) := by decide +kernel
theorem d_Sw_owner_4 : decode b_Sw_owner 4 = .ok (.iload_n 1, 1) := by decide +kernel
theorem d_Sw_owner_5 : decode b_Sw_owner 5 = .ok (.invokevirtual 71, 3) := by decide +kernel
theorem d_Sw_owner_8 : decode b_Sw_owner 8 = .ok (.ifCond .eq 15, 3) := by decide +kernel
theorem d_Sw_owner_11 : decode b_Sw_owner 11 = .ok (.aload_n 0, 1) := by decide +kernel
theorem d_Sw_owner_12 : decode b_Sw_owner 12 = .ok (.getfield 19, 3) := by decide +kernel
theorem d_Sw_owner_15 : decode b_Sw_owner 15 = .ok (.getfield 63, 3) := by decide +kernel
theorem d_Sw_owner_18 : decode b_Sw_owner 18 = .ok (.iload_n 1, 1) := by decide +kernel
theorem d_Sw_owner_19 : decode b_Sw_owner 19 = .ok (.iaload, 1) := by decide +kernel
theorem d_Sw_owner_20 : decode b_Sw_owner 20 = .ok (.goto 4, 3) := by decide +kernel
theorem d_Sw_owner_23 : decode b_Sw_owner 23 = .ok (.iconst (-1), 1) := by decide +kernel
theorem d_Sw_owner_24 : decode b_Sw_owner 24 = .ok (.ireturn, 1) := by decide +kernel
theorem wd_81 : (Cond.fieldLink "SheetWar" (63 : Nat) "SheetWar$Sheet" "owners" "[I") ∈ TB := tb_t 81 (by decide +kernel) (by decide +kernel)
set_option maxHeartbeats 4000000 in
set_option maxRecDepth 100000 in
theorem c_Sw_owner (l : Launch) (D : va_G) (cI cZ cJ cS : ClassId) (aT : Nat) (ceT : Cell) (h0 hm hh he ha hp : Nat) (ph : Int32) (qh qn : Nat) (n seas cen : Int32) (tn : Int32) (qu qo qx qy qr qw : Nat) (fu : Nat → Int32) (a : Int32) (hn : n.toInt ≤ 12) : Met l y_Sw_owner w_Sw_owner ({ frames := 1, cells := 0, slots := 0, locals := 21 }) (tP D cI cZ cJ cS aT ceT [.ref h0, .int a] [(h0, .inr (5, [.ref hm, .ref hh, .ref he, .ref ha, .ref hp, .int ph])), (hm, .inr (4, [.int n, .int seas, .int cen, .ref qh, .ref qn])), (hh, .inr (3, [.int tn, .ref qu, .ref qo, .ref qx, .ref qy, .ref qr, .ref qw])), (qw, .inl (cI, 12, .inl fu))]) (vp_Si (fun r => r = if 0 ≤ a ∧ a < n then fu a.toNatClampNeg else -1)) 0 0 (fun _ => False) := by
  refine Met.ofW (cc := b_Sw_owner) (maxL := 2) (ret := (some .int)) (by decide) rfl ?_
  intro p e s m args below meth c s₁ B hml hv
  obtain ⟨rfl, hP, hK, hX⟩ := hv
  have hx := B.exec
  have hb := B.bytes
  have hr := B.returns
  have hts0 := atoms_spec (ws := w_Sw_owner) B.pre
  have hts : ∀ w ∈ TB, w.before _ s = true := fun w h => hts0 w (List.mem_cons_of_mem _ h)
  have hown : s.vm.findClass R_Sw = some m.cls := findClass_of_methodNamed B.named
  have hlocks := B.notSynchronized
  have hXH : s.heap[aT]? = s.heap[aT]? := rfl
  have hl := lv_entry ([.ref h0, .int a]) (n := 2) (Nat.le_of_ble_eq_true rfl)
  rw [lg_entry_eq]
  generalize (lg_sl ([.ref h0, .int a]) ++ List.replicate (2 - (lg_sl ([.ref h0, .int a])).length) Slot.unset).toArray = ls at hl ⊢
  have hl : lv_has ls 2 [(0, .ref h0), (1, .int a)] := hl
  refine lv_aload_n hx hb d_Sw_owner_0 rfl (lv_at hl 0 rfl) ?_
  refine va_get (D := D) (ci := 5) (v := .ref hm) (C := R_Sw) (T := T_Sw) (N := 6) hx hb hts hin_Sw hown hK hP 0 rfl rfl 0 (by decide) (hts _ wd_201) (fun _ h9 => h9) rfl d_Sw_owner_1 ?_
  refine lv_iload_n hx hb d_Sw_owner_4 rfl (lv_at hl 1 rfl) ?_
  have hPc := hP.sub (ws' := [(hm, .inr (4, [.int n, .int seas, .int cen, .ref qh, .ref qn]))]) [1] rfl
  refine vp_callSi (va_Run.run (va_runV (As := [.int a]) (rest := []) ⟨hx, hb, hml, hown, hts⟩ (c_Wm_has l D cI cZ cJ cS aT ceT  hm qh qn n seas cen a ) (cwV 1 hts (tb_4 wd_224 wd_225 wd_226 wd_2 (tb_c wd_227)) rfl rfl rfl ⟨rfl, by decide, by decide, by decide +kernel⟩ ⟨Nat.le_of_ble_eq_true rfl, Nat.le_of_ble_eq_true rfl⟩) (tP_V hK hX hXH hPc (q := 0) rfl rfl) rfl rfl hl.1 rfl (lv_room (Nat.le_of_ble_eq_true rfl)) d_Sw_owner_5 ⟨Nat.le_of_ble_eq_true rfl, Nat.le_of_ble_eq_true rfl⟩)) (fun r1 hr9 => ?_)
  rcases hr9 with ⟨rfl, hq2⟩ | ⟨rfl, hq2⟩
  · -- 5: true
    refine lv_if_eq (tgt := 23) hx hb d_Sw_owner_8 (by decide) (fun h0 => absurd h0 (by decide)) (fun _ => ?_)
    refine lv_aload_n hx hb d_Sw_owner_11 rfl (lv_at hl 0 rfl) ?_
    refine va_get (D := D) (ci := 5) (v := .ref hh) (C := R_Sw) (T := T_Sw) (N := 6) hx hb hts hin_Sw hown hK hP 0 rfl rfl 1 (by decide) (hts _ wd_202) (fun _ h9 => h9) rfl d_Sw_owner_12 ?_
    refine va_get (D := D) (ci := 3) (v := .ref qw) (C := R_Sh) (T := T_Sh) (N := 7) hx hb hts hin_Sh hown hK hP 2 rfl rfl 6 (by decide) (hts _ wd_81) (fun _ h9 => h9) rfl d_Sw_owner_15 ?_
    refine lv_iload_n hx hb d_Sw_owner_18 rfl (lv_at hl 1 rfl) ?_
    refine va_iald hx hb hK hP 3 0 rfl rfl (tn_in hn hq2) d_Sw_owner_19 ?_
    refine lv_goto (tgt := 24) hx hb d_Sw_owner_20 (by decide) ?_
    exact W.iret (v := fu a.toNatClampNeg) hx hb hr (fun t ht hW => ⟨fu a.toNatClampNeg, rfl, by rw [if_pos hq2], ht⟩) (fun q hq => by cases hq) d_Sw_owner_24
  · -- 5: false
    refine lv_if_eq (tgt := 23) hx hb d_Sw_owner_8 (by decide) (fun _ => ?_) (fun h0 => absurd (by decide) h0)
    refine lv_iconst (v := (-1)) hx hb d_Sw_owner_23 (by decide) ?_
    exact W.iret (v := (-1)) hx hb hr (fun t ht hW => ⟨(-1), rfl, by rw [if_neg hq2], ht⟩) (fun q hq => by cases hq) d_Sw_owner_24

theorem d_Sw_displaced_0 : decode b_Sw_displaced 0 = .ok (.aload_n 0, 1) := by decide +kernel
theorem d_Sw_displaced_1 : decode b_Sw_displaced 1 = .ok (.getfield 13, 3) := by decide +kernel
theorem d_Sw_displaced_4 : decode b_Sw_displaced 4 = .ok (.iload_n 1, 1) := by decide +kernel
theorem d_Sw_displaced_5 : decode b_Sw_displaced 5 = .ok (.invokevirtual 71, 3) := by decide +kernel
theorem d_Sw_displaced_8 : decode b_Sw_displaced 8 = .ok (.ifCond .eq 15, 3) := by decide +kernel
theorem d_Sw_displaced_11 : decode b_Sw_displaced 11 = .ok (.aload_n 0, 1) := by decide +kernel
theorem d_Sw_displaced_12 : decode b_Sw_displaced 12 = .ok (.getfield 35, 3) := by decide +kernel
theorem d_Sw_displaced_15 : decode b_Sw_displaced 15 = .ok (.getfield 141, 3) := by decide +kernel
theorem d_Sw_displaced_18 : decode b_Sw_displaced 18 = .ok (.iload_n 1, 1) := by decide +kernel
theorem d_Sw_displaced_19 : decode b_Sw_displaced 19 = .ok (.iaload, 1) := by decide +kernel
theorem d_Sw_displaced_20 : decode b_Sw_displaced 20 = .ok (.goto 4, 3) := by decide +kernel
theorem d_Sw_displaced_23 : decode b_Sw_displaced 23 = .ok (.iconst (-1), 1) := by decide +kernel
theorem d_Sw_displaced_24 : decode b_Sw_displaced 24 = .ok (.ireturn, 1) := by decide +kernel
theorem wd_164 : (Cond.fieldLink "SheetWar" (141 : Nat) "SheetWar$Aside" "units" "[I") ∈ TB := tb_t 164 (by decide +kernel) (by decide +kernel)
set_option maxHeartbeats 4000000 in
set_option maxRecDepth 100000 in
theorem c_Sw_displaced (l : Launch) (D : va_G) (cI cZ cJ cS : ClassId) (aT : Nat) (ceT : Cell) (h0 hm hh he ha hp : Nat) (ph : Int32) (qh qn : Nat) (n seas cen : Int32) (au ao ag : Nat) (ac : Int32) (fu : Nat → Int32) (a : Int32) (hn : n.toInt ≤ 12) : Met l y_Sw_displaced w_Sw_displaced ({ frames := 1, cells := 0, slots := 0, locals := 21 }) (tP D cI cZ cJ cS aT ceT [.ref h0, .int a] [(h0, .inr (5, [.ref hm, .ref hh, .ref he, .ref ha, .ref hp, .int ph])), (hm, .inr (4, [.int n, .int seas, .int cen, .ref qh, .ref qn])), (ha, .inr (0, [.ref au, .ref ao, .ref ag, .int ac])), (au, .inl (cI, 12, .inl fu))]) (vp_Si (fun r => r = if 0 ≤ a ∧ a < n then fu a.toNatClampNeg else -1)) 0 0 (fun _ => False) := by
  refine Met.ofW (cc := b_Sw_displaced) (maxL := 2) (ret := (some .int)) (by decide) rfl ?_
  intro p e s m args below meth c s₁ B hml hv
  obtain ⟨rfl, hP, hK, hX⟩ := hv
  have hx := B.exec
  have hb := B.bytes
  have hr := B.returns
  have hts0 := atoms_spec (ws := w_Sw_displaced) B.pre
  have hts : ∀ w ∈ TB, w.before _ s = true := fun w h => hts0 w (List.mem_cons_of_mem _ h)
  have hown : s.vm.findClass R_Sw = some m.cls := findClass_of_methodNamed B.named
  have hlocks := B.notSynchronized
  have hXH : s.heap[aT]? = s.heap[aT]? := rfl
  have hl := lv_entry ([.ref h0, .int a]) (n := 2) (Nat.le_of_ble_eq_true rfl)
  rw [lg_entry_eq]
  generalize (lg_sl ([.ref h0, .int a]) ++ List.replicate (2 - (lg_sl ([.ref h0, .int a])).length) Slot.unset).toArray = ls at hl ⊢
  have hl : lv_has ls 2 [(0, .ref h0), (1, .int a)] := hl
  refine lv_aload_n hx hb d_Sw_displaced_0 rfl (lv_at hl 0 rfl) ?_
  refine va_get (D := D) (ci := 5) (v := .ref hm) (C := R_Sw) (T := T_Sw) (N := 6) hx hb hts hin_Sw hown hK hP 0 rfl rfl 0 (by decide) (hts _ wd_201) (fun _ h9 => h9) rfl d_Sw_displaced_1 ?_
  refine lv_iload_n hx hb d_Sw_displaced_4 rfl (lv_at hl 1 rfl) ?_
  have hPc := hP.sub (ws' := [(hm, .inr (4, [.int n, .int seas, .int cen, .ref qh, .ref qn]))]) [1] rfl
  refine vp_callSi (va_Run.run (va_runV (As := [.int a]) (rest := []) ⟨hx, hb, hml, hown, hts⟩ (c_Wm_has l D cI cZ cJ cS aT ceT  hm qh qn n seas cen a ) (cwV 1 hts (tb_4 wd_224 wd_225 wd_226 wd_2 (tb_c wd_227)) rfl rfl rfl ⟨rfl, by decide, by decide, by decide +kernel⟩ ⟨Nat.le_of_ble_eq_true rfl, Nat.le_of_ble_eq_true rfl⟩) (tP_V hK hX hXH hPc (q := 0) rfl rfl) rfl rfl hl.1 rfl (lv_room (Nat.le_of_ble_eq_true rfl)) d_Sw_displaced_5 ⟨Nat.le_of_ble_eq_true rfl, Nat.le_of_ble_eq_true rfl⟩)) (fun r1 hr9 => ?_)
  rcases hr9 with ⟨rfl, hq2⟩ | ⟨rfl, hq2⟩
  · -- 5: true
    refine lv_if_eq (tgt := 23) hx hb d_Sw_displaced_8 (by decide) (fun h0 => absurd h0 (by decide)) (fun _ => ?_)
    refine lv_aload_n hx hb d_Sw_displaced_11 rfl (lv_at hl 0 rfl) ?_
    refine va_get (D := D) (ci := 5) (v := .ref ha) (C := R_Sw) (T := T_Sw) (N := 6) hx hb hts hin_Sw hown hK hP 0 rfl rfl 3 (by decide) (hts _ wd_204) (fun _ h9 => h9) rfl d_Sw_displaced_12 ?_
    refine va_get (D := D) (ci := 0) (v := .ref au) (C := R_As) (T := T_As) (N := 4) hx hb hts hin_As hown hK hP 2 rfl rfl 0 (by decide) (hts _ wd_164) (fun _ h9 => h9) rfl d_Sw_displaced_15 ?_
    refine lv_iload_n hx hb d_Sw_displaced_18 rfl (lv_at hl 1 rfl) ?_
    refine va_iald hx hb hK hP 3 0 rfl rfl (tn_in hn hq2) d_Sw_displaced_19 ?_
    refine lv_goto (tgt := 24) hx hb d_Sw_displaced_20 (by decide) ?_
    exact W.iret (v := fu a.toNatClampNeg) hx hb hr (fun t ht hW => ⟨fu a.toNatClampNeg, rfl, by rw [if_pos hq2], ht⟩) (fun q hq => by cases hq) d_Sw_displaced_24
  · -- 5: false
    refine lv_if_eq (tgt := 23) hx hb d_Sw_displaced_8 (by decide) (fun _ => ?_) (fun h0 => absurd (by decide) h0)
    refine lv_iconst (v := (-1)) hx hb d_Sw_displaced_23 (by decide) ?_
    exact W.iret (v := (-1)) hx hb hr (fun t ht hW => ⟨(-1), rfl, by rw [if_neg hq2], ht⟩) (fun q hq => by cases hq) d_Sw_displaced_24

theorem d_Sh_hasUnit_0 : decode b_Sh_hasUnit 0 = .ok (.aload_n 0, 1) := by decide +kernel
theorem d_Sh_hasUnit_1 : decode b_Sh_hasUnit 1 = .ok (.getfield 9, 3) := by decide +kernel
theorem d_Sh_hasUnit_4 : decode b_Sh_hasUnit 4 = .ok (.iload_n 1, 1) := by decide +kernel
theorem d_Sh_hasUnit_5 : decode b_Sh_hasUnit 5 = .ok (.iaload, 1) := by decide +kernel
theorem d_Sh_hasUnit_6 : decode b_Sh_hasUnit 6 = .ok (.iconst (-1), 1) := by decide +kernel
theorem d_Sh_hasUnit_7 : decode b_Sh_hasUnit 7 = .ok (.if_icmp .eq 7, 3) := by decide +kernel
theorem d_Sh_hasUnit_10 : decode b_Sh_hasUnit 10 = .ok (.iconst 1, 1) := by decide +kernel
theorem d_Sh_hasUnit_11 : decode b_Sh_hasUnit 11 = .ok (.goto 4, 3) := by decide +kernel
theorem d_Sh_hasUnit_14 : decode b_Sh_hasUnit 14 = .ok (.iconst 0, 1) := by decide +kernel
theorem d_Sh_hasUnit_15 : decode b_Sh_hasUnit 15 = .ok (.ireturn, 1) := by decide +kernel

set_option maxHeartbeats 4000000 in
set_option maxRecDepth 100000 in
theorem c_Sh_hasUnit (l : Launch) (D : va_G) (cI cZ cJ cS : ClassId) (aT : Nat) (ceT : Cell) (h0 : Nat) (tn : Int32) (qu qo qx qy qr qw : Nat) (fu : Nat → Int32) (a : Int32) (hi : vp_in a 12) : Met l y_Sh_hasUnit w_Sh_hasUnit ({ frames := 0, cells := 0, slots := 0, locals := 0 }) (tP D cI cZ cJ cS aT ceT [.ref h0, .int a] [(h0, .inr (3, [.int tn, .ref qu, .ref qo, .ref qx, .ref qy, .ref qr, .ref qw])), (qu, .inl (cI, 12, .inl fu))]) (vp_Si (fun r => (r = 1 ∧ (¬ fu a.toNatClampNeg = -1)) ∨ (r = 0 ∧ ¬ (¬ fu a.toNatClampNeg = -1)))) 0 0 (fun _ => False) := by
  refine Met.ofW (cc := b_Sh_hasUnit) (maxL := 2) (ret := (some .boolean)) (by decide) rfl ?_
  intro p e s m args below meth c s₁ B hml hv
  obtain ⟨rfl, hP, hK, hX⟩ := hv
  have hx := B.exec
  have hb := B.bytes
  have hr := B.returns
  have hts0 := atoms_spec (ws := w_Sh_hasUnit) B.pre
  have hts : ∀ w ∈ TB, w.before _ s = true := fun w h => hts0 w (List.mem_cons_of_mem _ h)
  have hown : s.vm.findClass R_Sh = some m.cls := findClass_of_methodNamed B.named
  have hlocks := B.notSynchronized
  have hXH : s.heap[aT]? = s.heap[aT]? := rfl
  have hl := lv_entry ([.ref h0, .int a]) (n := 2) (Nat.le_of_ble_eq_true rfl)
  rw [lg_entry_eq]
  generalize (lg_sl ([.ref h0, .int a]) ++ List.replicate (2 - (lg_sl ([.ref h0, .int a])).length) Slot.unset).toArray = ls at hl ⊢
  have hl : lv_has ls 2 [(0, .ref h0), (1, .int a)] := hl
  refine lv_aload_n hx hb d_Sh_hasUnit_0 rfl (lv_at hl 0 rfl) ?_
  refine va_get (D := D) (ci := 3) (v := .ref qu) (C := R_Sh) (T := T_Sh) (N := 7) hx hb hts hin_Sh hown hK hP 0 rfl rfl 1 (by decide) (hts _ wd_64) (fun _ h9 => h9) rfl d_Sh_hasUnit_1 ?_
  refine lv_iload_n hx hb d_Sh_hasUnit_4 rfl (lv_at hl 1 rfl) ?_
  refine va_iald hx hb hK hP 1 0 rfl rfl hi d_Sh_hasUnit_5 ?_
  refine lv_iconst (v := (-1)) hx hb d_Sh_hasUnit_6 (by decide) ?_
  refine lv_icmp_eq (tgt := 14) hx hb d_Sh_hasUnit_7 (by decide) (fun hc1 => ?_) (fun hc1 => ?_)
  · -- 7 taken
    refine lv_iconst (v := 0) hx hb d_Sh_hasUnit_14 (by decide) ?_
    exact W.zret (v := 0) hx hb hr (by decide) (fun t ht hW => ⟨0, rfl, Or.inr ⟨rfl, fun h => h hc1⟩, ht⟩) (fun q hq => by cases hq) d_Sh_hasUnit_15
  · -- 7 not taken
    refine lv_iconst (v := 1) hx hb d_Sh_hasUnit_10 (by decide) ?_
    refine lv_goto (tgt := 15) hx hb d_Sh_hasUnit_11 (by decide) ?_
    exact W.zret (v := 1) hx hb hr (by decide) (fun t ht hW => ⟨1, rfl, Or.inl ⟨rfl, hc1⟩, ht⟩) (fun q hq => by cases hq) d_Sh_hasUnit_15

theorem d_Sh_playerAt_0 : decode b_Sh_playerAt 0 = .ok (.aload_n 0, 1) := by decide +kernel
theorem d_Sh_playerAt_1 : decode b_Sh_playerAt 1 = .ok (.getfield 9, 3) := by decide +kernel
theorem d_Sh_playerAt_4 : decode b_Sh_playerAt 4 = .ok (.iload_n 1, 1) := by decide +kernel
theorem d_Sh_playerAt_5 : decode b_Sh_playerAt 5 = .ok (.iaload, 1) := by decide +kernel
theorem d_Sh_playerAt_6 : decode b_Sh_playerAt 6 = .ok (.iconst 2, 1) := by decide +kernel
theorem d_Sh_playerAt_7 : decode b_Sh_playerAt 7 = .ok (.idiv, 1) := by decide +kernel
theorem d_Sh_playerAt_8 : decode b_Sh_playerAt 8 = .ok (.ireturn, 1) := by decide +kernel

set_option maxHeartbeats 4000000 in
set_option maxRecDepth 100000 in
theorem c_Sh_playerAt (l : Launch) (D : va_G) (cI cZ cJ cS : ClassId) (aT : Nat) (ceT : Cell) (h0 : Nat) (tn : Int32) (qu qo qx qy qr qw : Nat) (fu : Nat → Int32) (a : Int32) (hi : vp_in a 12) : Met l y_Sh_playerAt w_Sh_playerAt ({ frames := 0, cells := 0, slots := 0, locals := 0 }) (tP D cI cZ cJ cS aT ceT [.ref h0, .int a] [(h0, .inr (3, [.int tn, .ref qu, .ref qo, .ref qx, .ref qy, .ref qr, .ref qw])), (qu, .inl (cI, 12, .inl fu))]) (vp_Si (fun r => r = fu a.toNatClampNeg / 2)) 0 0 (fun _ => False) := by
  refine Met.ofW (cc := b_Sh_playerAt) (maxL := 2) (ret := (some .int)) (by decide) rfl ?_
  intro p e s m args below meth c s₁ B hml hv
  obtain ⟨rfl, hP, hK, hX⟩ := hv
  have hx := B.exec
  have hb := B.bytes
  have hr := B.returns
  have hts0 := atoms_spec (ws := w_Sh_playerAt) B.pre
  have hts : ∀ w ∈ TB, w.before _ s = true := fun w h => hts0 w (List.mem_cons_of_mem _ h)
  have hown : s.vm.findClass R_Sh = some m.cls := findClass_of_methodNamed B.named
  have hlocks := B.notSynchronized
  have hXH : s.heap[aT]? = s.heap[aT]? := rfl
  have hl := lv_entry ([.ref h0, .int a]) (n := 2) (Nat.le_of_ble_eq_true rfl)
  rw [lg_entry_eq]
  generalize (lg_sl ([.ref h0, .int a]) ++ List.replicate (2 - (lg_sl ([.ref h0, .int a])).length) Slot.unset).toArray = ls at hl ⊢
  have hl : lv_has ls 2 [(0, .ref h0), (1, .int a)] := hl
  refine lv_aload_n hx hb d_Sh_playerAt_0 rfl (lv_at hl 0 rfl) ?_
  refine va_get (D := D) (ci := 3) (v := .ref qu) (C := R_Sh) (T := T_Sh) (N := 7) hx hb hts hin_Sh hown hK hP 0 rfl rfl 1 (by decide) (hts _ wd_64) (fun _ h9 => h9) rfl d_Sh_playerAt_1 ?_
  refine lv_iload_n hx hb d_Sh_playerAt_4 rfl (lv_at hl 1 rfl) ?_
  refine va_iald hx hb hK hP 1 0 rfl rfl hi d_Sh_playerAt_5 ?_
  refine lv_iconst (v := 2) hx hb d_Sh_playerAt_6 (by decide) ?_
  refine lv_idiv hx hb d_Sh_playerAt_7 (by decide) ?_
  exact W.iret (v := (fu a.toNatClampNeg) / 2) hx hb hr (fun t ht hW => ⟨(fu a.toNatClampNeg) / 2, rfl, rfl, ht⟩) (fun q hq => by cases hq) d_Sh_playerAt_8
