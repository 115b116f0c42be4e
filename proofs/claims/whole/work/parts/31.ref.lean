theorem bI_n (b : Bool) : narrow .boolean (.int (bI b)) = .int (bI b) := by cases b <;> decide
/-- a unit that goes from a to b over their border -/
def cGo (Bo S : Nat → Bool) (u : Int32) (a b : Nat) : Bool := Bo (12 * a + b) && (if u - u / 2 * 2 = 0 then !S a && !S b else S a || S b)
def mvs (fu : Nat → Int32) (Kd : Nat → Nat) (a : Nat) : Bool := !decide (fu a < 0) && decide (Kd a = 1)
def mvT (fu : Nat → Int32) (Kd X : Nat → Nat) (a x : Nat) : Bool := mvs fu Kd a && decide (X a = x)
def byS (Bo S : Nat → Bool) (fu : Nat → Int32) (X : Nat → Nat) (a : Nat) : Bool := !cGo Bo S (fu a) a (X a)
def hOn (Bo S : Nat → Bool) (fu : Nat → Int32) (Kd X : Nat → Nat) (a : Nat) : Bool := mvT fu Kd X (X a) a && !byS Bo S fu X a && !byS Bo S fu X (X a)
def spt (fu : Nat → Int32) (Kd : Nat → Nat) (a : Nat) : Bool := !decide (fu a < 0) && decide (Kd a = 2)
def isF (fu : Nat → Int32) (Kd X Y : Nat → Nat) (s a : Nat) : Bool := spt fu Kd s && decide (X s = a) && mvT fu Kd X a (Y s)
def isS (fu : Nat → Int32) (Kd X Y : Nat → Nat) (s a : Nat) : Bool := spt fu Kd s && decide (X s = a) && decide (Y s = a) && !decide (fu a < 0) && !mvs fu Kd a

theorem d_Mo_border2_0 : decode b_Mo_border2 0 = .ok (.aload_n 0, 1) := by decide +kernel
theorem d_Mo_border2_1 : decode b_Mo_border2 1 = .ok (.getfield 20, 3) := by decide +kernel
theorem d_Mo_border2_4 : decode b_Mo_border2 4 = .ok (.bipush 12, 2) := by decide +kernel
theorem d_Mo_border2_6 : decode b_Mo_border2 6 = .ok (.iload_n 1, 1) := by decide +kernel
theorem d_Mo_border2_7 : decode b_Mo_border2 7 = .ok (.imul, 1) := by decide +kernel
theorem d_Mo_border2_8 : decode b_Mo_border2 8 = .ok (.iload_n 2, 1) := by decide +kernel
theorem d_Mo_border2_9 : decode b_Mo_border2 9 = .ok (.iadd, 1) := by decide +kernel
theorem d_Mo_border2_10 : decode b_Mo_border2 10 = .ok (.baload, 1) := by decide +kernel
theorem d_Mo_border2_11 : decode b_Mo_border2 11 = .ok (.ireturn, 1) := by decide +kernel

set_option maxHeartbeats 4000000 in
set_option maxRecDepth 100000 in
theorem c_Mo_border2 (l : Launch) (D : va_G) (cI cZ cJ cS : ClassId) (aT : Nat) (ceT : Cell) (g0 m_sea m_center m_home m_borders m_owner m_units m_kind m_toX m_toY m_results m_known m_reached m_way m_aside m_origin m_retreats m_contested m_moved m_past : Nat) (n : Nat) (co mp mt msh : Int32) (Bo : Nat → Bool) (a : Nat) (b : Nat)  (h_a : a < 12) (h_b : b < 12)  : Met l y_Mo_border2 w_Mo_border2 ({ frames := 0, cells := 0, slots := 0, locals := 0 }) (tP D cI cZ cJ cS aT ceT [.ref g0, .int (nI a), .int (nI b)] [(g0, .inr (6, [.int co, .int (nI n), .ref m_sea, .ref m_center, .ref m_home, .ref m_borders, .int mp, .int mt, .ref m_owner, .ref m_units, .ref m_kind, .ref m_toX, .ref m_toY, .ref m_results, .ref m_known, .ref m_reached, .ref m_way, .ref m_aside, .ref m_origin, .ref m_retreats, .ref m_contested, .ref m_moved, .int msh, .ref m_past])), (m_borders, .inl (cZ, 144, .inl (fun j => bI (Bo j))))]) (vp_Si (fun r => r = bI (Bo (12 * a + b)))) 0 0 (fun _ => False) := by
  refine Met.ofW (cc := b_Mo_border2) (maxL := 3) (ret := (some .boolean)) (by decide) rfl ?_
  intro p e s m args below meth c s₁ B hml hv
  obtain ⟨rfl, hP, hK, hX⟩ := hv
  have hx := B.exec
  have hb := B.bytes
  have hr := B.returns
  have hts0 := atoms_spec (ws := w_Mo_border2) B.pre
  have hts : ∀ w ∈ TB, w.before _ s = true := fun w h => hts0 w (List.mem_cons_of_mem _ h)
  have hown : s.vm.findClass R_Mo = some m.cls := findClass_of_methodNamed B.named
  have hlocks := B.notSynchronized
  have hXH : s.heap[aT]? = s.heap[aT]? := rfl
  have hl := lv_entry ([.ref g0, .int (nI a), .int (nI b)]) (n := 3) (Nat.le_of_ble_eq_true rfl)
  rw [lg_entry_eq]
  generalize (lg_sl ([.ref g0, .int (nI a), .int (nI b)]) ++ List.replicate (3 - (lg_sl ([.ref g0, .int (nI a), .int (nI b)])).length) Slot.unset).toArray = ls at hl ⊢
  have hl : lv_has ls 3 [(0, .ref g0), (1, .int (nI a)), (2, .int (nI b))] := hl
  refine lv_aload_n hx hb d_Mo_border2_0 rfl (lv_at hl 0 rfl) ?_
  refine va_get (D := D) (ci := 6) (v := .ref m_borders) (C := R_Mo) (T := T_Mo) (N := 24) hx hb hts hin_Mo hown hK hP 0 rfl rfl 5 (by decide) (hts _ wd_709) (fun _ h9 => h9) rfl d_Mo_border2_1 ?_
  refine lv_bipush (v := 12) hx hb d_Mo_border2_4 (by decide) ?_
  refine lv_iload_n hx hb d_Mo_border2_6 rfl (lv_at hl 1 rfl) ?_
  refine lv_imul hx hb d_Mo_border2_7 ?_
  refine tr_top (y := nI (12 * a)) (pk_mul 12 a) ?_
  refine lv_iload_n hx hb d_Mo_border2_8 rfl (lv_at hl 2 rfl) ?_
  refine lv_iadd hx hb d_Mo_border2_9 ?_
  refine tr_top (y := nI ((12 * a) + b)) (nI_add (12 * a) b) ?_
  refine tr_zald (v := bI (Bo ((12 * a) + b))) hx hb hK hP 1 1 rfl rfl ((12 * a) + b) (by omega) (by decide) rfl d_Mo_border2_10 ?_
  exact W.zret (v := bI (Bo ((12 * a) + b))) hx hb hr (bI_n _) (fun t ht hW => ⟨bI (Bo ((12 * a) + b)), rfl, congrArg bI (by simp []), ht⟩) (fun q hq => by cases hq) d_Mo_border2_11

theorem d_Mo_canGo_0 : decode b_Mo_canGo 0 = .ok (.aload_n 0, 1) := by decide +kernel
theorem d_Mo_canGo_1 : decode b_Mo_canGo 1 = .ok (.iload_n 2, 1) := by decide +kernel
theorem d_Mo_canGo_2 : decode b_Mo_canGo 2 = .ok (.iload_n 3, 1) := by decide +kernel
theorem d_Mo_canGo_3 : decode b_Mo_canGo 3 = .ok (.invokevirtual 82, 3) := by decide +kernel
theorem d_Mo_canGo_6 : decode b_Mo_canGo 6 = .ok (.ifCond .eq 52, 3) := by decide +kernel
theorem d_Mo_canGo_9 : decode b_Mo_canGo 9 = .ok (.iload_n 1, 1) := by decide +kernel
theorem d_Mo_canGo_10 : decode b_Mo_canGo 10 = .ok (.iconst 2, 1) := by decide +kernel
theorem d_Mo_canGo_11 : decode b_Mo_canGo 11 = .ok (.irem, 1) := by decide +kernel
theorem d_Mo_canGo_12 : decode b_Mo_canGo 12 = .ok (.ifCond .ne 24, 3) := by decide +kernel
theorem d_Mo_canGo_15 : decode b_Mo_canGo 15 = .ok (.aload_n 0, 1) := by decide +kernel
theorem d_Mo_canGo_16 : decode b_Mo_canGo 16 = .ok (.getfield 7, 3) := by decide +kernel
theorem d_Mo_canGo_19 : decode b_Mo_canGo 19 = .ok (.iload_n 2, 1) := by decide +kernel
theorem d_Mo_canGo_20 : decode b_Mo_canGo 20 = .ok (.baload, 1) := by decide +kernel
theorem d_Mo_canGo_21 : decode b_Mo_canGo 21 = .ok (.ifCond .ne 37, 3) := by decide +kernel
theorem d_Mo_canGo_24 : decode b_Mo_canGo 24 = .ok (.aload_n 0, 1) := by decide +kernel
theorem d_Mo_canGo_25 : decode b_Mo_canGo 25 = .ok (.getfield 7, 3) := by decide +kernel
theorem d_Mo_canGo_28 : decode b_Mo_canGo 28 = .ok (.iload_n 3, 1) := by decide +kernel
theorem d_Mo_canGo_29 : decode b_Mo_canGo 29 = .ok (.baload, 1) := by decide +kernel
theorem d_Mo_canGo_30 : decode b_Mo_canGo 30 = .ok (.ifCond .ne 28, 3) := by decide +kernel
theorem d_Mo_canGo_33 : decode b_Mo_canGo 33 = .ok (.goto 21, 3) := by decide +kernel
theorem d_Mo_canGo_36 : decode b_Mo_canGo 36 = .ok (.aload_n 0, 1) := by decide +kernel
theorem d_Mo_canGo_37 : decode b_Mo_canGo 37 = .ok (.getfield 7, 3) := by decide +kernel
theorem d_Mo_canGo_40 : decode b_Mo_canGo 40 = .ok (.iload_n 2, 1) := by decide +kernel
theorem d_Mo_canGo_41 : decode b_Mo_canGo 41 = .ok (.baload, 1) := by decide +kernel
theorem d_Mo_canGo_42 : decode b_Mo_canGo 42 = .ok (.ifCond .ne 12, 3) := by decide +kernel
theorem d_Mo_canGo_45 : decode b_Mo_canGo 45 = .ok (.aload_n 0, 1) := by decide +kernel
theorem d_Mo_canGo_46 : decode b_Mo_canGo 46 = .ok (.getfield 7, 3) := by decide +kernel
theorem d_Mo_canGo_49 : decode b_Mo_canGo 49 = .ok (.iload_n 3, 1) := by decide +kernel
theorem d_Mo_canGo_50 : decode b_Mo_canGo 50 = .ok (.baload, 1) := by decide +kernel
theorem d_Mo_canGo_51 : decode b_Mo_canGo 51 = .ok (.ifCond .eq 7, 3) := by decide +kernel
theorem d_Mo_canGo_54 : decode b_Mo_canGo 54 = .ok (.iconst 1, 1) := by decide +kernel
theorem d_Mo_canGo_55 : decode b_Mo_canGo 55 = .ok (.goto 4, 3) := by decide +kernel
theorem d_Mo_canGo_58 : decode b_Mo_canGo 58 = .ok (.iconst 0, 1) := by decide +kernel
theorem d_Mo_canGo_59 : decode b_Mo_canGo 59 = .ok (.ireturn, 1) := by decide +kernel
theorem wd_797 : (Cond.code ({ cls := "SheetWarModel", name := "border2", desc := "(II)Z" } : MethodName) prog_8_method_5_code (3 : Nat) (Option.some FieldType.boolean)) ∈ TB := tb_t 797 (by decide +kernel) (by decide +kernel)
theorem wd_794 : (Cond.methodLink "SheetWarModel" (82 : Nat) ({ cls := "SheetWarModel", name := "border2", desc := "(II)Z" } : MethodName)) ∈ TB := tb_t 794 (by decide +kernel) (by decide +kernel)
theorem wd_796 : (Cond.instanceMethod ({ cls := "SheetWarModel", name := "border2", desc := "(II)Z" } : MethodName)) ∈ TB := tb_t 796 (by decide +kernel) (by decide +kernel)
theorem wp_37 : Cond.selects "SheetWarModel" ⟨"SheetWarModel", "border2", "(II)Z"⟩ ⟨"SheetWarModel", "border2", "(II)Z"⟩ ∈ TB := tb_p 37 (by decide +kernel) (by decide +kernel)
set_option maxHeartbeats 4000000 in
set_option maxRecDepth 100000 in
theorem c_Mo_canGo (l : Launch) (D : va_G) (cI cZ cJ cS : ClassId) (aT : Nat) (ceT : Cell) (g0 m_sea m_center m_home m_borders m_owner m_units m_kind m_toX m_toY m_results m_known m_reached m_way m_aside m_origin m_retreats m_contested m_moved m_past : Nat) (n : Nat) (co mp mt msh : Int32) (S : Nat → Bool) (Bo : Nat → Bool) (a : Nat) (b : Nat) (u : Int32)  (h_a : a < 12) (h_b : b < 12)  : Met l y_Mo_canGo w_Mo_canGo ({ frames := 1, cells := 0, slots := 0, locals := 22 }) (tP D cI cZ cJ cS aT ceT [.ref g0, .int u, .int (nI a), .int (nI b)] [(g0, .inr (6, [.int co, .int (nI n), .ref m_sea, .ref m_center, .ref m_home, .ref m_borders, .int mp, .int mt, .ref m_owner, .ref m_units, .ref m_kind, .ref m_toX, .ref m_toY, .ref m_results, .ref m_known, .ref m_reached, .ref m_way, .ref m_aside, .ref m_origin, .ref m_retreats, .ref m_contested, .ref m_moved, .int msh, .ref m_past])), (m_sea, .inl (cZ, 12, .inl (fun j => bI (S j)))), (m_borders, .inl (cZ, 144, .inl (fun j => bI (Bo j))))]) (vp_Si (fun r => r = bI (cGo Bo S u a b))) 0 0 (fun _ => False) := by
  refine Met.ofW (cc := b_Mo_canGo) (maxL := 4) (ret := (some .boolean)) (by decide) rfl ?_
  intro p e s m args below meth c s₁ B hml hv
  obtain ⟨rfl, hP, hK, hX⟩ := hv
  have hx := B.exec
  have hb := B.bytes
  have hr := B.returns
  have hts0 := atoms_spec (ws := w_Mo_canGo) B.pre
  have hts : ∀ w ∈ TB, w.before _ s = true := fun w h => hts0 w (List.mem_cons_of_mem _ h)
  have hown : s.vm.findClass R_Mo = some m.cls := findClass_of_methodNamed B.named
  have hlocks := B.notSynchronized
  have hXH : s.heap[aT]? = s.heap[aT]? := rfl
  have hl := lv_entry ([.ref g0, .int u, .int (nI a), .int (nI b)]) (n := 4) (Nat.le_of_ble_eq_true rfl)
  rw [lg_entry_eq]
  generalize (lg_sl ([.ref g0, .int u, .int (nI a), .int (nI b)]) ++ List.replicate (4 - (lg_sl ([.ref g0, .int u, .int (nI a), .int (nI b)])).length) Slot.unset).toArray = ls at hl ⊢
  have hl : lv_has ls 4 [(0, .ref g0), (1, .int u), (2, .int (nI a)), (3, .int (nI b))] := hl
  refine lv_aload_n hx hb d_Mo_canGo_0 rfl (lv_at hl 0 rfl) ?_
  refine lv_iload_n hx hb d_Mo_canGo_1 rfl (lv_at hl 2 rfl) ?_
  refine lv_iload_n hx hb d_Mo_canGo_2 rfl (lv_at hl 3 rfl) ?_
  have hPc := hP.sub (ws' := [(g0, .inr (6, [.int co, .int (nI n), .ref m_sea, .ref m_center, .ref m_home, .ref m_borders, .int mp, .int mt, .ref m_owner, .ref m_units, .ref m_kind, .ref m_toX, .ref m_toY, .ref m_results, .ref m_known, .ref m_reached, .ref m_way, .ref m_aside, .ref m_origin, .ref m_retreats, .ref m_contested, .ref m_moved, .int msh, .ref m_past])), (m_borders, .inl (cZ, 144, .inl (fun j => bI (Bo j))))]) [0, 2] rfl
  refine vp_callSi (va_Run.run (va_runV (As := [.int (nI a), .int (nI b)]) (rest := []) ⟨hx, hb, hml, hown, hts⟩ (c_Mo_border2 l D cI cZ cJ cS aT ceT  g0 m_sea m_center m_home m_borders m_owner m_units m_kind m_toX m_toY m_results m_known m_reached m_way m_aside m_origin m_retreats m_contested m_moved m_past n co mp mt msh Bo a b h_a h_b) (cwV 2 hts (tb_4 wd_794 wd_796 wp_37 wd_8 (tb_c wd_797)) rfl rfl rfl ⟨rfl, by decide, by decide, by decide +kernel⟩ ⟨Nat.le_of_ble_eq_true rfl, Nat.le_of_ble_eq_true rfl⟩) (tP_V hK hX hXH hPc (q := 0) rfl rfl) rfl rfl hl.1 rfl (lv_room (Nat.le_of_ble_eq_true rfl)) d_Mo_canGo_3 ⟨Nat.le_of_ble_eq_true rfl, Nat.le_of_ble_eq_true rfl⟩)) (fun r1 hr9 => ?_)
  rw [hr9]
  rcases bI_c (Bo (12 * a + b)) with ⟨hb3, e9⟩ | ⟨hb3, e9⟩
  · refine tr_top e9 ?_
    refine lv_if_eq (tgt := 58) hx hb d_Mo_canGo_6 (by decide) (fun h0 => absurd h0 (by decide)) (fun _ => ?_)
    refine lv_iload_n hx hb d_Mo_canGo_9 rfl (lv_at hl 1 rfl) ?_
    refine lv_iconst (v := 2) hx hb d_Mo_canGo_10 (by decide) ?_
    refine lv_irem hx hb d_Mo_canGo_11 (by decide) ?_
    refine lv_if_ne (tgt := 36) hx hb d_Mo_canGo_12 (by decide) (fun hc5 => ?_) (fun hc5 => ?_)
    · -- 12 taken
      refine lv_aload_n hx hb d_Mo_canGo_36 rfl (lv_at hl 0 rfl) ?_
      refine va_get (D := D) (ci := 6) (v := .ref m_sea) (C := R_Mo) (T := T_Mo) (N := 24) hx hb hts hin_Mo hown hK hP 0 rfl rfl 2 (by decide) (hts _ wd_706) (fun _ h9 => h9) rfl d_Mo_canGo_37 ?_
      refine lv_iload_n hx hb d_Mo_canGo_40 rfl (lv_at hl 2 rfl) ?_
      refine tr_zald (v := bI (S a)) hx hb hK hP 1 1 rfl rfl a h_a (by decide) rfl d_Mo_canGo_41 ?_
      rcases bI_c (S a) with ⟨hb7, e9⟩ | ⟨hb7, e9⟩
      · refine tr_top e9 ?_
        refine lv_if_ne (tgt := 54) hx hb d_Mo_canGo_42 (by decide) (fun _ => ?_) (fun h0 => absurd h0 (by decide))
        refine lv_iconst (v := 1) hx hb d_Mo_canGo_54 (by decide) ?_
        refine lv_goto (tgt := 59) hx hb d_Mo_canGo_55 (by decide) ?_
        exact W.zret (v := 1) hx hb hr (by decide) (fun t ht hW => ⟨1, rfl, (bI_t (by simp [cGo, hb3, hc5, hb7])).symm, ht⟩) (fun q hq => by cases hq) d_Mo_canGo_59
      · refine tr_top e9 ?_
        refine lv_if_ne (tgt := 54) hx hb d_Mo_canGo_42 (by decide) (fun h0 => absurd (by decide) h0) (fun _ => ?_)
        refine lv_aload_n hx hb d_Mo_canGo_45 rfl (lv_at hl 0 rfl) ?_
        refine va_get (D := D) (ci := 6) (v := .ref m_sea) (C := R_Mo) (T := T_Mo) (N := 24) hx hb hts hin_Mo hown hK hP 0 rfl rfl 2 (by decide) (hts _ wd_706) (fun _ h9 => h9) rfl d_Mo_canGo_46 ?_
        refine lv_iload_n hx hb d_Mo_canGo_49 rfl (lv_at hl 3 rfl) ?_
        refine tr_zald (v := bI (S b)) hx hb hK hP 1 1 rfl rfl b h_b (by decide) rfl d_Mo_canGo_50 ?_
        rcases bI_c (S b) with ⟨hb11, e9⟩ | ⟨hb11, e9⟩
        · refine tr_top e9 ?_
          refine lv_if_eq (tgt := 58) hx hb d_Mo_canGo_51 (by decide) (fun h0 => absurd h0 (by decide)) (fun _ => ?_)
          refine lv_iconst (v := 1) hx hb d_Mo_canGo_54 (by decide) ?_
          refine lv_goto (tgt := 59) hx hb d_Mo_canGo_55 (by decide) ?_
          exact W.zret (v := 1) hx hb hr (by decide) (fun t ht hW => ⟨1, rfl, (bI_t (by simp [cGo, hb3, hc5, hb7, hb11])).symm, ht⟩) (fun q hq => by cases hq) d_Mo_canGo_59
        · refine tr_top e9 ?_
          refine lv_if_eq (tgt := 58) hx hb d_Mo_canGo_51 (by decide) (fun _ => ?_) (fun h0 => absurd (by decide) h0)
          refine lv_iconst (v := 0) hx hb d_Mo_canGo_58 (by decide) ?_
          exact W.zret (v := 0) hx hb hr (by decide) (fun t ht hW => ⟨0, rfl, (bI_f (by simp [cGo, hb3, hc5, hb7, hb11])).symm, ht⟩) (fun q hq => by cases hq) d_Mo_canGo_59
    · -- 12 not taken
      refine lv_aload_n hx hb d_Mo_canGo_15 rfl (lv_at hl 0 rfl) ?_
      refine va_get (D := D) (ci := 6) (v := .ref m_sea) (C := R_Mo) (T := T_Mo) (N := 24) hx hb hts hin_Mo hown hK hP 0 rfl rfl 2 (by decide) (hts _ wd_706) (fun _ h9 => h9) rfl d_Mo_canGo_16 ?_
      refine lv_iload_n hx hb d_Mo_canGo_19 rfl (lv_at hl 2 rfl) ?_
      refine tr_zald (v := bI (S a)) hx hb hK hP 1 1 rfl rfl a h_a (by decide) rfl d_Mo_canGo_20 ?_
      rcases bI_c (S a) with ⟨hb15, e9⟩ | ⟨hb15, e9⟩
      · refine tr_top e9 ?_
        refine lv_if_ne (tgt := 58) hx hb d_Mo_canGo_21 (by decide) (fun _ => ?_) (fun h0 => absurd h0 (by decide))
        refine lv_iconst (v := 0) hx hb d_Mo_canGo_58 (by decide) ?_
        exact W.zret (v := 0) hx hb hr (by decide) (fun t ht hW => ⟨0, rfl, (bI_f (by simp [cGo, hb3, hc5, hb15])).symm, ht⟩) (fun q hq => by cases hq) d_Mo_canGo_59
      · refine tr_top e9 ?_
        refine lv_if_ne (tgt := 58) hx hb d_Mo_canGo_21 (by decide) (fun h0 => absurd (by decide) h0) (fun _ => ?_)
        refine lv_aload_n hx hb d_Mo_canGo_24 rfl (lv_at hl 0 rfl) ?_
        refine va_get (D := D) (ci := 6) (v := .ref m_sea) (C := R_Mo) (T := T_Mo) (N := 24) hx hb hts hin_Mo hown hK hP 0 rfl rfl 2 (by decide) (hts _ wd_706) (fun _ h9 => h9) rfl d_Mo_canGo_25 ?_
        refine lv_iload_n hx hb d_Mo_canGo_28 rfl (lv_at hl 3 rfl) ?_
        refine tr_zald (v := bI (S b)) hx hb hK hP 1 1 rfl rfl b h_b (by decide) rfl d_Mo_canGo_29 ?_
        rcases bI_c (S b) with ⟨hb19, e9⟩ | ⟨hb19, e9⟩
        · refine tr_top e9 ?_
          refine lv_if_ne (tgt := 58) hx hb d_Mo_canGo_30 (by decide) (fun _ => ?_) (fun h0 => absurd h0 (by decide))
          refine lv_iconst (v := 0) hx hb d_Mo_canGo_58 (by decide) ?_
          exact W.zret (v := 0) hx hb hr (by decide) (fun t ht hW => ⟨0, rfl, (bI_f (by simp [cGo, hb3, hc5, hb15, hb19])).symm, ht⟩) (fun q hq => by cases hq) d_Mo_canGo_59
        · refine tr_top e9 ?_
          refine lv_if_ne (tgt := 58) hx hb d_Mo_canGo_30 (by decide) (fun h0 => absurd (by decide) h0) (fun _ => ?_)
          refine lv_goto (tgt := 54) hx hb d_Mo_canGo_33 (by decide) ?_
          refine lv_iconst (v := 1) hx hb d_Mo_canGo_54 (by decide) ?_
          refine lv_goto (tgt := 59) hx hb d_Mo_canGo_55 (by decide) ?_
          exact W.zret (v := 1) hx hb hr (by decide) (fun t ht hW => ⟨1, rfl, (bI_t (by simp [cGo, hb3, hc5, hb15, hb19])).symm, ht⟩) (fun q hq => by cases hq) d_Mo_canGo_59
  · refine tr_top e9 ?_
    refine lv_if_eq (tgt := 58) hx hb d_Mo_canGo_6 (by decide) (fun _ => ?_) (fun h0 => absurd (by decide) h0)
    refine lv_iconst (v := 0) hx hb d_Mo_canGo_58 (by decide) ?_
    exact W.zret (v := 0) hx hb hr (by decide) (fun t ht hW => ⟨0, rfl, (bI_f (by simp [cGo, hb3])).symm, ht⟩) (fun q hq => by cases hq) d_Mo_canGo_59

theorem d_Mo_moves_0 : decode b_Mo_moves 0 = .ok (.aload_n 0, 1) := by decide +kernel
theorem d_Mo_moves_1 : decode b_Mo_moves 1 = .ok (.getfield 26, 3) := by decide +kernel
theorem d_Mo_moves_4 : decode b_Mo_moves 4 = .ok (.iload_n 1, 1) := by decide +kernel
theorem d_Mo_moves_5 : decode b_Mo_moves 5 = .ok (.iaload, 1) := by decide +kernel
theorem d_Mo_moves_6 : decode b_Mo_moves 6 = .ok (.ifCond .lt 17, 3) := by decide +kernel
theorem d_Mo_moves_9 : decode b_Mo_moves 9 = .ok (.aload_n 0, 1) := by decide +kernel
theorem d_Mo_moves_10 : decode b_Mo_moves 10 = .ok (.getfield 29, 3) := by decide +kernel
theorem d_Mo_moves_13 : decode b_Mo_moves 13 = .ok (.iload_n 1, 1) := by decide +kernel
theorem d_Mo_moves_14 : decode b_Mo_moves 14 = .ok (.iaload, 1) := by decide +kernel
theorem d_Mo_moves_15 : decode b_Mo_moves 15 = .ok (.iconst 1, 1) := by decide +kernel
theorem d_Mo_moves_16 : decode b_Mo_moves 16 = .ok (.if_icmp .ne 7, 3) := by decide +kernel
theorem d_Mo_moves_19 : decode b_Mo_moves 19 = .ok (.iconst 1, 1) := by decide +kernel
theorem d_Mo_moves_20 : decode b_Mo_moves 20 = .ok (.goto 4, 3) := by decide +kernel
theorem d_Mo_moves_23 : decode b_Mo_moves 23 = .ok (.iconst 0, 1) := by decide +kernel
theorem d_Mo_moves_24 : decode b_Mo_moves 24 = .ok (.ireturn, 1) := by decide +kernel

set_option maxHeartbeats 4000000 in
set_option maxRecDepth 100000 in
theorem c_Mo_moves (l : Launch) (D : va_G) (cI cZ cJ cS : ClassId) (aT : Nat) (ceT : Cell) (g0 m_sea m_center m_home m_borders m_owner m_units m_kind m_toX m_toY m_results m_known m_reached m_way m_aside m_origin m_retreats m_contested m_moved m_past : Nat) (n : Nat) (co mp mt msh : Int32) (fu : Nat → Int32) (Kd : Nat → Nat) (a : Nat) (hKd : ∀ j, Kd j < 4) (h_a : a < 12)  : Met l y_Mo_moves w_Mo_moves ({ frames := 0, cells := 0, slots := 0, locals := 0 }) (tP D cI cZ cJ cS aT ceT [.ref g0, .int (nI a)] [(g0, .inr (6, [.int co, .int (nI n), .ref m_sea, .ref m_center, .ref m_home, .ref m_borders, .int mp, .int mt, .ref m_owner, .ref m_units, .ref m_kind, .ref m_toX, .ref m_toY, .ref m_results, .ref m_known, .ref m_reached, .ref m_way, .ref m_aside, .ref m_origin, .ref m_retreats, .ref m_contested, .ref m_moved, .int msh, .ref m_past])), (m_units, .inl (cI, 12, .inl fu)), (m_kind, .inl (cI, 12, .inl (fun j => nI (Kd j))))]) (vp_Si (fun r => r = bI (mvs fu Kd a))) 0 0 (fun _ => False) := by
  refine Met.ofW (cc := b_Mo_moves) (maxL := 2) (ret := (some .boolean)) (by decide) rfl ?_
  intro p e s m args below meth c s₁ B hml hv
  obtain ⟨rfl, hP, hK, hX⟩ := hv
  have hx := B.exec
  have hb := B.bytes
  have hr := B.returns
  have hts0 := atoms_spec (ws := w_Mo_moves) B.pre
  have hts : ∀ w ∈ TB, w.before _ s = true := fun w h => hts0 w (List.mem_cons_of_mem _ h)
  have hown : s.vm.findClass R_Mo = some m.cls := findClass_of_methodNamed B.named
  have hlocks := B.notSynchronized
  have hXH : s.heap[aT]? = s.heap[aT]? := rfl
  have hl := lv_entry ([.ref g0, .int (nI a)]) (n := 2) (Nat.le_of_ble_eq_true rfl)
  rw [lg_entry_eq]
  generalize (lg_sl ([.ref g0, .int (nI a)]) ++ List.replicate (2 - (lg_sl ([.ref g0, .int (nI a)])).length) Slot.unset).toArray = ls at hl ⊢
  have hl : lv_has ls 2 [(0, .ref g0), (1, .int (nI a))] := hl
  refine lv_aload_n hx hb d_Mo_moves_0 rfl (lv_at hl 0 rfl) ?_
  refine va_get (D := D) (ci := 6) (v := .ref m_units) (C := R_Mo) (T := T_Mo) (N := 24) hx hb hts hin_Mo hown hK hP 0 rfl rfl 9 (by decide) (hts _ wd_713) (fun _ h9 => h9) rfl d_Mo_moves_1 ?_
  refine lv_iload_n hx hb d_Mo_moves_4 rfl (lv_at hl 1 rfl) ?_
  refine tr_iald (v := fu a) hx hb hK hP 1 0 rfl rfl a h_a (by decide) rfl d_Mo_moves_5 ?_
  refine lv_if_lt (tgt := 23) hx hb d_Mo_moves_6 (by decide) (fun hc1 => ?_) (fun hc1 => ?_)
  · -- 6 taken
    refine lv_iconst (v := 0) hx hb d_Mo_moves_23 (by decide) ?_
    exact W.zret (v := 0) hx hb hr (by decide) (fun t ht hW => ⟨0, rfl, (bI_f (by simp [mvs, hc1])).symm, ht⟩) (fun q hq => by cases hq) d_Mo_moves_24
  · -- 6 not taken
    refine lv_aload_n hx hb d_Mo_moves_9 rfl (lv_at hl 0 rfl) ?_
    refine va_get (D := D) (ci := 6) (v := .ref m_kind) (C := R_Mo) (T := T_Mo) (N := 24) hx hb hts hin_Mo hown hK hP 0 rfl rfl 10 (by decide) (hts _ wd_714) (fun _ h9 => h9) rfl d_Mo_moves_10 ?_
    refine lv_iload_n hx hb d_Mo_moves_13 rfl (lv_at hl 1 rfl) ?_
    refine tr_iald (v := nI (Kd a)) hx hb hK hP 2 0 rfl rfl a h_a (by decide) rfl d_Mo_moves_14 ?_
    refine lv_iconst (v := 1) hx hb d_Mo_moves_15 (by decide) ?_
    refine lv_icmp_ne (tgt := 23) hx hb d_Mo_moves_16 (by decide) (fun hc2 => ?_) (fun hc2 => ?_)
    · -- 16 taken
      have hc2 : ¬ Kd a = 1 := fun h9 => hc2 (congrArg nI h9)
      refine lv_iconst (v := 0) hx hb d_Mo_moves_23 (by decide) ?_
      exact W.zret (v := 0) hx hb hr (by decide) (fun t ht hW => ⟨0, rfl, (bI_f (by simp [mvs, hc1, hc2])).symm, ht⟩) (fun q hq => by cases hq) d_Mo_moves_24
    · -- 16 not taken
      have hc2 : Kd a = 1 := (nI_lit (Nat.lt_trans (hKd _) (by decide)) (by decide)).mp hc2
      refine lv_iconst (v := 1) hx hb d_Mo_moves_19 (by decide) ?_
      refine lv_goto (tgt := 24) hx hb d_Mo_moves_20 (by decide) ?_
      exact W.zret (v := 1) hx hb hr (by decide) (fun t ht hW => ⟨1, rfl, (bI_t (by simp [mvs, hc1, hc2])).symm, ht⟩) (fun q hq => by cases hq) d_Mo_moves_24

theorem d_Mo_movesTo_0 : decode b_Mo_movesTo 0 = .ok (.aload_n 0, 1) := by decide +kernel
theorem d_Mo_movesTo_1 : decode b_Mo_movesTo 1 = .ok (.iload_n 1, 1) := by decide +kernel
theorem d_Mo_movesTo_2 : decode b_Mo_movesTo 2 = .ok (.invokevirtual 109, 3) := by decide +kernel
theorem d_Mo_movesTo_5 : decode b_Mo_movesTo 5 = .ok (.ifCond .eq 17, 3) := by decide +kernel
theorem d_Mo_movesTo_8 : decode b_Mo_movesTo 8 = .ok (.aload_n 0, 1) := by decide +kernel
theorem d_Mo_movesTo_9 : decode b_Mo_movesTo 9 = .ok (.getfield 32, 3) := by decide +kernel
theorem d_Mo_movesTo_12 : decode b_Mo_movesTo 12 = .ok (.iload_n 1, 1) := by decide +kernel
theorem d_Mo_movesTo_13 : decode b_Mo_movesTo 13 = .ok (.iaload, 1) := by decide +kernel
theorem d_Mo_movesTo_14 : decode b_Mo_movesTo 14 = .ok (.iload_n 2, 1) := by decide +kernel
theorem d_Mo_movesTo_15 : decode b_Mo_movesTo 15 = .ok (.if_icmp .ne 7, 3) := by decide +kernel
theorem d_Mo_movesTo_18 : decode b_Mo_movesTo 18 = .ok (.iconst 1, 1) := by decide +kernel
theorem d_Mo_movesTo_19 : decode b_Mo_movesTo 19 = .ok (.goto 4, 3) := by decide +kernel
theorem d_Mo_movesTo_22 : decode b_Mo_movesTo 22 = .ok (.iconst 0, 1) := by decide +kernel
theorem d_Mo_movesTo_23 : decode b_Mo_movesTo 23 = .ok (.ireturn, 1) := by decide +kernel
theorem wd_856 : (Cond.code ({ cls := "SheetWarModel", name := "moves", desc := "(I)Z" } : MethodName) prog_8_method_16_code (2 : Nat) (Option.some FieldType.boolean)) ∈ TB := tb_t 856 (by decide +kernel) (by decide +kernel)
theorem wd_853 : (Cond.methodLink "SheetWarModel" (109 : Nat) ({ cls := "SheetWarModel", name := "moves", desc := "(I)Z" } : MethodName)) ∈ TB := tb_t 853 (by decide +kernel) (by decide +kernel)
theorem wd_855 : (Cond.instanceMethod ({ cls := "SheetWarModel", name := "moves", desc := "(I)Z" } : MethodName)) ∈ TB := tb_t 855 (by decide +kernel) (by decide +kernel)
theorem wp_47 : Cond.selects "SheetWarModel" ⟨"SheetWarModel", "moves", "(I)Z"⟩ ⟨"SheetWarModel", "moves", "(I)Z"⟩ ∈ TB := tb_p 47 (by decide +kernel) (by decide +kernel)
set_option maxHeartbeats 4000000 in
set_option maxRecDepth 100000 in
theorem c_Mo_movesTo (l : Launch) (D : va_G) (cI cZ cJ cS : ClassId) (aT : Nat) (ceT : Cell) (g0 m_sea m_center m_home m_borders m_owner m_units m_kind m_toX m_toY m_results m_known m_reached m_way m_aside m_origin m_retreats m_contested m_moved m_past : Nat) (n : Nat) (co mp mt msh : Int32) (fu : Nat → Int32) (Kd : Nat → Nat) (X : Nat → Nat) (a : Nat) (x : Nat) (hKd : ∀ j, Kd j < 4) (hX9 : ∀ j, X j < 12) (h_a : a < 12) (h_x : x < 12)  : Met l y_Mo_movesTo w_Mo_movesTo ({ frames := 1, cells := 0, slots := 0, locals := 21 }) (tP D cI cZ cJ cS aT ceT [.ref g0, .int (nI a), .int (nI x)] [(g0, .inr (6, [.int co, .int (nI n), .ref m_sea, .ref m_center, .ref m_home, .ref m_borders, .int mp, .int mt, .ref m_owner, .ref m_units, .ref m_kind, .ref m_toX, .ref m_toY, .ref m_results, .ref m_known, .ref m_reached, .ref m_way, .ref m_aside, .ref m_origin, .ref m_retreats, .ref m_contested, .ref m_moved, .int msh, .ref m_past])), (m_units, .inl (cI, 12, .inl fu)), (m_kind, .inl (cI, 12, .inl (fun j => nI (Kd j)))), (m_toX, .inl (cI, 12, .inl (fun j => nI (X j))))]) (vp_Si (fun r => r = bI (mvT fu Kd X a x))) 0 0 (fun _ => False) := by
  refine Met.ofW (cc := b_Mo_movesTo) (maxL := 3) (ret := (some .boolean)) (by decide) rfl ?_
  intro p e s m args below meth c s₁ B hml hv
  obtain ⟨rfl, hP, hK, hX⟩ := hv
  have hx := B.exec
  have hb := B.bytes
  have hr := B.returns
  have hts0 := atoms_spec (ws := w_Mo_movesTo) B.pre
  have hts : ∀ w ∈ TB, w.before _ s = true := fun w h => hts0 w (List.mem_cons_of_mem _ h)
  have hown : s.vm.findClass R_Mo = some m.cls := findClass_of_methodNamed B.named
  have hlocks := B.notSynchronized
  have hXH : s.heap[aT]? = s.heap[aT]? := rfl
  have hl := lv_entry ([.ref g0, .int (nI a), .int (nI x)]) (n := 3) (Nat.le_of_ble_eq_true rfl)
  rw [lg_entry_eq]
  generalize (lg_sl ([.ref g0, .int (nI a), .int (nI x)]) ++ List.replicate (3 - (lg_sl ([.ref g0, .int (nI a), .int (nI x)])).length) Slot.unset).toArray = ls at hl ⊢
  have hl : lv_has ls 3 [(0, .ref g0), (1, .int (nI a)), (2, .int (nI x))] := hl
  refine lv_aload_n hx hb d_Mo_movesTo_0 rfl (lv_at hl 0 rfl) ?_
  refine lv_iload_n hx hb d_Mo_movesTo_1 rfl (lv_at hl 1 rfl) ?_
  have hPc := hP.sub (ws' := [(g0, .inr (6, [.int co, .int (nI n), .ref m_sea, .ref m_center, .ref m_home, .ref m_borders, .int mp, .int mt, .ref m_owner, .ref m_units, .ref m_kind, .ref m_toX, .ref m_toY, .ref m_results, .ref m_known, .ref m_reached, .ref m_way, .ref m_aside, .ref m_origin, .ref m_retreats, .ref m_contested, .ref m_moved, .int msh, .ref m_past])), (m_units, .inl (cI, 12, .inl fu)), (m_kind, .inl (cI, 12, .inl (fun j => nI (Kd j))))]) [0, 1, 2] rfl
  refine vp_callSi (va_Run.run (va_runV (As := [.int (nI a)]) (rest := []) ⟨hx, hb, hml, hown, hts⟩ (c_Mo_moves l D cI cZ cJ cS aT ceT  g0 m_sea m_center m_home m_borders m_owner m_units m_kind m_toX m_toY m_results m_known m_reached m_way m_aside m_origin m_retreats m_contested m_moved m_past n co mp mt msh fu Kd a hKd h_a) (cwV 1 hts (tb_4 wd_853 wd_855 wp_47 wd_8 (tb_c wd_856)) rfl rfl rfl ⟨rfl, by decide, by decide, by decide +kernel⟩ ⟨Nat.le_of_ble_eq_true rfl, Nat.le_of_ble_eq_true rfl⟩) (tP_V hK hX hXH hPc (q := 0) rfl rfl) rfl rfl hl.1 rfl (lv_room (Nat.le_of_ble_eq_true rfl)) d_Mo_movesTo_2 ⟨Nat.le_of_ble_eq_true rfl, Nat.le_of_ble_eq_true rfl⟩)) (fun r1 hr9 => ?_)
  rw [hr9]
  rcases bI_c (mvs fu Kd a) with ⟨hb3, e9⟩ | ⟨hb3, e9⟩
  · refine tr_top e9 ?_
    refine lv_if_eq (tgt := 22) hx hb d_Mo_movesTo_5 (by decide) (fun h0 => absurd h0 (by decide)) (fun _ => ?_)
    refine lv_aload_n hx hb d_Mo_movesTo_8 rfl (lv_at hl 0 rfl) ?_
    refine va_get (D := D) (ci := 6) (v := .ref m_toX) (C := R_Mo) (T := T_Mo) (N := 24) hx hb hts hin_Mo hown hK hP 0 rfl rfl 11 (by decide) (hts _ wd_715) (fun _ h9 => h9) rfl d_Mo_movesTo_9 ?_
    refine lv_iload_n hx hb d_Mo_movesTo_12 rfl (lv_at hl 1 rfl) ?_
    refine tr_iald (v := nI (X a)) hx hb hK hP 3 0 rfl rfl a h_a (by decide) rfl d_Mo_movesTo_13 ?_
    refine lv_iload_n hx hb d_Mo_movesTo_14 rfl (lv_at hl 2 rfl) ?_
    refine lv_icmp_ne (tgt := 22) hx hb d_Mo_movesTo_15 (by decide) (fun hc5 => ?_) (fun hc5 => ?_)
    · -- 15 taken
      have hc5 : ¬ X a = x := fun h9 => hc5 (congrArg nI h9)
      refine lv_iconst (v := 0) hx hb d_Mo_movesTo_22 (by decide) ?_
      exact W.zret (v := 0) hx hb hr (by decide) (fun t ht hW => ⟨0, rfl, (bI_f (by simp [mvT, hb3, hc5])).symm, ht⟩) (fun q hq => by cases hq) d_Mo_movesTo_23
    · -- 15 not taken
      have hc5 : X a = x := (nI_lit (Nat.lt_trans (hX9 _) (by decide)) (Nat.lt_trans h_x (by decide))).mp hc5
      refine lv_iconst (v := 1) hx hb d_Mo_movesTo_18 (by decide) ?_
      refine lv_goto (tgt := 23) hx hb d_Mo_movesTo_19 (by decide) ?_
      exact W.zret (v := 1) hx hb hr (by decide) (fun t ht hW => ⟨1, rfl, (bI_t (by simp [mvT, hb3, hc5])).symm, ht⟩) (fun q hq => by cases hq) d_Mo_movesTo_23
  · refine tr_top e9 ?_
    refine lv_if_eq (tgt := 22) hx hb d_Mo_movesTo_5 (by decide) (fun _ => ?_) (fun h0 => absurd (by decide) h0)
    refine lv_iconst (v := 0) hx hb d_Mo_movesTo_22 (by decide) ?_
    exact W.zret (v := 0) hx hb hr (by decide) (fun t ht hW => ⟨0, rfl, (bI_f (by simp [mvT, hb3])).symm, ht⟩) (fun q hq => by cases hq) d_Mo_movesTo_23

theorem d_Mo_bySea_0 : decode b_Mo_bySea 0 = .ok (.aload_n 0, 1) := by decide +kernel
theorem d_Mo_bySea_1 : decode b_Mo_bySea 1 = .ok (.aload_n 0, 1) := by decide +kernel
theorem d_Mo_bySea_2 : decode b_Mo_bySea 2 = .ok (.getfield 26, 3) := by decide +kernel
theorem d_Mo_bySea_5 : decode b_Mo_bySea 5 = .ok (.iload_n 1, 1) := by decide +kernel
theorem d_Mo_bySea_6 : decode b_Mo_bySea 6 = .ok (.iaload, 1) := by decide +kernel
theorem d_Mo_bySea_7 : decode b_Mo_bySea 7 = .ok (.iload_n 1, 1) := by decide +kernel
theorem d_Mo_bySea_8 : decode b_Mo_bySea 8 = .ok (.aload_n 0, 1) := by decide +kernel
theorem d_Mo_bySea_9 : decode b_Mo_bySea 9 = .ok (.getfield 32, 3) := by decide +kernel
theorem d_Mo_bySea_12 : decode b_Mo_bySea 12 = .ok (.iload_n 1, 1) := by decide +kernel
theorem d_Mo_bySea_13 : decode b_Mo_bySea 13 = .ok (.iaload, 1) := by decide +kernel
theorem d_Mo_bySea_14 : decode b_Mo_bySea 14 = .ok (.invokevirtual 101, 3) := by decide +kernel
theorem d_Mo_bySea_17 : decode b_Mo_bySea 17 = .ok (.ifCond .ne 7, 3) := by decide +kernel
theorem d_Mo_bySea_20 : decode b_Mo_bySea 20 = .ok (.iconst 1, 1) := by decide +kernel
theorem d_Mo_bySea_21 : decode b_Mo_bySea 21 = .ok (.goto 4, 3) := by decide +kernel
theorem d_Mo_bySea_24 : decode b_Mo_bySea 24 = .ok (.iconst 0, 1) := by decide +kernel
theorem d_Mo_bySea_25 : decode b_Mo_bySea 25 = .ok (.ireturn, 1) := by decide +kernel
theorem wd_832 : (Cond.code ({ cls := "SheetWarModel", name := "canGo", desc := "(III)Z" } : MethodName) prog_8_method_13_code (4 : Nat) (Option.some FieldType.boolean)) ∈ TB := tb_t 832 (by decide +kernel) (by decide +kernel)
theorem wd_829 : (Cond.methodLink "SheetWarModel" (101 : Nat) ({ cls := "SheetWarModel", name := "canGo", desc := "(III)Z" } : MethodName)) ∈ TB := tb_t 829 (by decide +kernel) (by decide +kernel)
theorem wd_831 : (Cond.instanceMethod ({ cls := "SheetWarModel", name := "canGo", desc := "(III)Z" } : MethodName)) ∈ TB := tb_t 831 (by decide +kernel) (by decide +kernel)
theorem wp_42 : Cond.selects "SheetWarModel" ⟨"SheetWarModel", "canGo", "(III)Z"⟩ ⟨"SheetWarModel", "canGo", "(III)Z"⟩ ∈ TB := tb_p 42 (by decide +kernel) (by decide +kernel)
set_option maxHeartbeats 4000000 in
set_option maxRecDepth 100000 in
theorem c_Mo_bySea (l : Launch) (D : va_G) (cI cZ cJ cS : ClassId) (aT : Nat) (ceT : Cell) (g0 m_sea m_center m_home m_borders m_owner m_units m_kind m_toX m_toY m_results m_known m_reached m_way m_aside m_origin m_retreats m_contested m_moved m_past : Nat) (n : Nat) (co mp mt msh : Int32) (S : Nat → Bool) (Bo : Nat → Bool) (fu : Nat → Int32) (X : Nat → Nat) (a : Nat) (hX9 : ∀ j, X j < 12) (h_a : a < 12)  : Met l y_Mo_bySea w_Mo_bySea ({ frames := 2, cells := 0, slots := 0, locals := 45 }) (tP D cI cZ cJ cS aT ceT [.ref g0, .int (nI a)] [(g0, .inr (6, [.int co, .int (nI n), .ref m_sea, .ref m_center, .ref m_home, .ref m_borders, .int mp, .int mt, .ref m_owner, .ref m_units, .ref m_kind, .ref m_toX, .ref m_toY, .ref m_results, .ref m_known, .ref m_reached, .ref m_way, .ref m_aside, .ref m_origin, .ref m_retreats, .ref m_contested, .ref m_moved, .int msh, .ref m_past])), (m_sea, .inl (cZ, 12, .inl (fun j => bI (S j)))), (m_borders, .inl (cZ, 144, .inl (fun j => bI (Bo j)))), (m_units, .inl (cI, 12, .inl fu)), (m_toX, .inl (cI, 12, .inl (fun j => nI (X j))))]) (vp_Si (fun r => r = bI (byS Bo S fu X a))) 0 0 (fun _ => False) := by
  refine Met.ofW (cc := b_Mo_bySea) (maxL := 2) (ret := (some .boolean)) (by decide) rfl ?_
  intro p e s m args below meth c s₁ B hml hv
  obtain ⟨rfl, hP, hK, hX⟩ := hv
  have hx := B.exec
  have hb := B.bytes
  have hr := B.returns
  have hts0 := atoms_spec (ws := w_Mo_bySea) B.pre
  have hts : ∀ w ∈ TB, w.before _ s = true := fun w h => hts0 w (List.mem_cons_of_mem _ h)
  have hown : s.vm.findClass R_Mo = some m.cls := findClass_of_methodNamed B.named
  have hlocks := B.notSynchronized
  have hXH : s.heap[aT]? = s.heap[aT]? := rfl
  have hl := lv_entry ([.ref g0, .int (nI a)]) (n := 2) (Nat.le_of_ble_eq_true rfl)
  rw [lg_entry_eq]
  generalize (lg_sl ([.ref g0, .int (nI a)]) ++ List.replicate (2 - (lg_sl ([.ref g0, .int (nI a)])).length) Slot.unset).toArray = ls at hl ⊢
  have hl : lv_has ls 2 [(0, .ref g0), (1, .int (nI a))] := hl
  refine lv_aload_n hx hb d_Mo_bySea_0 rfl (lv_at hl 0 rfl) ?_
  refine lv_aload_n hx hb d_Mo_bySea_1 rfl (lv_at hl 0 rfl) ?_
  refine va_get (D := D) (ci := 6) (v := .ref m_units) (C := R_Mo) (T := T_Mo) (N := 24) hx hb hts hin_Mo hown hK hP 0 rfl rfl 9 (by decide) (hts _ wd_713) (fun _ h9 => h9) rfl d_Mo_bySea_2 ?_
  refine lv_iload_n hx hb d_Mo_bySea_5 rfl (lv_at hl 1 rfl) ?_
  refine tr_iald (v := fu a) hx hb hK hP 3 0 rfl rfl a h_a (by decide) rfl d_Mo_bySea_6 ?_
  refine lv_iload_n hx hb d_Mo_bySea_7 rfl (lv_at hl 1 rfl) ?_
  refine lv_aload_n hx hb d_Mo_bySea_8 rfl (lv_at hl 0 rfl) ?_
  refine va_get (D := D) (ci := 6) (v := .ref m_toX) (C := R_Mo) (T := T_Mo) (N := 24) hx hb hts hin_Mo hown hK hP 0 rfl rfl 11 (by decide) (hts _ wd_715) (fun _ h9 => h9) rfl d_Mo_bySea_9 ?_
  refine lv_iload_n hx hb d_Mo_bySea_12 rfl (lv_at hl 1 rfl) ?_
  refine tr_iald (v := nI (X a)) hx hb hK hP 4 0 rfl rfl a h_a (by decide) rfl d_Mo_bySea_13 ?_
  have hPc := hP.sub (ws' := [(g0, .inr (6, [.int co, .int (nI n), .ref m_sea, .ref m_center, .ref m_home, .ref m_borders, .int mp, .int mt, .ref m_owner, .ref m_units, .ref m_kind, .ref m_toX, .ref m_toY, .ref m_results, .ref m_known, .ref m_reached, .ref m_way, .ref m_aside, .ref m_origin, .ref m_retreats, .ref m_contested, .ref m_moved, .int msh, .ref m_past])), (m_sea, .inl (cZ, 12, .inl (fun j => bI (S j)))), (m_borders, .inl (cZ, 144, .inl (fun j => bI (Bo j))))]) [0, 1, 2] rfl
  refine vp_callSi (va_Run.run (va_runV (As := [.int (fu a), .int (nI a), .int (nI (X a))]) (rest := []) ⟨hx, hb, hml, hown, hts⟩ (c_Mo_canGo l D cI cZ cJ cS aT ceT  g0 m_sea m_center m_home m_borders m_owner m_units m_kind m_toX m_toY m_results m_known m_reached m_way m_aside m_origin m_retreats m_contested m_moved m_past n co mp mt msh S Bo a (X a) (fu a) h_a (hX9 _)) (cwV 3 hts (tb_4 wd_829 wd_831 wp_42 wd_8 (tb_c wd_832)) rfl rfl rfl ⟨rfl, by decide, by decide, by decide +kernel⟩ ⟨Nat.le_of_ble_eq_true rfl, Nat.le_of_ble_eq_true rfl⟩) (tP_V hK hX hXH hPc (q := 0) rfl rfl) rfl rfl hl.1 rfl (lv_room (Nat.le_of_ble_eq_true rfl)) d_Mo_bySea_14 ⟨Nat.le_of_ble_eq_true rfl, Nat.le_of_ble_eq_true rfl⟩)) (fun r1 hr9 => ?_)
  rw [hr9]
  rcases bI_c (cGo Bo S (fu a) a (X a)) with ⟨hb3, e9⟩ | ⟨hb3, e9⟩
  · refine tr_top e9 ?_
    refine lv_if_ne (tgt := 24) hx hb d_Mo_bySea_17 (by decide) (fun _ => ?_) (fun h0 => absurd h0 (by decide))
    refine lv_iconst (v := 0) hx hb d_Mo_bySea_24 (by decide) ?_
    exact W.zret (v := 0) hx hb hr (by decide) (fun t ht hW => ⟨0, rfl, (bI_f (by simp [byS, hb3])).symm, ht⟩) (fun q hq => by cases hq) d_Mo_bySea_25
  · refine tr_top e9 ?_
    refine lv_if_ne (tgt := 24) hx hb d_Mo_bySea_17 (by decide) (fun h0 => absurd (by decide) h0) (fun _ => ?_)
    refine lv_iconst (v := 1) hx hb d_Mo_bySea_20 (by decide) ?_
    refine lv_goto (tgt := 25) hx hb d_Mo_bySea_21 (by decide) ?_
    exact W.zret (v := 1) hx hb hr (by decide) (fun t ht hW => ⟨1, rfl, (bI_t (by simp [byS, hb3])).symm, ht⟩) (fun q hq => by cases hq) d_Mo_bySea_25

theorem d_Mo_headOn_0 : decode b_Mo_headOn 0 = .ok (.aload_n 0, 1) := by decide +kernel
theorem d_Mo_headOn_1 : decode b_Mo_headOn 1 = .ok (.getfield 32, 3) := by decide +kernel
theorem d_Mo_headOn_4 : decode b_Mo_headOn 4 = .ok (.iload_n 1, 1) := by decide +kernel
theorem d_Mo_headOn_5 : decode b_Mo_headOn 5 = .ok (.iaload, 1) := by decide +kernel
theorem d_Mo_headOn_6 : decode b_Mo_headOn 6 = .ok (.istore_n 2, 1) := by decide +kernel
theorem d_Mo_headOn_7 : decode b_Mo_headOn 7 = .ok (.aload_n 0, 1) := by decide +kernel
theorem d_Mo_headOn_8 : decode b_Mo_headOn 8 = .ok (.iload_n 2, 1) := by decide +kernel
theorem d_Mo_headOn_9 : decode b_Mo_headOn 9 = .ok (.iload_n 1, 1) := by decide +kernel
theorem d_Mo_headOn_10 : decode b_Mo_headOn 10 = .ok (.invokevirtual 112, 3) := by decide +kernel
theorem d_Mo_headOn_13 : decode b_Mo_headOn 13 = .ok (.ifCond .eq 23, 3) := by decide +kernel
theorem d_Mo_headOn_16 : decode b_Mo_headOn 16 = .ok (.aload_n 0, 1) := by decide +kernel
theorem d_Mo_headOn_17 : decode b_Mo_headOn 17 = .ok (.iload_n 1, 1) := by decide +kernel
theorem d_Mo_headOn_18 : decode b_Mo_headOn 18 = .ok (.invokevirtual 115, 3) := by decide +kernel
theorem d_Mo_headOn_21 : decode b_Mo_headOn 21 = .ok (.ifCond .ne 15, 3) := by decide +kernel
theorem d_Mo_headOn_24 : decode b_Mo_headOn 24 = .ok (.aload_n 0, 1) := by decide +kernel
theorem d_Mo_headOn_25 : decode b_Mo_headOn 25 = .ok (.iload_n 2, 1) := by decide +kernel
theorem d_Mo_headOn_26 : decode b_Mo_headOn 26 = .ok (.invokevirtual 115, 3) := by decide +kernel
theorem d_Mo_headOn_29 : decode b_Mo_headOn 29 = .ok (.ifCond .ne 7, 3) := by decide +kernel
theorem d_Mo_headOn_32 : decode b_Mo_headOn 32 = .ok (.iconst 1, 1) := by decide +kernel
theorem d_Mo_headOn_33 : decode b_Mo_headOn 33 = .ok (.goto 4, 3) := by decide +kernel
theorem d_Mo_headOn_36 : decode b_Mo_headOn 36 = .ok (.iconst 0, 1) := by decide +kernel
theorem d_Mo_headOn_37 : decode b_Mo_headOn 37 = .ok (.ireturn, 1) := by decide +kernel
theorem wd_852 : (Cond.code ({ cls := "SheetWarModel", name := "movesTo", desc := "(II)Z" } : MethodName) prog_8_method_17_code (3 : Nat) (Option.some FieldType.boolean)) ∈ TB := tb_t 852 (by decide +kernel) (by decide +kernel)
theorem wd_849 : (Cond.methodLink "SheetWarModel" (112 : Nat) ({ cls := "SheetWarModel", name := "movesTo", desc := "(II)Z" } : MethodName)) ∈ TB := tb_t 849 (by decide +kernel) (by decide +kernel)
theorem wd_851 : (Cond.instanceMethod ({ cls := "SheetWarModel", name := "movesTo", desc := "(II)Z" } : MethodName)) ∈ TB := tb_t 851 (by decide +kernel) (by decide +kernel)
theorem wd_884 : (Cond.code ({ cls := "SheetWarModel", name := "bySea", desc := "(I)Z" } : MethodName) prog_8_method_18_code (2 : Nat) (Option.some FieldType.boolean)) ∈ TB := tb_t 884 (by decide +kernel) (by decide +kernel)
theorem wd_881 : (Cond.methodLink "SheetWarModel" (115 : Nat) ({ cls := "SheetWarModel", name := "bySea", desc := "(I)Z" } : MethodName)) ∈ TB := tb_t 881 (by decide +kernel) (by decide +kernel)
theorem wd_883 : (Cond.instanceMethod ({ cls := "SheetWarModel", name := "bySea", desc := "(I)Z" } : MethodName)) ∈ TB := tb_t 883 (by decide +kernel) (by decide +kernel)
theorem wp_46 : Cond.selects "SheetWarModel" ⟨"SheetWarModel", "movesTo", "(II)Z"⟩ ⟨"SheetWarModel", "movesTo", "(II)Z"⟩ ∈ TB := tb_p 46 (by decide +kernel) (by decide +kernel)
theorem wp_54 : Cond.selects "SheetWarModel" ⟨"SheetWarModel", "bySea", "(I)Z"⟩ ⟨"SheetWarModel", "bySea", "(I)Z"⟩ ∈ TB := tb_p 54 (by decide +kernel) (by decide +kernel)
set_option maxHeartbeats 4000000 in
set_option maxRecDepth 100000 in
theorem c_Mo_headOn (l : Launch) (D : va_G) (cI cZ cJ cS : ClassId) (aT : Nat) (ceT : Cell) (g0 m_sea m_center m_home m_borders m_owner m_units m_kind m_toX m_toY m_results m_known m_reached m_way m_aside m_origin m_retreats m_contested m_moved m_past : Nat) (n : Nat) (co mp mt msh : Int32) (S : Nat → Bool) (Bo : Nat → Bool) (fu : Nat → Int32) (Kd : Nat → Nat) (X : Nat → Nat) (a : Nat) (hKd : ∀ j, Kd j < 4) (hX9 : ∀ j, X j < 12) (h_a : a < 12)  : Met l y_Mo_headOn w_Mo_headOn ({ frames := 3, cells := 0, slots := 0, locals := 66 }) (tP D cI cZ cJ cS aT ceT [.ref g0, .int (nI a)] [(g0, .inr (6, [.int co, .int (nI n), .ref m_sea, .ref m_center, .ref m_home, .ref m_borders, .int mp, .int mt, .ref m_owner, .ref m_units, .ref m_kind, .ref m_toX, .ref m_toY, .ref m_results, .ref m_known, .ref m_reached, .ref m_way, .ref m_aside, .ref m_origin, .ref m_retreats, .ref m_contested, .ref m_moved, .int msh, .ref m_past])), (m_sea, .inl (cZ, 12, .inl (fun j => bI (S j)))), (m_borders, .inl (cZ, 144, .inl (fun j => bI (Bo j)))), (m_units, .inl (cI, 12, .inl fu)), (m_kind, .inl (cI, 12, .inl (fun j => nI (Kd j)))), (m_toX, .inl (cI, 12, .inl (fun j => nI (X j))))]) (vp_Si (fun r => r = bI (hOn Bo S fu Kd X a))) 0 0 (fun _ => False) := by
  refine Met.ofW (cc := b_Mo_headOn) (maxL := 3) (ret := (some .boolean)) (by decide) rfl ?_
  intro p e s m args below meth c s₁ B hml hv
  obtain ⟨rfl, hP, hK, hX⟩ := hv
  have hx := B.exec
  have hb := B.bytes
  have hr := B.returns
  have hts0 := atoms_spec (ws := w_Mo_headOn) B.pre
  have hts : ∀ w ∈ TB, w.before _ s = true := fun w h => hts0 w (List.mem_cons_of_mem _ h)
  have hown : s.vm.findClass R_Mo = some m.cls := findClass_of_methodNamed B.named
  have hlocks := B.notSynchronized
  have hXH : s.heap[aT]? = s.heap[aT]? := rfl
  have hl := lv_entry ([.ref g0, .int (nI a)]) (n := 3) (Nat.le_of_ble_eq_true rfl)
  rw [lg_entry_eq]
  generalize (lg_sl ([.ref g0, .int (nI a)]) ++ List.replicate (3 - (lg_sl ([.ref g0, .int (nI a)])).length) Slot.unset).toArray = ls at hl ⊢
  have hl : lv_has ls 3 [(0, .ref g0), (1, .int (nI a))] := hl
  refine lv_aload_n hx hb d_Mo_headOn_0 rfl (lv_at hl 0 rfl) ?_
  refine va_get (D := D) (ci := 6) (v := .ref m_toX) (C := R_Mo) (T := T_Mo) (N := 24) hx hb hts hin_Mo hown hK hP 0 rfl rfl 11 (by decide) (hts _ wd_715) (fun _ h9 => h9) rfl d_Mo_headOn_1 ?_
  refine lv_iload_n hx hb d_Mo_headOn_4 rfl (lv_at hl 1 rfl) ?_
  refine tr_iald (v := nI (X a)) hx hb hK hP 5 0 rfl rfl a h_a (by decide) rfl d_Mo_headOn_5 ?_
  refine lv_istore_n (lv' := [(2, .int (nI (X a))), (0, .ref g0), (1, .int (nI a))]) hx hb d_Mo_headOn_6 rfl hl (by decide) rfl (fun ls hl => ?_)
  refine lv_aload_n hx hb d_Mo_headOn_7 rfl (lv_at hl 1 rfl) ?_
  refine lv_iload_n hx hb d_Mo_headOn_8 rfl (lv_at hl 0 rfl) ?_
  refine lv_iload_n hx hb d_Mo_headOn_9 rfl (lv_at hl 2 rfl) ?_
  have hPc := hP.sub (ws' := [(g0, .inr (6, [.int co, .int (nI n), .ref m_sea, .ref m_center, .ref m_home, .ref m_borders, .int mp, .int mt, .ref m_owner, .ref m_units, .ref m_kind, .ref m_toX, .ref m_toY, .ref m_results, .ref m_known, .ref m_reached, .ref m_way, .ref m_aside, .ref m_origin, .ref m_retreats, .ref m_contested, .ref m_moved, .int msh, .ref m_past])), (m_units, .inl (cI, 12, .inl fu)), (m_kind, .inl (cI, 12, .inl (fun j => nI (Kd j)))), (m_toX, .inl (cI, 12, .inl (fun j => nI (X j))))]) [0, 3, 4, 5] rfl
  refine vp_callSi (va_Run.run (va_runV (As := [.int (nI (X a)), .int (nI a)]) (rest := []) ⟨hx, hb, hml, hown, hts⟩ (c_Mo_movesTo l D cI cZ cJ cS aT ceT  g0 m_sea m_center m_home m_borders m_owner m_units m_kind m_toX m_toY m_results m_known m_reached m_way m_aside m_origin m_retreats m_contested m_moved m_past n co mp mt msh fu Kd X (X a) a hKd hX9 (hX9 _) h_a) (cwV 2 hts (tb_4 wd_849 wd_851 wp_46 wd_8 (tb_c wd_852)) rfl rfl rfl ⟨rfl, by decide, by decide, by decide +kernel⟩ ⟨Nat.le_of_ble_eq_true rfl, Nat.le_of_ble_eq_true rfl⟩) (tP_V hK hX hXH hPc (q := 0) rfl rfl) rfl rfl hl.1 rfl (lv_room (Nat.le_of_ble_eq_true rfl)) d_Mo_headOn_10 ⟨Nat.le_of_ble_eq_true rfl, Nat.le_of_ble_eq_true rfl⟩)) (fun r1 hr9 => ?_)
  rw [hr9]
  rcases bI_c (mvT fu Kd X (X a) a) with ⟨hb3, e9⟩ | ⟨hb3, e9⟩
  · refine tr_top e9 ?_
    refine lv_if_eq (tgt := 36) hx hb d_Mo_headOn_13 (by decide) (fun h0 => absurd h0 (by decide)) (fun _ => ?_)
    refine lv_aload_n hx hb d_Mo_headOn_16 rfl (lv_at hl 1 rfl) ?_
    refine lv_iload_n hx hb d_Mo_headOn_17 rfl (lv_at hl 2 rfl) ?_
    have hPc := hP.sub (ws' := [(g0, .inr (6, [.int co, .int (nI n), .ref m_sea, .ref m_center, .ref m_home, .ref m_borders, .int mp, .int mt, .ref m_owner, .ref m_units, .ref m_kind, .ref m_toX, .ref m_toY, .ref m_results, .ref m_known, .ref m_reached, .ref m_way, .ref m_aside, .ref m_origin, .ref m_retreats, .ref m_contested, .ref m_moved, .int msh, .ref m_past])), (m_sea, .inl (cZ, 12, .inl (fun j => bI (S j)))), (m_borders, .inl (cZ, 144, .inl (fun j => bI (Bo j)))), (m_units, .inl (cI, 12, .inl fu)), (m_toX, .inl (cI, 12, .inl (fun j => nI (X j))))]) [0, 1, 2, 3, 5] rfl
    refine vp_callSi (va_Run.run (va_runV (As := [.int (nI a)]) (rest := []) ⟨hx, hb, hml, hown, hts⟩ (c_Mo_bySea l D cI cZ cJ cS aT ceT  g0 m_sea m_center m_home m_borders m_owner m_units m_kind m_toX m_toY m_results m_known m_reached m_way m_aside m_origin m_retreats m_contested m_moved m_past n co mp mt msh S Bo fu X a hX9 h_a) (cwV 1 hts (tb_4 wd_881 wd_883 wp_54 wd_8 (tb_c wd_884)) rfl rfl rfl ⟨rfl, by decide, by decide, by decide +kernel⟩ ⟨Nat.le_of_ble_eq_true rfl, Nat.le_of_ble_eq_true rfl⟩) (tP_V hK hX hXH hPc (q := 0) rfl rfl) rfl rfl hl.1 rfl (lv_room (Nat.le_of_ble_eq_true rfl)) d_Mo_headOn_18 ⟨Nat.le_of_ble_eq_true rfl, Nat.le_of_ble_eq_true rfl⟩)) (fun r5 hr9 => ?_)
    rw [hr9]
    rcases bI_c (byS Bo S fu X a) with ⟨hb7, e9⟩ | ⟨hb7, e9⟩
    · refine tr_top e9 ?_
      refine lv_if_ne (tgt := 36) hx hb d_Mo_headOn_21 (by decide) (fun _ => ?_) (fun h0 => absurd h0 (by decide))
      refine lv_iconst (v := 0) hx hb d_Mo_headOn_36 (by decide) ?_
      exact W.zret (v := 0) hx hb hr (by decide) (fun t ht hW => ⟨0, rfl, (bI_f (by simp [hOn, hb3, hb7])).symm, ht⟩) (fun q hq => by cases hq) d_Mo_headOn_37
    · refine tr_top e9 ?_
      refine lv_if_ne (tgt := 36) hx hb d_Mo_headOn_21 (by decide) (fun h0 => absurd (by decide) h0) (fun _ => ?_)
      refine lv_aload_n hx hb d_Mo_headOn_24 rfl (lv_at hl 1 rfl) ?_
      refine lv_iload_n hx hb d_Mo_headOn_25 rfl (lv_at hl 0 rfl) ?_
      have hPc := hP.sub (ws' := [(g0, .inr (6, [.int co, .int (nI n), .ref m_sea, .ref m_center, .ref m_home, .ref m_borders, .int mp, .int mt, .ref m_owner, .ref m_units, .ref m_kind, .ref m_toX, .ref m_toY, .ref m_results, .ref m_known, .ref m_reached, .ref m_way, .ref m_aside, .ref m_origin, .ref m_retreats, .ref m_contested, .ref m_moved, .int msh, .ref m_past])), (m_sea, .inl (cZ, 12, .inl (fun j => bI (S j)))), (m_borders, .inl (cZ, 144, .inl (fun j => bI (Bo j)))), (m_units, .inl (cI, 12, .inl fu)), (m_toX, .inl (cI, 12, .inl (fun j => nI (X j))))]) [0, 1, 2, 3, 5] rfl
      refine vp_callSi (va_Run.run (va_runV (As := [.int (nI (X a))]) (rest := []) ⟨hx, hb, hml, hown, hts⟩ (c_Mo_bySea l D cI cZ cJ cS aT ceT  g0 m_sea m_center m_home m_borders m_owner m_units m_kind m_toX m_toY m_results m_known m_reached m_way m_aside m_origin m_retreats m_contested m_moved m_past n co mp mt msh S Bo fu X (X a) hX9 (hX9 _)) (cwV 1 hts (tb_4 wd_881 wd_883 wp_54 wd_8 (tb_c wd_884)) rfl rfl rfl ⟨rfl, by decide, by decide, by decide +kernel⟩ ⟨Nat.le_of_ble_eq_true rfl, Nat.le_of_ble_eq_true rfl⟩) (tP_V hK hX hXH hPc (q := 0) rfl rfl) rfl rfl hl.1 rfl (lv_room (Nat.le_of_ble_eq_true rfl)) d_Mo_headOn_26 ⟨Nat.le_of_ble_eq_true rfl, Nat.le_of_ble_eq_true rfl⟩)) (fun r10 hr9 => ?_)
      rw [hr9]
      rcases bI_c (byS Bo S fu X (X a)) with ⟨hb12, e9⟩ | ⟨hb12, e9⟩
      · refine tr_top e9 ?_
        refine lv_if_ne (tgt := 36) hx hb d_Mo_headOn_29 (by decide) (fun _ => ?_) (fun h0 => absurd h0 (by decide))
        refine lv_iconst (v := 0) hx hb d_Mo_headOn_36 (by decide) ?_
        exact W.zret (v := 0) hx hb hr (by decide) (fun t ht hW => ⟨0, rfl, (bI_f (by simp [hOn, hb3, hb7, hb12])).symm, ht⟩) (fun q hq => by cases hq) d_Mo_headOn_37
      · refine tr_top e9 ?_
        refine lv_if_ne (tgt := 36) hx hb d_Mo_headOn_29 (by decide) (fun h0 => absurd (by decide) h0) (fun _ => ?_)
        refine lv_iconst (v := 1) hx hb d_Mo_headOn_32 (by decide) ?_
        refine lv_goto (tgt := 37) hx hb d_Mo_headOn_33 (by decide) ?_
        exact W.zret (v := 1) hx hb hr (by decide) (fun t ht hW => ⟨1, rfl, (bI_t (by simp [hOn, hb3, hb7, hb12])).symm, ht⟩) (fun q hq => by cases hq) d_Mo_headOn_37
  · refine tr_top e9 ?_
    refine lv_if_eq (tgt := 36) hx hb d_Mo_headOn_13 (by decide) (fun _ => ?_) (fun h0 => absurd (by decide) h0)
    refine lv_iconst (v := 0) hx hb d_Mo_headOn_36 (by decide) ?_
    exact W.zret (v := 0) hx hb hr (by decide) (fun t ht hW => ⟨0, rfl, (bI_f (by simp [hOn, hb3])).symm, ht⟩) (fun q hq => by cases hq) d_Mo_headOn_37

theorem d_Mo_supports_0 : decode b_Mo_supports 0 = .ok (.aload_n 0, 1) := by decide +kernel
theorem d_Mo_supports_1 : decode b_Mo_supports 1 = .ok (.getfield 26, 3) := by decide +kernel
theorem d_Mo_supports_4 : decode b_Mo_supports 4 = .ok (.iload_n 1, 1) := by decide +kernel
theorem d_Mo_supports_5 : decode b_Mo_supports 5 = .ok (.iaload, 1) := by decide +kernel
theorem d_Mo_supports_6 : decode b_Mo_supports 6 = .ok (.ifCond .lt 17, 3) := by decide +kernel
theorem d_Mo_supports_9 : decode b_Mo_supports 9 = .ok (.aload_n 0, 1) := by decide +kernel
theorem d_Mo_supports_10 : decode b_Mo_supports 10 = .ok (.getfield 29, 3) := by decide +kernel
theorem d_Mo_supports_13 : decode b_Mo_supports 13 = .ok (.iload_n 1, 1) := by decide +kernel
theorem d_Mo_supports_14 : decode b_Mo_supports 14 = .ok (.iaload, 1) := by decide +kernel
theorem d_Mo_supports_15 : decode b_Mo_supports 15 = .ok (.iconst 2, 1) := by decide +kernel
theorem d_Mo_supports_16 : decode b_Mo_supports 16 = .ok (.if_icmp .ne 7, 3) := by decide +kernel
theorem d_Mo_supports_19 : decode b_Mo_supports 19 = .ok (.iconst 1, 1) := by decide +kernel
theorem d_Mo_supports_20 : decode b_Mo_supports 20 = .ok (.goto 4, 3) := by decide +kernel
theorem d_Mo_supports_23 : decode b_Mo_supports 23 = .ok (.iconst 0, 1) := by decide +kernel
theorem d_Mo_supports_24 : decode b_Mo_supports 24 = .ok (.ireturn, 1) := by decide +kernel

set_option maxHeartbeats 4000000 in
set_option maxRecDepth 100000 in
theorem c_Mo_supports (l : Launch) (D : va_G) (cI cZ cJ cS : ClassId) (aT : Nat) (ceT : Cell) (g0 m_sea m_center m_home m_borders m_owner m_units m_kind m_toX m_toY m_results m_known m_reached m_way m_aside m_origin m_retreats m_contested m_moved m_past : Nat) (n : Nat) (co mp mt msh : Int32) (fu : Nat → Int32) (Kd : Nat → Nat) (a : Nat) (hKd : ∀ j, Kd j < 4) (h_a : a < 12)  : Met l y_Mo_supports w_Mo_supports ({ frames := 0, cells := 0, slots := 0, locals := 0 }) (tP D cI cZ cJ cS aT ceT [.ref g0, .int (nI a)] [(g0, .inr (6, [.int co, .int (nI n), .ref m_sea, .ref m_center, .ref m_home, .ref m_borders, .int mp, .int mt, .ref m_owner, .ref m_units, .ref m_kind, .ref m_toX, .ref m_toY, .ref m_results, .ref m_known, .ref m_reached, .ref m_way, .ref m_aside, .ref m_origin, .ref m_retreats, .ref m_contested, .ref m_moved, .int msh, .ref m_past])), (m_units, .inl (cI, 12, .inl fu)), (m_kind, .inl (cI, 12, .inl (fun j => nI (Kd j))))]) (vp_Si (fun r => r = bI (spt fu Kd a))) 0 0 (fun _ => False) := by
  refine Met.ofW (cc := b_Mo_supports) (maxL := 2) (ret := (some .boolean)) (by decide) rfl ?_
  intro p e s m args below meth c s₁ B hml hv
  obtain ⟨rfl, hP, hK, hX⟩ := hv
  have hx := B.exec
  have hb := B.bytes
  have hr := B.returns
  have hts0 := atoms_spec (ws := w_Mo_supports) B.pre
  have hts : ∀ w ∈ TB, w.before _ s = true := fun w h => hts0 w (List.mem_cons_of_mem _ h)
  have hown : s.vm.findClass R_Mo = some m.cls := findClass_of_methodNamed B.named
  have hlocks := B.notSynchronized
  have hXH : s.heap[aT]? = s.heap[aT]? := rfl
  have hl := lv_entry ([.ref g0, .int (nI a)]) (n := 2) (Nat.le_of_ble_eq_true rfl)
  rw [lg_entry_eq]
  generalize (lg_sl ([.ref g0, .int (nI a)]) ++ List.replicate (2 - (lg_sl ([.ref g0, .int (nI a)])).length) Slot.unset).toArray = ls at hl ⊢
  have hl : lv_has ls 2 [(0, .ref g0), (1, .int (nI a))] := hl
  refine lv_aload_n hx hb d_Mo_supports_0 rfl (lv_at hl 0 rfl) ?_
  refine va_get (D := D) (ci := 6) (v := .ref m_units) (C := R_Mo) (T := T_Mo) (N := 24) hx hb hts hin_Mo hown hK hP 0 rfl rfl 9 (by decide) (hts _ wd_713) (fun _ h9 => h9) rfl d_Mo_supports_1 ?_
  refine lv_iload_n hx hb d_Mo_supports_4 rfl (lv_at hl 1 rfl) ?_
  refine tr_iald (v := fu a) hx hb hK hP 1 0 rfl rfl a h_a (by decide) rfl d_Mo_supports_5 ?_
  refine lv_if_lt (tgt := 23) hx hb d_Mo_supports_6 (by decide) (fun hc1 => ?_) (fun hc1 => ?_)
  · -- 6 taken
    refine lv_iconst (v := 0) hx hb d_Mo_supports_23 (by decide) ?_
    exact W.zret (v := 0) hx hb hr (by decide) (fun t ht hW => ⟨0, rfl, (bI_f (by simp [spt, hc1])).symm, ht⟩) (fun q hq => by cases hq) d_Mo_supports_24
  · -- 6 not taken
    refine lv_aload_n hx hb d_Mo_supports_9 rfl (lv_at hl 0 rfl) ?_
    refine va_get (D := D) (ci := 6) (v := .ref m_kind) (C := R_Mo) (T := T_Mo) (N := 24) hx hb hts hin_Mo hown hK hP 0 rfl rfl 10 (by decide) (hts _ wd_714) (fun _ h9 => h9) rfl d_Mo_supports_10 ?_
    refine lv_iload_n hx hb d_Mo_supports_13 rfl (lv_at hl 1 rfl) ?_
    refine tr_iald (v := nI (Kd a)) hx hb hK hP 2 0 rfl rfl a h_a (by decide) rfl d_Mo_supports_14 ?_
    refine lv_iconst (v := 2) hx hb d_Mo_supports_15 (by decide) ?_
    refine lv_icmp_ne (tgt := 23) hx hb d_Mo_supports_16 (by decide) (fun hc2 => ?_) (fun hc2 => ?_)
    · -- 16 taken
      have hc2 : ¬ Kd a = 2 := fun h9 => hc2 (congrArg nI h9)
      refine lv_iconst (v := 0) hx hb d_Mo_supports_23 (by decide) ?_
      exact W.zret (v := 0) hx hb hr (by decide) (fun t ht hW => ⟨0, rfl, (bI_f (by simp [spt, hc1, hc2])).symm, ht⟩) (fun q hq => by cases hq) d_Mo_supports_24
    · -- 16 not taken
      have hc2 : Kd a = 2 := (nI_lit (Nat.lt_trans (hKd _) (by decide)) (by decide)).mp hc2
      refine lv_iconst (v := 1) hx hb d_Mo_supports_19 (by decide) ?_
      refine lv_goto (tgt := 24) hx hb d_Mo_supports_20 (by decide) ?_
      exact W.zret (v := 1) hx hb hr (by decide) (fun t ht hW => ⟨1, rfl, (bI_t (by simp [spt, hc1, hc2])).symm, ht⟩) (fun q hq => by cases hq) d_Mo_supports_24

theorem d_Mo_isFor_0 : decode b_Mo_isFor 0 = .ok (.aload_n 0, 1) := by decide +kernel
theorem d_Mo_isFor_1 : decode b_Mo_isFor 1 = .ok (.iload_n 1, 1) := by decide +kernel
theorem d_Mo_isFor_2 : decode b_Mo_isFor 2 = .ok (.invokevirtual 118, 3) := by decide +kernel
theorem d_Mo_isFor_5 : decode b_Mo_isFor 5 = .ok (.ifCond .eq 31, 3) := by decide +kernel
theorem d_Mo_isFor_8 : decode b_Mo_isFor 8 = .ok (.aload_n 0, 1) := by decide +kernel
theorem d_Mo_isFor_9 : decode b_Mo_isFor 9 = .ok (.getfield 32, 3) := by decide +kernel
theorem d_Mo_isFor_12 : decode b_Mo_isFor 12 = .ok (.iload_n 1, 1) := by decide +kernel
theorem d_Mo_isFor_13 : decode b_Mo_isFor 13 = .ok (.iaload, 1) := by decide +kernel
theorem d_Mo_isFor_14 : decode b_Mo_isFor 14 = .ok (.iload_n 2, 1) := by decide +kernel
theorem d_Mo_isFor_15 : decode b_Mo_isFor 15 = .ok (.if_icmp .ne 21, 3) := by decide +kernel
theorem d_Mo_isFor_18 : decode b_Mo_isFor 18 = .ok (.aload_n 0, 1) := by decide +kernel
theorem d_Mo_isFor_19 : decode b_Mo_isFor 19 = .ok (.iload_n 2, 1) := by decide +kernel
theorem d_Mo_isFor_20 : decode b_Mo_isFor 20 = .ok (.aload_n 0, 1) := by decide +kernel
theorem d_Mo_isFor_21 : decode b_Mo_isFor 21 = .ok (.getfield 35, 3) := by decide +kernel
theorem d_Mo_isFor_24 : decode b_Mo_isFor 24 = .ok (.iload_n 1, 1) := by decide +kernel
theorem d_Mo_isFor_25 : decode b_Mo_isFor 25 = .ok (.iaload, 1) := by decide +kernel
theorem d_Mo_isFor_26 : decode b_Mo_isFor 26 = .ok (.invokevirtual 112, 3) := by decide +kernel
theorem d_Mo_isFor_29 : decode b_Mo_isFor 29 = .ok (.ifCond .eq 7, 3) := by decide +kernel
theorem d_Mo_isFor_32 : decode b_Mo_isFor 32 = .ok (.iconst 1, 1) := by decide +kernel
theorem d_Mo_isFor_33 : decode b_Mo_isFor 33 = .ok (.goto 4, 3) := by decide +kernel
theorem d_Mo_isFor_36 : decode b_Mo_isFor 36 = .ok (.iconst 0, 1) := by decide +kernel
theorem d_Mo_isFor_37 : decode b_Mo_isFor 37 = .ok (.ireturn, 1) := by decide +kernel
theorem wd_844 : (Cond.code ({ cls := "SheetWarModel", name := "supports", desc := "(I)Z" } : MethodName) prog_8_method_20_code (2 : Nat) (Option.some FieldType.boolean)) ∈ TB := tb_t 844 (by decide +kernel) (by decide +kernel)
theorem wd_841 : (Cond.methodLink "SheetWarModel" (118 : Nat) ({ cls := "SheetWarModel", name := "supports", desc := "(I)Z" } : MethodName)) ∈ TB := tb_t 841 (by decide +kernel) (by decide +kernel)
theorem wd_843 : (Cond.instanceMethod ({ cls := "SheetWarModel", name := "supports", desc := "(I)Z" } : MethodName)) ∈ TB := tb_t 843 (by decide +kernel) (by decide +kernel)
theorem wp_44 : Cond.selects "SheetWarModel" ⟨"SheetWarModel", "supports", "(I)Z"⟩ ⟨"SheetWarModel", "supports", "(I)Z"⟩ ∈ TB := tb_p 44 (by decide +kernel) (by decide +kernel)
set_option maxHeartbeats 4000000 in
set_option maxRecDepth 100000 in
theorem c_Mo_isFor (l : Launch) (D : va_G) (cI cZ cJ cS : ClassId) (aT : Nat) (ceT : Cell) (g0 m_sea m_center m_home m_borders m_owner m_units m_kind m_toX m_toY m_results m_known m_reached m_way m_aside m_origin m_retreats m_contested m_moved m_past : Nat) (n : Nat) (co mp mt msh : Int32) (fu : Nat → Int32) (Kd : Nat → Nat) (X : Nat → Nat) (Y : Nat → Nat) (s9 : Nat) (a : Nat) (hKd : ∀ j, Kd j < 4) (hX9 : ∀ j, X j < 12) (hY9 : ∀ j, Y j < 12) (h_s9 : s9 < 12) (h_a : a < 12)  : Met l y_Mo_isFor w_Mo_isFor ({ frames := 2, cells := 0, slots := 0, locals := 43 }) (tP D cI cZ cJ cS aT ceT [.ref g0, .int (nI s9), .int (nI a)] [(g0, .inr (6, [.int co, .int (nI n), .ref m_sea, .ref m_center, .ref m_home, .ref m_borders, .int mp, .int mt, .ref m_owner, .ref m_units, .ref m_kind, .ref m_toX, .ref m_toY, .ref m_results, .ref m_known, .ref m_reached, .ref m_way, .ref m_aside, .ref m_origin, .ref m_retreats, .ref m_contested, .ref m_moved, .int msh, .ref m_past])), (m_units, .inl (cI, 12, .inl fu)), (m_kind, .inl (cI, 12, .inl (fun j => nI (Kd j)))), (m_toX, .inl (cI, 12, .inl (fun j => nI (X j)))), (m_toY, .inl (cI, 12, .inl (fun j => nI (Y j))))]) (vp_Si (fun r => r = bI (isF fu Kd X Y s9 a))) 0 0 (fun _ => False) := by
  refine Met.ofW (cc := b_Mo_isFor) (maxL := 3) (ret := (some .boolean)) (by decide) rfl ?_
  intro p e s m args below meth c s₁ B hml hv
  obtain ⟨rfl, hP, hK, hX⟩ := hv
  have hx := B.exec
  have hb := B.bytes
  have hr := B.returns
  have hts0 := atoms_spec (ws := w_Mo_isFor) B.pre
  have hts : ∀ w ∈ TB, w.before _ s = true := fun w h => hts0 w (List.mem_cons_of_mem _ h)
  have hown : s.vm.findClass R_Mo = some m.cls := findClass_of_methodNamed B.named
  have hlocks := B.notSynchronized
  have hXH : s.heap[aT]? = s.heap[aT]? := rfl
  have hl := lv_entry ([.ref g0, .int (nI s9), .int (nI a)]) (n := 3) (Nat.le_of_ble_eq_true rfl)
  rw [lg_entry_eq]
  generalize (lg_sl ([.ref g0, .int (nI s9), .int (nI a)]) ++ List.replicate (3 - (lg_sl ([.ref g0, .int (nI s9), .int (nI a)])).length) Slot.unset).toArray = ls at hl ⊢
  have hl : lv_has ls 3 [(0, .ref g0), (1, .int (nI s9)), (2, .int (nI a))] := hl
  refine lv_aload_n hx hb d_Mo_isFor_0 rfl (lv_at hl 0 rfl) ?_
  refine lv_iload_n hx hb d_Mo_isFor_1 rfl (lv_at hl 1 rfl) ?_
  have hPc := hP.sub (ws' := [(g0, .inr (6, [.int co, .int (nI n), .ref m_sea, .ref m_center, .ref m_home, .ref m_borders, .int mp, .int mt, .ref m_owner, .ref m_units, .ref m_kind, .ref m_toX, .ref m_toY, .ref m_results, .ref m_known, .ref m_reached, .ref m_way, .ref m_aside, .ref m_origin, .ref m_retreats, .ref m_contested, .ref m_moved, .int msh, .ref m_past])), (m_units, .inl (cI, 12, .inl fu)), (m_kind, .inl (cI, 12, .inl (fun j => nI (Kd j))))]) [0, 1, 2] rfl
  refine vp_callSi (va_Run.run (va_runV (As := [.int (nI s9)]) (rest := []) ⟨hx, hb, hml, hown, hts⟩ (c_Mo_supports l D cI cZ cJ cS aT ceT  g0 m_sea m_center m_home m_borders m_owner m_units m_kind m_toX m_toY m_results m_known m_reached m_way m_aside m_origin m_retreats m_contested m_moved m_past n co mp mt msh fu Kd s9 hKd h_s9) (cwV 1 hts (tb_4 wd_841 wd_843 wp_44 wd_8 (tb_c wd_844)) rfl rfl rfl ⟨rfl, by decide, by decide, by decide +kernel⟩ ⟨Nat.le_of_ble_eq_true rfl, Nat.le_of_ble_eq_true rfl⟩) (tP_V hK hX hXH hPc (q := 0) rfl rfl) rfl rfl hl.1 rfl (lv_room (Nat.le_of_ble_eq_true rfl)) d_Mo_isFor_2 ⟨Nat.le_of_ble_eq_true rfl, Nat.le_of_ble_eq_true rfl⟩)) (fun r1 hr9 => ?_)
  rw [hr9]
  rcases bI_c (spt fu Kd s9) with ⟨hb3, e9⟩ | ⟨hb3, e9⟩
  · refine tr_top e9 ?_
    refine lv_if_eq (tgt := 36) hx hb d_Mo_isFor_5 (by decide) (fun h0 => absurd h0 (by decide)) (fun _ => ?_)
    refine lv_aload_n hx hb d_Mo_isFor_8 rfl (lv_at hl 0 rfl) ?_
    refine va_get (D := D) (ci := 6) (v := .ref m_toX) (C := R_Mo) (T := T_Mo) (N := 24) hx hb hts hin_Mo hown hK hP 0 rfl rfl 11 (by decide) (hts _ wd_715) (fun _ h9 => h9) rfl d_Mo_isFor_9 ?_
    refine lv_iload_n hx hb d_Mo_isFor_12 rfl (lv_at hl 1 rfl) ?_
    refine tr_iald (v := nI (X s9)) hx hb hK hP 3 0 rfl rfl s9 h_s9 (by decide) rfl d_Mo_isFor_13 ?_
    refine lv_iload_n hx hb d_Mo_isFor_14 rfl (lv_at hl 2 rfl) ?_
    refine lv_icmp_ne (tgt := 36) hx hb d_Mo_isFor_15 (by decide) (fun hc5 => ?_) (fun hc5 => ?_)
    · -- 15 taken
      have hc5 : ¬ X s9 = a := fun h9 => hc5 (congrArg nI h9)
      refine lv_iconst (v := 0) hx hb d_Mo_isFor_36 (by decide) ?_
      exact W.zret (v := 0) hx hb hr (by decide) (fun t ht hW => ⟨0, rfl, (bI_f (by simp [isF, hb3, hc5])).symm, ht⟩) (fun q hq => by cases hq) d_Mo_isFor_37
    · -- 15 not taken
      have hc5 : X s9 = a := (nI_lit (Nat.lt_trans (hX9 _) (by decide)) (Nat.lt_trans h_a (by decide))).mp hc5
      refine lv_aload_n hx hb d_Mo_isFor_18 rfl (lv_at hl 0 rfl) ?_
      refine lv_iload_n hx hb d_Mo_isFor_19 rfl (lv_at hl 2 rfl) ?_
      refine lv_aload_n hx hb d_Mo_isFor_20 rfl (lv_at hl 0 rfl) ?_
      refine va_get (D := D) (ci := 6) (v := .ref m_toY) (C := R_Mo) (T := T_Mo) (N := 24) hx hb hts hin_Mo hown hK hP 0 rfl rfl 12 (by decide) (hts _ wd_716) (fun _ h9 => h9) rfl d_Mo_isFor_21 ?_
      refine lv_iload_n hx hb d_Mo_isFor_24 rfl (lv_at hl 1 rfl) ?_
      refine tr_iald (v := nI (Y s9)) hx hb hK hP 4 0 rfl rfl s9 h_s9 (by decide) rfl d_Mo_isFor_25 ?_
      have hPc := hP.sub (ws' := [(g0, .inr (6, [.int co, .int (nI n), .ref m_sea, .ref m_center, .ref m_home, .ref m_borders, .int mp, .int mt, .ref m_owner, .ref m_units, .ref m_kind, .ref m_toX, .ref m_toY, .ref m_results, .ref m_known, .ref m_reached, .ref m_way, .ref m_aside, .ref m_origin, .ref m_retreats, .ref m_contested, .ref m_moved, .int msh, .ref m_past])), (m_units, .inl (cI, 12, .inl fu)), (m_kind, .inl (cI, 12, .inl (fun j => nI (Kd j)))), (m_toX, .inl (cI, 12, .inl (fun j => nI (X j))))]) [0, 1, 2, 3] rfl
      refine vp_callSi (va_Run.run (va_runV (As := [.int (nI a), .int (nI (Y s9))]) (rest := []) ⟨hx, hb, hml, hown, hts⟩ (c_Mo_movesTo l D cI cZ cJ cS aT ceT  g0 m_sea m_center m_home m_borders m_owner m_units m_kind m_toX m_toY m_results m_known m_reached m_way m_aside m_origin m_retreats m_contested m_moved m_past n co mp mt msh fu Kd X a (Y s9) hKd hX9 h_a (hY9 _)) (cwV 2 hts (tb_4 wd_849 wd_851 wp_46 wd_8 (tb_c wd_852)) rfl rfl rfl ⟨rfl, by decide, by decide, by decide +kernel⟩ ⟨Nat.le_of_ble_eq_true rfl, Nat.le_of_ble_eq_true rfl⟩) (tP_V hK hX hXH hPc (q := 0) rfl rfl) rfl rfl hl.1 rfl (lv_room (Nat.le_of_ble_eq_true rfl)) d_Mo_isFor_26 ⟨Nat.le_of_ble_eq_true rfl, Nat.le_of_ble_eq_true rfl⟩)) (fun r6 hr9 => ?_)
      rw [hr9]
      rcases bI_c (mvT fu Kd X a (Y s9)) with ⟨hb8, e9⟩ | ⟨hb8, e9⟩
      · refine tr_top e9 ?_
        refine lv_if_eq (tgt := 36) hx hb d_Mo_isFor_29 (by decide) (fun h0 => absurd h0 (by decide)) (fun _ => ?_)
        refine lv_iconst (v := 1) hx hb d_Mo_isFor_32 (by decide) ?_
        refine lv_goto (tgt := 37) hx hb d_Mo_isFor_33 (by decide) ?_
        exact W.zret (v := 1) hx hb hr (by decide) (fun t ht hW => ⟨1, rfl, (bI_t (by simp [isF, hb3, hc5, hb8])).symm, ht⟩) (fun q hq => by cases hq) d_Mo_isFor_37
      · refine tr_top e9 ?_
        refine lv_if_eq (tgt := 36) hx hb d_Mo_isFor_29 (by decide) (fun _ => ?_) (fun h0 => absurd (by decide) h0)
        refine lv_iconst (v := 0) hx hb d_Mo_isFor_36 (by decide) ?_
        exact W.zret (v := 0) hx hb hr (by decide) (fun t ht hW => ⟨0, rfl, (bI_f (by simp [isF, hb3, hc5, hb8])).symm, ht⟩) (fun q hq => by cases hq) d_Mo_isFor_37
  · refine tr_top e9 ?_
    refine lv_if_eq (tgt := 36) hx hb d_Mo_isFor_5 (by decide) (fun _ => ?_) (fun h0 => absurd (by decide) h0)
    refine lv_iconst (v := 0) hx hb d_Mo_isFor_36 (by decide) ?_
    exact W.zret (v := 0) hx hb hr (by decide) (fun t ht hW => ⟨0, rfl, (bI_f (by simp [isF, hb3])).symm, ht⟩) (fun q hq => by cases hq) d_Mo_isFor_37

theorem d_Mo_isForStaying_0 : decode b_Mo_isForStaying 0 = .ok (.aload_n 0, 1) := by decide +kernel
theorem d_Mo_isForStaying_1 : decode b_Mo_isForStaying 1 = .ok (.iload_n 1, 1) := by decide +kernel
theorem d_Mo_isForStaying_2 : decode b_Mo_isForStaying 2 = .ok (.invokevirtual 118, 3) := by decide +kernel
theorem d_Mo_isForStaying_5 : decode b_Mo_isForStaying 5 = .ok (.ifCond .eq 44, 3) := by decide +kernel
theorem d_Mo_isForStaying_8 : decode b_Mo_isForStaying 8 = .ok (.aload_n 0, 1) := by decide +kernel
theorem d_Mo_isForStaying_9 : decode b_Mo_isForStaying 9 = .ok (.getfield 32, 3) := by decide +kernel
theorem d_Mo_isForStaying_12 : decode b_Mo_isForStaying 12 = .ok (.iload_n 1, 1) := by decide +kernel
theorem d_Mo_isForStaying_13 : decode b_Mo_isForStaying 13 = .ok (.iaload, 1) := by decide +kernel
theorem d_Mo_isForStaying_14 : decode b_Mo_isForStaying 14 = .ok (.iload_n 2, 1) := by decide +kernel
theorem d_Mo_isForStaying_15 : decode b_Mo_isForStaying 15 = .ok (.if_icmp .ne 34, 3) := by decide +kernel
theorem d_Mo_isForStaying_18 : decode b_Mo_isForStaying 18 = .ok (.aload_n 0, 1) := by decide +kernel
theorem d_Mo_isForStaying_19 : decode b_Mo_isForStaying 19 = .ok (.getfield 35, 3) := by decide +kernel
theorem d_Mo_isForStaying_22 : decode b_Mo_isForStaying 22 = .ok (.iload_n 1, 1) := by decide +kernel
theorem d_Mo_isForStaying_23 : decode b_Mo_isForStaying 23 = .ok (.iaload, 1) := by decide +kernel
theorem d_Mo_isForStaying_24 : decode b_Mo_isForStaying 24 = .ok (.iload_n 2, 1) := by decide +kernel
theorem d_Mo_isForStaying_25 : decode b_Mo_isForStaying 25 = .ok (.if_icmp .ne 24, 3) := by decide +kernel
theorem d_Mo_isForStaying_28 : decode b_Mo_isForStaying 28 = .ok (.aload_n 0, 1) := by decide +kernel
theorem d_Mo_isForStaying_29 : decode b_Mo_isForStaying 29 = .ok (.getfield 26, 3) := by decide +kernel
theorem d_Mo_isForStaying_32 : decode b_Mo_isForStaying 32 = .ok (.iload_n 2, 1) := by decide +kernel
theorem d_Mo_isForStaying_33 : decode b_Mo_isForStaying 33 = .ok (.iaload, 1) := by decide +kernel
theorem d_Mo_isForStaying_34 : decode b_Mo_isForStaying 34 = .ok (.ifCond .lt 15, 3) := by decide +kernel
theorem d_Mo_isForStaying_37 : decode b_Mo_isForStaying 37 = .ok (.aload_n 0, 1) := by decide +kernel
theorem d_Mo_isForStaying_38 : decode b_Mo_isForStaying 38 = .ok (.iload_n 2, 1) := by decide +kernel
theorem d_Mo_isForStaying_39 : decode b_Mo_isForStaying 39 = .ok (.invokevirtual 109, 3) := by decide +kernel
theorem d_Mo_isForStaying_42 : decode b_Mo_isForStaying 42 = .ok (.ifCond .ne 7, 3) := by decide +kernel
theorem d_Mo_isForStaying_45 : decode b_Mo_isForStaying 45 = .ok (.iconst 1, 1) := by decide +kernel
theorem d_Mo_isForStaying_46 : decode b_Mo_isForStaying 46 = .ok (.goto 4, 3) := by decide +kernel
theorem d_Mo_isForStaying_49 : decode b_Mo_isForStaying 49 = .ok (.iconst 0, 1) := by decide +kernel
theorem d_Mo_isForStaying_50 : decode b_Mo_isForStaying 50 = .ok (.ireturn, 1) := by decide +kernel

set_option maxHeartbeats 4000000 in
set_option maxRecDepth 100000 in
theorem c_Mo_isForStaying (l : Launch) (D : va_G) (cI cZ cJ cS : ClassId) (aT : Nat) (ceT : Cell) (g0 m_sea m_center m_home m_borders m_owner m_units m_kind m_toX m_toY m_results m_known m_reached m_way m_aside m_origin m_retreats m_contested m_moved m_past : Nat) (n : Nat) (co mp mt msh : Int32) (fu : Nat → Int32) (Kd : Nat → Nat) (X : Nat → Nat) (Y : Nat → Nat) (s9 : Nat) (a : Nat) (hKd : ∀ j, Kd j < 4) (hX9 : ∀ j, X j < 12) (hY9 : ∀ j, Y j < 12) (h_s9 : s9 < 12) (h_a : a < 12)  : Met l y_Mo_isForStaying w_Mo_isForStaying ({ frames := 1, cells := 0, slots := 0, locals := 21 }) (tP D cI cZ cJ cS aT ceT [.ref g0, .int (nI s9), .int (nI a)] [(g0, .inr (6, [.int co, .int (nI n), .ref m_sea, .ref m_center, .ref m_home, .ref m_borders, .int mp, .int mt, .ref m_owner, .ref m_units, .ref m_kind, .ref m_toX, .ref m_toY, .ref m_results, .ref m_known, .ref m_reached, .ref m_way, .ref m_aside, .ref m_origin, .ref m_retreats, .ref m_contested, .ref m_moved, .int msh, .ref m_past])), (m_units, .inl (cI, 12, .inl fu)), (m_kind, .inl (cI, 12, .inl (fun j => nI (Kd j)))), (m_toX, .inl (cI, 12, .inl (fun j => nI (X j)))), (m_toY, .inl (cI, 12, .inl (fun j => nI (Y j))))]) (vp_Si (fun r => r = bI (isS fu Kd X Y s9 a))) 0 0 (fun _ => False) := by
  refine Met.ofW (cc := b_Mo_isForStaying) (maxL := 3) (ret := (some .boolean)) (by decide) rfl ?_
  intro p e s m args below meth c s₁ B hml hv
  obtain ⟨rfl, hP, hK, hX⟩ := hv
  have hx := B.exec
  have hb := B.bytes
  have hr := B.returns
  have hts0 := atoms_spec (ws := w_Mo_isForStaying) B.pre
  have hts : ∀ w ∈ TB, w.before _ s = true := fun w h => hts0 w (List.mem_cons_of_mem _ h)
  have hown : s.vm.findClass R_Mo = some m.cls := findClass_of_methodNamed B.named
  have hlocks := B.notSynchronized
  have hXH : s.heap[aT]? = s.heap[aT]? := rfl
  have hl := lv_entry ([.ref g0, .int (nI s9), .int (nI a)]) (n := 3) (Nat.le_of_ble_eq_true rfl)
  rw [lg_entry_eq]
  generalize (lg_sl ([.ref g0, .int (nI s9), .int (nI a)]) ++ List.replicate (3 - (lg_sl ([.ref g0, .int (nI s9), .int (nI a)])).length) Slot.unset).toArray = ls at hl ⊢
  have hl : lv_has ls 3 [(0, .ref g0), (1, .int (nI s9)), (2, .int (nI a))] := hl
  refine lv_aload_n hx hb d_Mo_isForStaying_0 rfl (lv_at hl 0 rfl) ?_
  refine lv_iload_n hx hb d_Mo_isForStaying_1 rfl (lv_at hl 1 rfl) ?_
  have hPc := hP.sub (ws' := [(g0, .inr (6, [.int co, .int (nI n), .ref m_sea, .ref m_center, .ref m_home, .ref m_borders, .int mp, .int mt, .ref m_owner, .ref m_units, .ref m_kind, .ref m_toX, .ref m_toY, .ref m_results, .ref m_known, .ref m_reached, .ref m_way, .ref m_aside, .ref m_origin, .ref m_retreats, .ref m_contested, .ref m_moved, .int msh, .ref m_past])), (m_units, .inl (cI, 12, .inl fu)), (m_kind, .inl (cI, 12, .inl (fun j => nI (Kd j))))]) [0, 1, 2] rfl
  refine vp_callSi (va_Run.run (va_runV (As := [.int (nI s9)]) (rest := []) ⟨hx, hb, hml, hown, hts⟩ (c_Mo_supports l D cI cZ cJ cS aT ceT  g0 m_sea m_center m_home m_borders m_owner m_units m_kind m_toX m_toY m_results m_known m_reached m_way m_aside m_origin m_retreats m_contested m_moved m_past n co mp mt msh fu Kd s9 hKd h_s9) (cwV 1 hts (tb_4 wd_841 wd_843 wp_44 wd_8 (tb_c wd_844)) rfl rfl rfl ⟨rfl, by decide, by decide, by decide +kernel⟩ ⟨Nat.le_of_ble_eq_true rfl, Nat.le_of_ble_eq_true rfl⟩) (tP_V hK hX hXH hPc (q := 0) rfl rfl) rfl rfl hl.1 rfl (lv_room (Nat.le_of_ble_eq_true rfl)) d_Mo_isForStaying_2 ⟨Nat.le_of_ble_eq_true rfl, Nat.le_of_ble_eq_true rfl⟩)) (fun r1 hr9 => ?_)
  rw [hr9]
  rcases bI_c (spt fu Kd s9) with ⟨hb3, e9⟩ | ⟨hb3, e9⟩
  · refine tr_top e9 ?_
    refine lv_if_eq (tgt := 49) hx hb d_Mo_isForStaying_5 (by decide) (fun h0 => absurd h0 (by decide)) (fun _ => ?_)
    refine lv_aload_n hx hb d_Mo_isForStaying_8 rfl (lv_at hl 0 rfl) ?_
    refine va_get (D := D) (ci := 6) (v := .ref m_toX) (C := R_Mo) (T := T_Mo) (N := 24) hx hb hts hin_Mo hown hK hP 0 rfl rfl 11 (by decide) (hts _ wd_715) (fun _ h9 => h9) rfl d_Mo_isForStaying_9 ?_
    refine lv_iload_n hx hb d_Mo_isForStaying_12 rfl (lv_at hl 1 rfl) ?_
    refine tr_iald (v := nI (X s9)) hx hb hK hP 3 0 rfl rfl s9 h_s9 (by decide) rfl d_Mo_isForStaying_13 ?_
    refine lv_iload_n hx hb d_Mo_isForStaying_14 rfl (lv_at hl 2 rfl) ?_
    refine lv_icmp_ne (tgt := 49) hx hb d_Mo_isForStaying_15 (by decide) (fun hc5 => ?_) (fun hc5 => ?_)
    · -- 15 taken
      have hc5 : ¬ X s9 = a := fun h9 => hc5 (congrArg nI h9)
      refine lv_iconst (v := 0) hx hb d_Mo_isForStaying_49 (by decide) ?_
      exact W.zret (v := 0) hx hb hr (by decide) (fun t ht hW => ⟨0, rfl, (bI_f (by simp [isS, hb3, hc5])).symm, ht⟩) (fun q hq => by cases hq) d_Mo_isForStaying_50
    · -- 15 not taken
      have hc5 : X s9 = a := (nI_lit (Nat.lt_trans (hX9 _) (by decide)) (Nat.lt_trans h_a (by decide))).mp hc5
      refine lv_aload_n hx hb d_Mo_isForStaying_18 rfl (lv_at hl 0 rfl) ?_
      refine va_get (D := D) (ci := 6) (v := .ref m_toY) (C := R_Mo) (T := T_Mo) (N := 24) hx hb hts hin_Mo hown hK hP 0 rfl rfl 12 (by decide) (hts _ wd_716) (fun _ h9 => h9) rfl d_Mo_isForStaying_19 ?_
      refine lv_iload_n hx hb d_Mo_isForStaying_22 rfl (lv_at hl 1 rfl) ?_
      refine tr_iald (v := nI (Y s9)) hx hb hK hP 4 0 rfl rfl s9 h_s9 (by decide) rfl d_Mo_isForStaying_23 ?_
      refine lv_iload_n hx hb d_Mo_isForStaying_24 rfl (lv_at hl 2 rfl) ?_
      refine lv_icmp_ne (tgt := 49) hx hb d_Mo_isForStaying_25 (by decide) (fun hc6 => ?_) (fun hc6 => ?_)
      · -- 25 taken
        have hc6 : ¬ Y s9 = a := fun h9 => hc6 (congrArg nI h9)
        refine lv_iconst (v := 0) hx hb d_Mo_isForStaying_49 (by decide) ?_
        exact W.zret (v := 0) hx hb hr (by decide) (fun t ht hW => ⟨0, rfl, (bI_f (by simp [isS, hb3, hc5, hc6])).symm, ht⟩) (fun q hq => by cases hq) d_Mo_isForStaying_50
      · -- 25 not taken
        have hc6 : Y s9 = a := (nI_lit (Nat.lt_trans (hY9 _) (by decide)) (Nat.lt_trans h_a (by decide))).mp hc6
        refine lv_aload_n hx hb d_Mo_isForStaying_28 rfl (lv_at hl 0 rfl) ?_
        refine va_get (D := D) (ci := 6) (v := .ref m_units) (C := R_Mo) (T := T_Mo) (N := 24) hx hb hts hin_Mo hown hK hP 0 rfl rfl 9 (by decide) (hts _ wd_713) (fun _ h9 => h9) rfl d_Mo_isForStaying_29 ?_
        refine lv_iload_n hx hb d_Mo_isForStaying_32 rfl (lv_at hl 2 rfl) ?_
        refine tr_iald (v := fu a) hx hb hK hP 1 0 rfl rfl a h_a (by decide) rfl d_Mo_isForStaying_33 ?_
        refine lv_if_lt (tgt := 49) hx hb d_Mo_isForStaying_34 (by decide) (fun hc7 => ?_) (fun hc7 => ?_)
        · -- 34 taken
          refine lv_iconst (v := 0) hx hb d_Mo_isForStaying_49 (by decide) ?_
          exact W.zret (v := 0) hx hb hr (by decide) (fun t ht hW => ⟨0, rfl, (bI_f (by simp [isS, hb3, hc5, hc6, hc7])).symm, ht⟩) (fun q hq => by cases hq) d_Mo_isForStaying_50
        · -- 34 not taken
          refine lv_aload_n hx hb d_Mo_isForStaying_37 rfl (lv_at hl 0 rfl) ?_
          refine lv_iload_n hx hb d_Mo_isForStaying_38 rfl (lv_at hl 2 rfl) ?_
          have hPc := hP.sub (ws' := [(g0, .inr (6, [.int co, .int (nI n), .ref m_sea, .ref m_center, .ref m_home, .ref m_borders, .int mp, .int mt, .ref m_owner, .ref m_units, .ref m_kind, .ref m_toX, .ref m_toY, .ref m_results, .ref m_known, .ref m_reached, .ref m_way, .ref m_aside, .ref m_origin, .ref m_retreats, .ref m_contested, .ref m_moved, .int msh, .ref m_past])), (m_units, .inl (cI, 12, .inl fu)), (m_kind, .inl (cI, 12, .inl (fun j => nI (Kd j))))]) [0, 1, 2] rfl
          refine vp_callSi (va_Run.run (va_runV (As := [.int (nI a)]) (rest := []) ⟨hx, hb, hml, hown, hts⟩ (c_Mo_moves l D cI cZ cJ cS aT ceT  g0 m_sea m_center m_home m_borders m_owner m_units m_kind m_toX m_toY m_results m_known m_reached m_way m_aside m_origin m_retreats m_contested m_moved m_past n co mp mt msh fu Kd a hKd h_a) (cwV 1 hts (tb_4 wd_853 wd_855 wp_47 wd_8 (tb_c wd_856)) rfl rfl rfl ⟨rfl, by decide, by decide, by decide +kernel⟩ ⟨Nat.le_of_ble_eq_true rfl, Nat.le_of_ble_eq_true rfl⟩) (tP_V hK hX hXH hPc (q := 0) rfl rfl) rfl rfl hl.1 rfl (lv_room (Nat.le_of_ble_eq_true rfl)) d_Mo_isForStaying_39 ⟨Nat.le_of_ble_eq_true rfl, Nat.le_of_ble_eq_true rfl⟩)) (fun r8 hr9 => ?_)
          rw [hr9]
          rcases bI_c (mvs fu Kd a) with ⟨hb10, e9⟩ | ⟨hb10, e9⟩
          · refine tr_top e9 ?_
            refine lv_if_ne (tgt := 49) hx hb d_Mo_isForStaying_42 (by decide) (fun _ => ?_) (fun h0 => absurd h0 (by decide))
            refine lv_iconst (v := 0) hx hb d_Mo_isForStaying_49 (by decide) ?_
            exact W.zret (v := 0) hx hb hr (by decide) (fun t ht hW => ⟨0, rfl, (bI_f (by simp [isS, hb3, hc5, hc6, hc7, hb10])).symm, ht⟩) (fun q hq => by cases hq) d_Mo_isForStaying_50
          · refine tr_top e9 ?_
            refine lv_if_ne (tgt := 49) hx hb d_Mo_isForStaying_42 (by decide) (fun h0 => absurd (by decide) h0) (fun _ => ?_)
            refine lv_iconst (v := 1) hx hb d_Mo_isForStaying_45 (by decide) ?_
            refine lv_goto (tgt := 50) hx hb d_Mo_isForStaying_46 (by decide) ?_
            exact W.zret (v := 1) hx hb hr (by decide) (fun t ht hW => ⟨1, rfl, (bI_t (by simp [isS, hb3, hc5, hc6, hc7, hb10])).symm, ht⟩) (fun q hq => by cases hq) d_Mo_isForStaying_50
  · refine tr_top e9 ?_
    refine lv_if_eq (tgt := 49) hx hb d_Mo_isForStaying_5 (by decide) (fun _ => ?_) (fun h0 => absurd (by decide) h0)
    refine lv_iconst (v := 0) hx hb d_Mo_isForStaying_49 (by decide) ?_
    exact W.zret (v := 0) hx hb hr (by decide) (fun t ht hW => ⟨0, rfl, (bI_f (by simp [isS, hb3])).symm, ht⟩) (fun q hq => by cases hq) d_Mo_isForStaying_50
