theorem d_Mo_thrown_0 : decode b_Mo_thrown 0 = .ok (.aload_n 0, 1) := by decide +kernel
theorem d_Mo_thrown_1 : decode b_Mo_thrown 1 = .ok (.getfield 68, 3) := by decide +kernel
theorem d_Mo_thrown_4 : decode b_Mo_thrown 4 = .ok (.ireturn, 1) := by decide +kernel
theorem wd_704 : (Cond.fieldLink "SheetWarModel" (68 : Nat) "SheetWarModel" "code" "I") ∈ TB := tb_t 704 (by decide +kernel) (by decide +kernel)
set_option maxHeartbeats 4000000 in
set_option maxRecDepth 100000 in
theorem c_Mo_thrown (l : Launch) (D : va_G) (cI cZ cJ cS : ClassId) (aT : Nat) (ceT : Cell) (g0 m_sea m_center m_home m_borders m_owner m_units m_kind m_toX m_toY m_results m_known m_reached m_way m_aside m_origin m_retreats m_contested m_moved m_past : Nat) (co ar mp mt msh : Int32)  : Met l y_Mo_thrown w_Mo_thrown ({ frames := 0, cells := 0, slots := 0, locals := 0 }) (tP D cI cZ cJ cS aT ceT [.ref g0] [(g0, .inr (6, [.int co, .int ar, .ref m_sea, .ref m_center, .ref m_home, .ref m_borders, .int mp, .int mt, .ref m_owner, .ref m_units, .ref m_kind, .ref m_toX, .ref m_toY, .ref m_results, .ref m_known, .ref m_reached, .ref m_way, .ref m_aside, .ref m_origin, .ref m_retreats, .ref m_contested, .ref m_moved, .int msh, .ref m_past]))]) (vp_Si (fun r => r = co)) 0 0 (fun _ => False) := by
  refine Met.ofW (cc := b_Mo_thrown) (maxL := 1) (ret := (some .int)) (by decide) rfl ?_
  intro p e s m args below meth c s₁ B hml hv
  obtain ⟨rfl, hP, hK, hX⟩ := hv
  have hx := B.exec
  have hb := B.bytes
  have hr := B.returns
  have hts0 := atoms_spec (ws := w_Mo_thrown) B.pre
  have hts : ∀ w ∈ TB, w.before _ s = true := fun w h => hts0 w (List.mem_cons_of_mem _ h)
  have hown : s.vm.findClass R_Mo = some m.cls := findClass_of_methodNamed B.named
  have hlocks := B.notSynchronized
  have hXH : s.heap[aT]? = s.heap[aT]? := rfl
  have hl := lv_entry ([.ref g0]) (n := 1) (Nat.le_of_ble_eq_true rfl)
  rw [lg_entry_eq]
  generalize (lg_sl ([.ref g0]) ++ List.replicate (1 - (lg_sl ([.ref g0])).length) Slot.unset).toArray = ls at hl ⊢
  have hl : lv_has ls 1 [(0, .ref g0)] := hl
  refine lv_aload_n hx hb d_Mo_thrown_0 rfl (lv_at hl 0 rfl) ?_
  refine va_get (D := D) (ci := 6) (v := .int co) (C := R_Mo) (T := T_Mo) (N := 24) hx hb hts hin_Mo hown hK hP 0 rfl rfl 0 (by decide) (hts _ wd_704) (fun _ h9 => h9) rfl d_Mo_thrown_1 ?_
  exact W.iret (v := co) hx hb hr (fun t ht hW => ⟨co, rfl, rfl, ht⟩) (fun q hq => by cases hq) d_Mo_thrown_4

theorem d_Mo_isArea_0 : decode b_Mo_isArea 0 = .ok (.iload_n 1, 1) := by decide +kernel
theorem d_Mo_isArea_1 : decode b_Mo_isArea 1 = .ok (.ifCond .lt 15, 3) := by decide +kernel
theorem d_Mo_isArea_4 : decode b_Mo_isArea 4 = .ok (.iload_n 1, 1) := by decide +kernel
theorem d_Mo_isArea_5 : decode b_Mo_isArea 5 = .ok (.aload_n 0, 1) := by decide +kernel
theorem d_Mo_isArea_6 : decode b_Mo_isArea 6 = .ok (.getfield 72, 3) := by decide +kernel
theorem d_Mo_isArea_9 : decode b_Mo_isArea 9 = .ok (.if_icmp .ge 7, 3) := by decide +kernel
theorem d_Mo_isArea_12 : decode b_Mo_isArea 12 = .ok (.iconst 1, 1) := by decide +kernel
theorem d_Mo_isArea_13 : decode b_Mo_isArea 13 = .ok (.goto 4, 3) := by decide +kernel
theorem d_Mo_isArea_16 : decode b_Mo_isArea 16 = .ok (.iconst 0, 1) := by decide +kernel
theorem d_Mo_isArea_17 : decode b_Mo_isArea 17 = .ok (.ireturn, 1) := by decide +kernel
theorem wd_705 : (Cond.fieldLink "SheetWarModel" (72 : Nat) "SheetWarModel" "areas" "I") ∈ TB := tb_t 705 (by decide +kernel) (by decide +kernel)
set_option maxHeartbeats 4000000 in
set_option maxRecDepth 100000 in
theorem c_Mo_isArea (l : Launch) (D : va_G) (cI cZ cJ cS : ClassId) (aT : Nat) (ceT : Cell) (g0 m_sea m_center m_home m_borders m_owner m_units m_kind m_toX m_toY m_results m_known m_reached m_way m_aside m_origin m_retreats m_contested m_moved m_past : Nat) (co ar mp mt msh : Int32) (a : Int32)  : Met l y_Mo_isArea w_Mo_isArea ({ frames := 0, cells := 0, slots := 0, locals := 0 }) (tP D cI cZ cJ cS aT ceT [.ref g0, .int a] [(g0, .inr (6, [.int co, .int ar, .ref m_sea, .ref m_center, .ref m_home, .ref m_borders, .int mp, .int mt, .ref m_owner, .ref m_units, .ref m_kind, .ref m_toX, .ref m_toY, .ref m_results, .ref m_known, .ref m_reached, .ref m_way, .ref m_aside, .ref m_origin, .ref m_retreats, .ref m_contested, .ref m_moved, .int msh, .ref m_past]))]) (vp_Si (fun r => (r = 1 ∧ (0 ≤ a ∧ a < ar)) ∨ (r = 0 ∧ ¬ (0 ≤ a ∧ a < ar)))) 0 0 (fun _ => False) := by
  refine Met.ofW (cc := b_Mo_isArea) (maxL := 2) (ret := (some .boolean)) (by decide) rfl ?_
  intro p e s m args below meth c s₁ B hml hv
  obtain ⟨rfl, hP, hK, hX⟩ := hv
  have hx := B.exec
  have hb := B.bytes
  have hr := B.returns
  have hts0 := atoms_spec (ws := w_Mo_isArea) B.pre
  have hts : ∀ w ∈ TB, w.before _ s = true := fun w h => hts0 w (List.mem_cons_of_mem _ h)
  have hown : s.vm.findClass R_Mo = some m.cls := findClass_of_methodNamed B.named
  have hlocks := B.notSynchronized
  have hXH : s.heap[aT]? = s.heap[aT]? := rfl
  have hl := lv_entry ([.ref g0, .int a]) (n := 2) (Nat.le_of_ble_eq_true rfl)
  rw [lg_entry_eq]
  generalize (lg_sl ([.ref g0, .int a]) ++ List.replicate (2 - (lg_sl ([.ref g0, .int a])).length) Slot.unset).toArray = ls at hl ⊢
  have hl : lv_has ls 2 [(0, .ref g0), (1, .int a)] := hl
  refine lv_iload_n hx hb d_Mo_isArea_0 rfl (lv_at hl 1 rfl) ?_
  refine lv_if_lt (tgt := 16) hx hb d_Mo_isArea_1 (by decide) (fun hc1 => ?_) (fun hc1 => ?_)
  · -- 1 taken
    refine lv_iconst (v := 0) hx hb d_Mo_isArea_16 (by decide) ?_
    exact W.zret (v := 0) hx hb hr (by decide) (fun t ht hW => ⟨0, rfl, Or.inr ⟨rfl, by revert hc1; simp only [Int32.lt_iff_toInt_lt, Int32.le_iff_toInt_le, ← Int32.toInt_inj, Int32.reduceToInt, i32_m1]; omega⟩, ht⟩) (fun q hq => by cases hq) d_Mo_isArea_17
  · -- 1 not taken
    refine lv_iload_n hx hb d_Mo_isArea_4 rfl (lv_at hl 1 rfl) ?_
    refine lv_aload_n hx hb d_Mo_isArea_5 rfl (lv_at hl 0 rfl) ?_
    refine va_get (D := D) (ci := 6) (v := .int ar) (C := R_Mo) (T := T_Mo) (N := 24) hx hb hts hin_Mo hown hK hP 0 rfl rfl 1 (by decide) (hts _ wd_705) (fun _ h9 => h9) rfl d_Mo_isArea_6 ?_
    refine lv_icmp_ge (tgt := 16) hx hb d_Mo_isArea_9 (by decide) (fun hc2 => ?_) (fun hc2 => ?_)
    · -- 9 taken
      refine lv_iconst (v := 0) hx hb d_Mo_isArea_16 (by decide) ?_
      exact W.zret (v := 0) hx hb hr (by decide) (fun t ht hW => ⟨0, rfl, Or.inr ⟨rfl, by revert hc1 hc2; simp only [Int32.lt_iff_toInt_lt, Int32.le_iff_toInt_le, ← Int32.toInt_inj, Int32.reduceToInt, i32_m1]; omega⟩, ht⟩) (fun q hq => by cases hq) d_Mo_isArea_17
    · -- 9 not taken
      refine lv_iconst (v := 1) hx hb d_Mo_isArea_12 (by decide) ?_
      refine lv_goto (tgt := 17) hx hb d_Mo_isArea_13 (by decide) ?_
      exact W.zret (v := 1) hx hb hr (by decide) (fun t ht hW => ⟨1, rfl, Or.inl ⟨rfl, by revert hc1 hc2; simp only [Int32.lt_iff_toInt_lt, Int32.le_iff_toInt_le, ← Int32.toInt_inj, Int32.reduceToInt, i32_m1]; omega⟩, ht⟩) (fun q hq => by cases hq) d_Mo_isArea_17

theorem d_Mo_isPlayer_0 : decode b_Mo_isPlayer 0 = .ok (.iload_n 0, 1) := by decide +kernel
theorem d_Mo_isPlayer_1 : decode b_Mo_isPlayer 1 = .ok (.ifCond .lt 12, 3) := by decide +kernel
theorem d_Mo_isPlayer_4 : decode b_Mo_isPlayer 4 = .ok (.iload_n 0, 1) := by decide +kernel
theorem d_Mo_isPlayer_5 : decode b_Mo_isPlayer 5 = .ok (.iconst 4, 1) := by decide +kernel
theorem d_Mo_isPlayer_6 : decode b_Mo_isPlayer 6 = .ok (.if_icmp .ge 7, 3) := by decide +kernel
theorem d_Mo_isPlayer_9 : decode b_Mo_isPlayer 9 = .ok (.iconst 1, 1) := by decide +kernel
theorem d_Mo_isPlayer_10 : decode b_Mo_isPlayer 10 = .ok (.goto 4, 3) := by decide +kernel
theorem d_Mo_isPlayer_13 : decode b_Mo_isPlayer 13 = .ok (.iconst 0, 1) := by decide +kernel
theorem d_Mo_isPlayer_14 : decode b_Mo_isPlayer 14 = .ok (.ireturn, 1) := by decide +kernel

set_option maxHeartbeats 4000000 in
set_option maxRecDepth 100000 in
theorem c_Mo_isPlayer (l : Launch) (D : va_G) (cI cZ cJ cS : ClassId) (aT : Nat) (ceT : Cell) (a : Int32)  : Met l y_Mo_isPlayer w_Mo_isPlayer ({ frames := 0, cells := 0, slots := 0, locals := 0 }) (tP D cI cZ cJ cS aT ceT [.int a] []) (vp_Si (fun r => (r = 1 ∧ (0 ≤ a ∧ a < 4)) ∨ (r = 0 ∧ ¬ (0 ≤ a ∧ a < 4)))) 0 0 (fun _ => False) := by
  refine Met.ofW (cc := b_Mo_isPlayer) (maxL := 1) (ret := (some .boolean)) (by decide) rfl ?_
  intro p e s m args below meth c s₁ B hml hv
  obtain ⟨rfl, hP, hK, hX⟩ := hv
  have hx := B.exec
  have hb := B.bytes
  have hr := B.returns
  have hts0 := atoms_spec (ws := w_Mo_isPlayer) B.pre
  have hts : ∀ w ∈ TB, w.before _ s = true := fun w h => hts0 w (List.mem_cons_of_mem _ h)
  have hown : s.vm.findClass R_Mo = some m.cls := findClass_of_methodNamed B.named
  have hlocks := B.notSynchronized
  have hXH : s.heap[aT]? = s.heap[aT]? := rfl
  have hl := lv_entry ([.int a]) (n := 1) (Nat.le_of_ble_eq_true rfl)
  rw [lg_entry_eq]
  generalize (lg_sl ([.int a]) ++ List.replicate (1 - (lg_sl ([.int a])).length) Slot.unset).toArray = ls at hl ⊢
  have hl : lv_has ls 1 [(0, .int a)] := hl
  refine lv_iload_n hx hb d_Mo_isPlayer_0 rfl (lv_at hl 0 rfl) ?_
  refine lv_if_lt (tgt := 13) hx hb d_Mo_isPlayer_1 (by decide) (fun hc1 => ?_) (fun hc1 => ?_)
  · -- 1 taken
    refine lv_iconst (v := 0) hx hb d_Mo_isPlayer_13 (by decide) ?_
    exact W.zret (v := 0) hx hb hr (by decide) (fun t ht hW => ⟨0, rfl, Or.inr ⟨rfl, by revert hc1; simp only [Int32.lt_iff_toInt_lt, Int32.le_iff_toInt_le, ← Int32.toInt_inj, Int32.reduceToInt, i32_m1]; omega⟩, ht⟩) (fun q hq => by cases hq) d_Mo_isPlayer_14
  · -- 1 not taken
    refine lv_iload_n hx hb d_Mo_isPlayer_4 rfl (lv_at hl 0 rfl) ?_
    refine lv_iconst (v := 4) hx hb d_Mo_isPlayer_5 (by decide) ?_
    refine lv_icmp_ge (tgt := 13) hx hb d_Mo_isPlayer_6 (by decide) (fun hc2 => ?_) (fun hc2 => ?_)
    · -- 6 taken
      refine lv_iconst (v := 0) hx hb d_Mo_isPlayer_13 (by decide) ?_
      exact W.zret (v := 0) hx hb hr (by decide) (fun t ht hW => ⟨0, rfl, Or.inr ⟨rfl, by revert hc1 hc2; simp only [Int32.lt_iff_toInt_lt, Int32.le_iff_toInt_le, ← Int32.toInt_inj, Int32.reduceToInt, i32_m1]; omega⟩, ht⟩) (fun q hq => by cases hq) d_Mo_isPlayer_14
    · -- 6 not taken
      refine lv_iconst (v := 1) hx hb d_Mo_isPlayer_9 (by decide) ?_
      refine lv_goto (tgt := 14) hx hb d_Mo_isPlayer_10 (by decide) ?_
      exact W.zret (v := 1) hx hb hr (by decide) (fun t ht hW => ⟨1, rfl, Or.inl ⟨rfl, by revert hc1 hc2; simp only [Int32.lt_iff_toInt_lt, Int32.le_iff_toInt_le, ← Int32.toInt_inj, Int32.reduceToInt, i32_m1]; omega⟩, ht⟩) (fun q hq => by cases hq) d_Mo_isPlayer_14

theorem d_Mo_area_0 : decode b_Mo_area 0 = .ok (.aload_n 0, 1) := by decide +kernel
theorem d_Mo_area_1 : decode b_Mo_area 1 = .ok (.iload_n 1, 1) := by decide +kernel
theorem d_Mo_area_2 : decode b_Mo_area 2 = .ok (.ifCond .lt 35, 3) := by decide +kernel
theorem d_Mo_area_5 : decode b_Mo_area 5 = .ok (.iload_n 1, 1) := by decide +kernel
theorem d_Mo_area_6 : decode b_Mo_area 6 = .ok (.iconst 1, 1) := by decide +kernel
theorem d_Mo_area_7 : decode b_Mo_area 7 = .ok (.if_icmp .gt 30, 3) := by decide +kernel
theorem d_Mo_area_10 : decode b_Mo_area 10 = .ok (.iload_n 3, 1) := by decide +kernel
theorem d_Mo_area_11 : decode b_Mo_area 11 = .ok (.iconst (-1), 1) := by decide +kernel
theorem d_Mo_area_12 : decode b_Mo_area 12 = .ok (.if_icmp .lt 25, 3) := by decide +kernel
theorem d_Mo_area_15 : decode b_Mo_area 15 = .ok (.iload_n 3, 1) := by decide +kernel
theorem d_Mo_area_16 : decode b_Mo_area 16 = .ok (.iconst 3, 1) := by decide +kernel
theorem d_Mo_area_17 : decode b_Mo_area 17 = .ok (.if_icmp .gt 20, 3) := by decide +kernel
theorem d_Mo_area_20 : decode b_Mo_area 20 = .ok (.iload_n 2, 1) := by decide +kernel
theorem d_Mo_area_21 : decode b_Mo_area 21 = .ok (.ifCond .eq 8, 3) := by decide +kernel
theorem d_Mo_area_24 : decode b_Mo_area 24 = .ok (.iload_n 1, 1) := by decide +kernel
theorem d_Mo_area_25 : decode b_Mo_area 25 = .ok (.iconst 1, 1) := by decide +kernel
theorem d_Mo_area_26 : decode b_Mo_area 26 = .ok (.if_icmp .eq 11, 3) := by decide +kernel
theorem d_Mo_area_29 : decode b_Mo_area 29 = .ok (.iload_n 3, 1) := by decide +kernel
theorem d_Mo_area_30 : decode b_Mo_area 30 = .ok (.ifCond .lt 11, 3) := by decide +kernel
theorem d_Mo_area_33 : decode b_Mo_area 33 = .ok (.iload_n 2, 1) := by decide +kernel
theorem d_Mo_area_34 : decode b_Mo_area 34 = .ok (.ifCond .ne 7, 3) := by decide +kernel
theorem d_Mo_area_37 : decode b_Mo_area 37 = .ok (.iconst 1, 1) := by decide +kernel
theorem d_Mo_area_38 : decode b_Mo_area 38 = .ok (.goto 24, 3) := by decide +kernel
theorem d_Mo_area_41 : decode b_Mo_area 41 = .ok (.aload_n 0, 1) := by decide +kernel
theorem d_Mo_area_42 : decode b_Mo_area 42 = .ok (.getfield 72, 3) := by decide +kernel
theorem d_Mo_area_45 : decode b_Mo_area 45 = .ok (.bipush 12, 2) := by decide +kernel
theorem d_Mo_area_47 : decode b_Mo_area 47 = .ok (.if_icmp .eq 10, 3) := by decide +kernel
theorem d_Mo_area_50 : decode b_Mo_area 50 = .ok (.aload_n 0, 1) := by decide +kernel
theorem d_Mo_area_51 : decode b_Mo_area 51 = .ok (.getfield 75, 3) := by decide +kernel
theorem d_Mo_area_54 : decode b_Mo_area 54 = .ok (.ifCond .eq 7, 3) := by decide +kernel
theorem d_Mo_area_57 : decode b_Mo_area 57 = .ok (.iconst 2, 1) := by decide +kernel
theorem d_Mo_area_58 : decode b_Mo_area 58 = .ok (.goto 4, 3) := by decide +kernel
theorem d_Mo_area_61 : decode b_Mo_area 61 = .ok (.iconst 0, 1) := by decide +kernel
theorem d_Mo_area_62 : decode b_Mo_area 62 = .ok (.putfield 68, 3) := by decide +kernel
theorem d_Mo_area_65 : decode b_Mo_area 65 = .ok (.aload_n 0, 1) := by decide +kernel
theorem d_Mo_area_66 : decode b_Mo_area 66 = .ok (.getfield 68, 3) := by decide +kernel
theorem d_Mo_area_69 : decode b_Mo_area 69 = .ok (.ifCond .eq 5, 3) := by decide +kernel
theorem d_Mo_area_72 : decode b_Mo_area 72 = .ok (.iconst 0, 1) := by decide +kernel
theorem d_Mo_area_73 : decode b_Mo_area 73 = .ok (.ireturn, 1) := by decide +kernel
theorem d_Mo_area_74 : decode b_Mo_area 74 = .ok (.aload_n 0, 1) := by decide +kernel
theorem d_Mo_area_75 : decode b_Mo_area 75 = .ok (.getfield 72, 3) := by decide +kernel
theorem d_Mo_area_78 : decode b_Mo_area 78 = .ok (.istore 4, 2) := by decide +kernel
theorem d_Mo_area_80 : decode b_Mo_area 80 = .ok (.aload_n 0, 1) := by decide +kernel
theorem d_Mo_area_81 : decode b_Mo_area 81 = .ok (.getfield 7, 3) := by decide +kernel
theorem d_Mo_area_84 : decode b_Mo_area 84 = .ok (.iload 4, 2) := by decide +kernel
theorem d_Mo_area_86 : decode b_Mo_area 86 = .ok (.iload_n 1, 1) := by decide +kernel
theorem d_Mo_area_87 : decode b_Mo_area 87 = .ok (.iconst 1, 1) := by decide +kernel
theorem d_Mo_area_88 : decode b_Mo_area 88 = .ok (.if_icmp .ne 7, 3) := by decide +kernel
theorem d_Mo_area_91 : decode b_Mo_area 91 = .ok (.iconst 1, 1) := by decide +kernel
theorem d_Mo_area_92 : decode b_Mo_area 92 = .ok (.goto 4, 3) := by decide +kernel
theorem d_Mo_area_95 : decode b_Mo_area 95 = .ok (.iconst 0, 1) := by decide +kernel
theorem d_Mo_area_96 : decode b_Mo_area 96 = .ok (.bastore, 1) := by decide +kernel
theorem d_Mo_area_97 : decode b_Mo_area 97 = .ok (.aload_n 0, 1) := by decide +kernel
theorem d_Mo_area_98 : decode b_Mo_area 98 = .ok (.getfield 13, 3) := by decide +kernel
theorem d_Mo_area_101 : decode b_Mo_area 101 = .ok (.iload 4, 2) := by decide +kernel
theorem d_Mo_area_103 : decode b_Mo_area 103 = .ok (.iload_n 2, 1) := by decide +kernel
theorem d_Mo_area_104 : decode b_Mo_area 104 = .ok (.bastore, 1) := by decide +kernel
theorem d_Mo_area_105 : decode b_Mo_area 105 = .ok (.aload_n 0, 1) := by decide +kernel
theorem d_Mo_area_106 : decode b_Mo_area 106 = .ok (.getfield 16, 3) := by decide +kernel
theorem d_Mo_area_109 : decode b_Mo_area 109 = .ok (.iload 4, 2) := by decide +kernel
theorem d_Mo_area_111 : decode b_Mo_area 111 = .ok (.iload_n 3, 1) := by decide +kernel
theorem d_Mo_area_112 : decode b_Mo_area 112 = .ok (.iastore, 1) := by decide +kernel
theorem d_Mo_area_113 : decode b_Mo_area 113 = .ok (.aload_n 0, 1) := by decide +kernel
theorem d_Mo_area_114 : decode b_Mo_area 114 = .ok (.getfield 23, 3) := by decide +kernel
theorem d_Mo_area_117 : decode b_Mo_area 117 = .ok (.iload 4, 2) := by decide +kernel
theorem d_Mo_area_119 : decode b_Mo_area 119 = .ok (.iload_n 3, 1) := by decide +kernel
theorem d_Mo_area_120 : decode b_Mo_area 120 = .ok (.iastore, 1) := by decide +kernel
theorem d_Mo_area_121 : decode b_Mo_area 121 = .ok (.aload_n 0, 1) := by decide +kernel
theorem d_Mo_area_122 : decode b_Mo_area 122 = .ok (.getfield 26, 3) := by decide +kernel
theorem d_Mo_area_125 : decode b_Mo_area 125 = .ok (.iload 4, 2) := by decide +kernel
theorem d_Mo_area_127 : decode b_Mo_area 127 = .ok (.iconst (-1), 1) := by decide +kernel
theorem d_Mo_area_128 : decode b_Mo_area 128 = .ok (.iastore, 1) := by decide +kernel
theorem d_Mo_area_129 : decode b_Mo_area 129 = .ok (.aload_n 0, 1) := by decide +kernel
theorem d_Mo_area_130 : decode b_Mo_area 130 = .ok (.getfield 50, 3) := by decide +kernel
theorem d_Mo_area_133 : decode b_Mo_area 133 = .ok (.iload 4, 2) := by decide +kernel
theorem d_Mo_area_135 : decode b_Mo_area 135 = .ok (.iconst (-1), 1) := by decide +kernel
theorem d_Mo_area_136 : decode b_Mo_area 136 = .ok (.iastore, 1) := by decide +kernel
theorem d_Mo_area_137 : decode b_Mo_area 137 = .ok (.aload_n 0, 1) := by decide +kernel
theorem d_Mo_area_138 : decode b_Mo_area 138 = .ok (.dup, 1) := by decide +kernel
theorem d_Mo_area_139 : decode b_Mo_area 139 = .ok (.getfield 72, 3) := by decide +kernel
theorem d_Mo_area_142 : decode b_Mo_area 142 = .ok (.iconst 1, 1) := by decide +kernel
theorem d_Mo_area_143 : decode b_Mo_area 143 = .ok (.iadd, 1) := by decide +kernel
theorem d_Mo_area_144 : decode b_Mo_area 144 = .ok (.putfield 72, 3) := by decide +kernel
theorem d_Mo_area_147 : decode b_Mo_area 147 = .ok (.iload 4, 2) := by decide +kernel
theorem d_Mo_area_149 : decode b_Mo_area 149 = .ok (.ireturn, 1) := by decide +kernel

set_option maxHeartbeats 4000000 in
set_option maxRecDepth 100000 in
theorem c_Mo_area_1 (l : Launch) (D : va_G) (cI cZ cJ cS : ClassId) (aT : Nat) (ceT : Cell) (sz : Nat) (g0 m_sea m_center m_home m_borders m_owner m_units m_kind m_toX m_toY m_results m_known m_reached m_way m_aside m_origin m_retreats m_contested m_moved m_past : Nat) (co ar mp mt msh : Int32) (k ce h : Int32) (hok : ¬ okA k ce h) : Met l y_Mo_area w_Mo_area ({ frames := 1, cells := 0, slots := 0, locals := 21 }) (tH D cI cZ cJ cS aT ceT [.ref g0, .int k, .int ce, .int h] sz [(g0, .inr (6, [.int co, .int ar, .ref m_sea, .ref m_center, .ref m_home, .ref m_borders, .int mp, .int mt, .ref m_owner, .ref m_units, .ref m_kind, .ref m_toX, .ref m_toY, .ref m_results, .ref m_known, .ref m_reached, .ref m_way, .ref m_aside, .ref m_origin, .ref m_retreats, .ref m_contested, .ref m_moved, .int msh, .ref m_past]))]) (va_Qi (fun (r : Int32) (_ : Unit) => r = 0) (fun _ t => tB D (va_A [(g0, .inr (6, [.int co, .int ar, .ref m_sea, .ref m_center, .ref m_home, .ref m_borders, .int mp, .int mt, .ref m_owner, .ref m_units, .ref m_kind, .ref m_toX, .ref m_toY, .ref m_results, .ref m_known, .ref m_reached, .ref m_way, .ref m_aside, .ref m_origin, .ref m_retreats, .ref m_contested, .ref m_moved, .int msh, .ref m_past]))] sz) [(g0, .inr (6, [.int 1, .int ar, .ref m_sea, .ref m_center, .ref m_home, .ref m_borders, .int mp, .int mt, .ref m_owner, .ref m_units, .ref m_kind, .ref m_toX, .ref m_toY, .ref m_results, .ref m_known, .ref m_reached, .ref m_way, .ref m_aside, .ref m_origin, .ref m_retreats, .ref m_contested, .ref m_moved, .int msh, .ref m_past]))] t) (va_A [(g0, .inr (6, [.int co, .int ar, .ref m_sea, .ref m_center, .ref m_home, .ref m_borders, .int mp, .int mt, .ref m_owner, .ref m_units, .ref m_kind, .ref m_toX, .ref m_toY, .ref m_results, .ref m_known, .ref m_reached, .ref m_way, .ref m_aside, .ref m_origin, .ref m_retreats, .ref m_contested, .ref m_moved, .int msh, .ref m_past]))] sz)) 0 0 (va_A [(g0, .inr (6, [.int co, .int ar, .ref m_sea, .ref m_center, .ref m_home, .ref m_borders, .int mp, .int mt, .ref m_owner, .ref m_units, .ref m_kind, .ref m_toX, .ref m_toY, .ref m_results, .ref m_known, .ref m_reached, .ref m_way, .ref m_aside, .ref m_origin, .ref m_retreats, .ref m_contested, .ref m_moved, .int msh, .ref m_past]))] sz) := by
  refine Met.ofW (cc := b_Mo_area) (maxL := 5) (ret := (some .int)) (by decide) rfl ?_
  intro p e s m args below meth c s₁ B hml hv
  obtain ⟨rfl, hsz, hP, hK, hD0, hX⟩ := hv
  have hx := B.exec
  have hb := B.bytes
  have hr := B.returns
  have hts0 := atoms_spec (ws := w_Mo_area) B.pre
  have hts : ∀ w ∈ TB, w.before _ s = true := fun w h => hts0 w (List.mem_cons_of_mem _ h)
  have hown : s.vm.findClass R_Mo = some m.cls := findClass_of_methodNamed B.named
  have hlocks := B.notSynchronized
  subst hsz
  have hXl := tx_lt hX
  have hXn := tx_far hP hX
  have hD := hD0.self (sz := s.heap.size)
  generalize hAe : va_A [(g0, .inr (6, [.int co, .int ar, .ref m_sea, .ref m_center, .ref m_home, .ref m_borders, .int mp, .int mt, .ref m_owner, .ref m_units, .ref m_kind, .ref m_toX, .ref m_toY, .ref m_results, .ref m_known, .ref m_reached, .ref m_way, .ref m_aside, .ref m_origin, .ref m_retreats, .ref m_contested, .ref m_moved, .int msh, .ref m_past]))] s.heap.size = A at hD hXn ⊢
  have hA : ∀ q : Nat, s.heap.size ≤ q → A q := fun q h => by rw [← hAe]; exact Or.inr h
  have hS : va_S A s.heap s.heap [] := va_S.rf
  have hXH : s.heap[aT]? = s.heap[aT]? := rfl
  have hl := lv_entry ([.ref g0, .int k, .int ce, .int h]) (n := 5) (Nat.le_of_ble_eq_true rfl)
  rw [lg_entry_eq]
  generalize (lg_sl ([.ref g0, .int k, .int ce, .int h]) ++ List.replicate (5 - (lg_sl ([.ref g0, .int k, .int ce, .int h])).length) Slot.unset).toArray = ls at hl ⊢
  have hl : lv_has ls 5 [(0, .ref g0), (1, .int k), (2, .int ce), (3, .int h)] := hl
  refine lv_aload_n hx hb d_Mo_area_0 rfl (lv_at hl 0 rfl) ?_
  refine lv_iload_n hx hb d_Mo_area_1 rfl (lv_at hl 1 rfl) ?_
  refine lv_if_lt (tgt := 37) hx hb d_Mo_area_2 (by decide) (fun hc1 => ?_) (fun hc1 => ?_)
  · -- 2 taken
    refine lv_iconst (v := 1) hx hb d_Mo_area_37 (by decide) ?_
    refine lv_goto (tgt := 62) hx hb d_Mo_area_38 (by decide) ?_
    refine va_put (D := D) (ci := 6) (v := .int 1) (ty := .int) (C := R_Mo) (T := T_Mo) (N := 24) hx hb hts hin_Mo ty_Mo tyok_Mo nm_Mo hown hK hP hD hS 0 rfl rfl 0 (by decide) (hts _ wd_704) (fun _ h9 => h9) rfl (by decide +kernel) rfl rfl (Nat.le_of_ble_eq_true rfl) d_Mo_area_62 (fun H locs hP hD hS => ?_)
    have hP : va_P D vwCl [(g0, .inr (6, [.int 1, .int ar, .ref m_sea, .ref m_center, .ref m_home, .ref m_borders, .int mp, .int mt, .ref m_owner, .ref m_units, .ref m_kind, .ref m_toX, .ref m_toY, .ref m_results, .ref m_known, .ref m_reached, .ref m_way, .ref m_aside, .ref m_origin, .ref m_retreats, .ref m_contested, .ref m_moved, .int msh, .ref m_past]))] H := hP
    have hD : va_D A [(g0, .inr (6, [.int 1, .int ar, .ref m_sea, .ref m_center, .ref m_home, .ref m_borders, .int mp, .int mt, .ref m_owner, .ref m_units, .ref m_kind, .ref m_toX, .ref m_toY, .ref m_results, .ref m_known, .ref m_reached, .ref m_way, .ref m_aside, .ref m_origin, .ref m_retreats, .ref m_contested, .ref m_moved, .int msh, .ref m_past]))] := hD
    refine lv_aload_n hx hb d_Mo_area_65 rfl (lv_at hl 0 rfl) ?_
    refine va_get (D := D) (ci := 6) (v := .int 1) (C := R_Mo) (T := T_Mo) (N := 24) hx hb hts hin_Mo hown hK hP 0 rfl rfl 0 (by decide) (hts _ wd_704) (fun _ h9 => h9) rfl d_Mo_area_66 ?_
    refine lv_if_eq (tgt := 74) hx hb d_Mo_area_69 (by decide) (fun h0 => absurd h0 (by decide)) (fun _ => ?_)
    refine lv_iconst (v := 0) hx hb d_Mo_area_72 (by decide) ?_
    have hP9 := hP.sub (ws' := [(g0, .inr (6, [.int 1, .int ar, .ref m_sea, .ref m_center, .ref m_home, .ref m_borders, .int mp, .int mt, .ref m_owner, .ref m_units, .ref m_kind, .ref m_toX, .ref m_toY, .ref m_results, .ref m_known, .ref m_reached, .ref m_way, .ref m_aside, .ref m_origin, .ref m_retreats, .ref m_contested, .ref m_moved, .int msh, .ref m_past]))]) [0] rfl
    have hD9 := hD.sub (ws' := [(g0, .inr (6, [.int 1, .int ar, .ref m_sea, .ref m_center, .ref m_home, .ref m_borders, .int mp, .int mt, .ref m_owner, .ref m_units, .ref m_kind, .ref m_toX, .ref m_toY, .ref m_results, .ref m_known, .ref m_reached, .ref m_way, .ref m_aside, .ref m_origin, .ref m_retreats, .ref m_contested, .ref m_moved, .int msh, .ref m_past]))]) [0] (by decide) rfl
    exact W.iret (v := 0) hx hb hr (fun t ht hW => ⟨⟨0, (), rfl, rfl, by rw [ht]; exact hP9, hD9⟩, hS.F ht⟩) hS.2.2 d_Mo_area_73
  · -- 2 not taken
    refine lv_iload_n hx hb d_Mo_area_5 rfl (lv_at hl 1 rfl) ?_
    refine lv_iconst (v := 1) hx hb d_Mo_area_6 (by decide) ?_
    refine lv_icmp_gt (tgt := 37) hx hb d_Mo_area_7 (by decide) (fun hc3 => ?_) (fun hc3 => ?_)
    · -- 7 taken
      refine lv_iconst (v := 1) hx hb d_Mo_area_37 (by decide) ?_
      refine lv_goto (tgt := 62) hx hb d_Mo_area_38 (by decide) ?_
      refine va_put (D := D) (ci := 6) (v := .int 1) (ty := .int) (C := R_Mo) (T := T_Mo) (N := 24) hx hb hts hin_Mo ty_Mo tyok_Mo nm_Mo hown hK hP hD hS 0 rfl rfl 0 (by decide) (hts _ wd_704) (fun _ h9 => h9) rfl (by decide +kernel) rfl rfl (Nat.le_of_ble_eq_true rfl) d_Mo_area_62 (fun H locs hP hD hS => ?_)
      have hP : va_P D vwCl [(g0, .inr (6, [.int 1, .int ar, .ref m_sea, .ref m_center, .ref m_home, .ref m_borders, .int mp, .int mt, .ref m_owner, .ref m_units, .ref m_kind, .ref m_toX, .ref m_toY, .ref m_results, .ref m_known, .ref m_reached, .ref m_way, .ref m_aside, .ref m_origin, .ref m_retreats, .ref m_contested, .ref m_moved, .int msh, .ref m_past]))] H := hP
      have hD : va_D A [(g0, .inr (6, [.int 1, .int ar, .ref m_sea, .ref m_center, .ref m_home, .ref m_borders, .int mp, .int mt, .ref m_owner, .ref m_units, .ref m_kind, .ref m_toX, .ref m_toY, .ref m_results, .ref m_known, .ref m_reached, .ref m_way, .ref m_aside, .ref m_origin, .ref m_retreats, .ref m_contested, .ref m_moved, .int msh, .ref m_past]))] := hD
      refine lv_aload_n hx hb d_Mo_area_65 rfl (lv_at hl 0 rfl) ?_
      refine va_get (D := D) (ci := 6) (v := .int 1) (C := R_Mo) (T := T_Mo) (N := 24) hx hb hts hin_Mo hown hK hP 0 rfl rfl 0 (by decide) (hts _ wd_704) (fun _ h9 => h9) rfl d_Mo_area_66 ?_
      refine lv_if_eq (tgt := 74) hx hb d_Mo_area_69 (by decide) (fun h0 => absurd h0 (by decide)) (fun _ => ?_)
      refine lv_iconst (v := 0) hx hb d_Mo_area_72 (by decide) ?_
      have hP9 := hP.sub (ws' := [(g0, .inr (6, [.int 1, .int ar, .ref m_sea, .ref m_center, .ref m_home, .ref m_borders, .int mp, .int mt, .ref m_owner, .ref m_units, .ref m_kind, .ref m_toX, .ref m_toY, .ref m_results, .ref m_known, .ref m_reached, .ref m_way, .ref m_aside, .ref m_origin, .ref m_retreats, .ref m_contested, .ref m_moved, .int msh, .ref m_past]))]) [0] rfl
      have hD9 := hD.sub (ws' := [(g0, .inr (6, [.int 1, .int ar, .ref m_sea, .ref m_center, .ref m_home, .ref m_borders, .int mp, .int mt, .ref m_owner, .ref m_units, .ref m_kind, .ref m_toX, .ref m_toY, .ref m_results, .ref m_known, .ref m_reached, .ref m_way, .ref m_aside, .ref m_origin, .ref m_retreats, .ref m_contested, .ref m_moved, .int msh, .ref m_past]))]) [0] (by decide) rfl
      exact W.iret (v := 0) hx hb hr (fun t ht hW => ⟨⟨0, (), rfl, rfl, by rw [ht]; exact hP9, hD9⟩, hS.F ht⟩) hS.2.2 d_Mo_area_73
    · -- 7 not taken
      refine lv_iload_n hx hb d_Mo_area_10 rfl (lv_at hl 3 rfl) ?_
      refine lv_iconst (v := (-1)) hx hb d_Mo_area_11 (by decide) ?_
      refine lv_icmp_lt (tgt := 37) hx hb d_Mo_area_12 (by decide) (fun hc5 => ?_) (fun hc5 => ?_)
      · -- 12 taken
        refine lv_iconst (v := 1) hx hb d_Mo_area_37 (by decide) ?_
        refine lv_goto (tgt := 62) hx hb d_Mo_area_38 (by decide) ?_
        refine va_put (D := D) (ci := 6) (v := .int 1) (ty := .int) (C := R_Mo) (T := T_Mo) (N := 24) hx hb hts hin_Mo ty_Mo tyok_Mo nm_Mo hown hK hP hD hS 0 rfl rfl 0 (by decide) (hts _ wd_704) (fun _ h9 => h9) rfl (by decide +kernel) rfl rfl (Nat.le_of_ble_eq_true rfl) d_Mo_area_62 (fun H locs hP hD hS => ?_)
        have hP : va_P D vwCl [(g0, .inr (6, [.int 1, .int ar, .ref m_sea, .ref m_center, .ref m_home, .ref m_borders, .int mp, .int mt, .ref m_owner, .ref m_units, .ref m_kind, .ref m_toX, .ref m_toY, .ref m_results, .ref m_known, .ref m_reached, .ref m_way, .ref m_aside, .ref m_origin, .ref m_retreats, .ref m_contested, .ref m_moved, .int msh, .ref m_past]))] H := hP
        have hD : va_D A [(g0, .inr (6, [.int 1, .int ar, .ref m_sea, .ref m_center, .ref m_home, .ref m_borders, .int mp, .int mt, .ref m_owner, .ref m_units, .ref m_kind, .ref m_toX, .ref m_toY, .ref m_results, .ref m_known, .ref m_reached, .ref m_way, .ref m_aside, .ref m_origin, .ref m_retreats, .ref m_contested, .ref m_moved, .int msh, .ref m_past]))] := hD
        refine lv_aload_n hx hb d_Mo_area_65 rfl (lv_at hl 0 rfl) ?_
        refine va_get (D := D) (ci := 6) (v := .int 1) (C := R_Mo) (T := T_Mo) (N := 24) hx hb hts hin_Mo hown hK hP 0 rfl rfl 0 (by decide) (hts _ wd_704) (fun _ h9 => h9) rfl d_Mo_area_66 ?_
        refine lv_if_eq (tgt := 74) hx hb d_Mo_area_69 (by decide) (fun h0 => absurd h0 (by decide)) (fun _ => ?_)
        refine lv_iconst (v := 0) hx hb d_Mo_area_72 (by decide) ?_
        have hP9 := hP.sub (ws' := [(g0, .inr (6, [.int 1, .int ar, .ref m_sea, .ref m_center, .ref m_home, .ref m_borders, .int mp, .int mt, .ref m_owner, .ref m_units, .ref m_kind, .ref m_toX, .ref m_toY, .ref m_results, .ref m_known, .ref m_reached, .ref m_way, .ref m_aside, .ref m_origin, .ref m_retreats, .ref m_contested, .ref m_moved, .int msh, .ref m_past]))]) [0] rfl
        have hD9 := hD.sub (ws' := [(g0, .inr (6, [.int 1, .int ar, .ref m_sea, .ref m_center, .ref m_home, .ref m_borders, .int mp, .int mt, .ref m_owner, .ref m_units, .ref m_kind, .ref m_toX, .ref m_toY, .ref m_results, .ref m_known, .ref m_reached, .ref m_way, .ref m_aside, .ref m_origin, .ref m_retreats, .ref m_contested, .ref m_moved, .int msh, .ref m_past]))]) [0] (by decide) rfl
        exact W.iret (v := 0) hx hb hr (fun t ht hW => ⟨⟨0, (), rfl, rfl, by rw [ht]; exact hP9, hD9⟩, hS.F ht⟩) hS.2.2 d_Mo_area_73
      · -- 12 not taken
        refine lv_iload_n hx hb d_Mo_area_15 rfl (lv_at hl 3 rfl) ?_
        refine lv_iconst (v := 3) hx hb d_Mo_area_16 (by decide) ?_
        refine lv_icmp_gt (tgt := 37) hx hb d_Mo_area_17 (by decide) (fun hc7 => ?_) (fun hc7 => ?_)
        · -- 17 taken
          refine lv_iconst (v := 1) hx hb d_Mo_area_37 (by decide) ?_
          refine lv_goto (tgt := 62) hx hb d_Mo_area_38 (by decide) ?_
          refine va_put (D := D) (ci := 6) (v := .int 1) (ty := .int) (C := R_Mo) (T := T_Mo) (N := 24) hx hb hts hin_Mo ty_Mo tyok_Mo nm_Mo hown hK hP hD hS 0 rfl rfl 0 (by decide) (hts _ wd_704) (fun _ h9 => h9) rfl (by decide +kernel) rfl rfl (Nat.le_of_ble_eq_true rfl) d_Mo_area_62 (fun H locs hP hD hS => ?_)
          have hP : va_P D vwCl [(g0, .inr (6, [.int 1, .int ar, .ref m_sea, .ref m_center, .ref m_home, .ref m_borders, .int mp, .int mt, .ref m_owner, .ref m_units, .ref m_kind, .ref m_toX, .ref m_toY, .ref m_results, .ref m_known, .ref m_reached, .ref m_way, .ref m_aside, .ref m_origin, .ref m_retreats, .ref m_contested, .ref m_moved, .int msh, .ref m_past]))] H := hP
          have hD : va_D A [(g0, .inr (6, [.int 1, .int ar, .ref m_sea, .ref m_center, .ref m_home, .ref m_borders, .int mp, .int mt, .ref m_owner, .ref m_units, .ref m_kind, .ref m_toX, .ref m_toY, .ref m_results, .ref m_known, .ref m_reached, .ref m_way, .ref m_aside, .ref m_origin, .ref m_retreats, .ref m_contested, .ref m_moved, .int msh, .ref m_past]))] := hD
          refine lv_aload_n hx hb d_Mo_area_65 rfl (lv_at hl 0 rfl) ?_
          refine va_get (D := D) (ci := 6) (v := .int 1) (C := R_Mo) (T := T_Mo) (N := 24) hx hb hts hin_Mo hown hK hP 0 rfl rfl 0 (by decide) (hts _ wd_704) (fun _ h9 => h9) rfl d_Mo_area_66 ?_
          refine lv_if_eq (tgt := 74) hx hb d_Mo_area_69 (by decide) (fun h0 => absurd h0 (by decide)) (fun _ => ?_)
          refine lv_iconst (v := 0) hx hb d_Mo_area_72 (by decide) ?_
          have hP9 := hP.sub (ws' := [(g0, .inr (6, [.int 1, .int ar, .ref m_sea, .ref m_center, .ref m_home, .ref m_borders, .int mp, .int mt, .ref m_owner, .ref m_units, .ref m_kind, .ref m_toX, .ref m_toY, .ref m_results, .ref m_known, .ref m_reached, .ref m_way, .ref m_aside, .ref m_origin, .ref m_retreats, .ref m_contested, .ref m_moved, .int msh, .ref m_past]))]) [0] rfl
          have hD9 := hD.sub (ws' := [(g0, .inr (6, [.int 1, .int ar, .ref m_sea, .ref m_center, .ref m_home, .ref m_borders, .int mp, .int mt, .ref m_owner, .ref m_units, .ref m_kind, .ref m_toX, .ref m_toY, .ref m_results, .ref m_known, .ref m_reached, .ref m_way, .ref m_aside, .ref m_origin, .ref m_retreats, .ref m_contested, .ref m_moved, .int msh, .ref m_past]))]) [0] (by decide) rfl
          exact W.iret (v := 0) hx hb hr (fun t ht hW => ⟨⟨0, (), rfl, rfl, by rw [ht]; exact hP9, hD9⟩, hS.F ht⟩) hS.2.2 d_Mo_area_73
        · -- 17 not taken
          refine lv_iload_n hx hb d_Mo_area_20 rfl (lv_at hl 2 rfl) ?_
          refine lv_if_eq (tgt := 29) hx hb d_Mo_area_21 (by decide) (fun hc9 => ?_) (fun hc9 => ?_)
          · -- 21 taken
            refine lv_iload_n hx hb d_Mo_area_29 rfl (lv_at hl 3 rfl) ?_
            refine lv_if_lt (tgt := 41) hx hb d_Mo_area_30 (by decide) (fun hc10 => ?_) (fun hc10 => ?_)
            · -- 30 taken
              exact absurd (by unfold okA; revert hc1 hc3 hc5 hc7 hc9 hc10; simp only [Int32.lt_iff_toInt_lt, Int32.le_iff_toInt_le, ← Int32.toInt_inj, Int32.reduceToInt, i32_m1]; omega) hok
            · -- 30 not taken
              refine lv_iload_n hx hb d_Mo_area_33 rfl (lv_at hl 2 rfl) ?_
              refine lv_if_ne (tgt := 41) hx hb d_Mo_area_34 (by decide) (fun h0 => absurd hc9 h0) (fun _ => ?_)
              refine lv_iconst (v := 1) hx hb d_Mo_area_37 (by decide) ?_
              refine lv_goto (tgt := 62) hx hb d_Mo_area_38 (by decide) ?_
              refine va_put (D := D) (ci := 6) (v := .int 1) (ty := .int) (C := R_Mo) (T := T_Mo) (N := 24) hx hb hts hin_Mo ty_Mo tyok_Mo nm_Mo hown hK hP hD hS 0 rfl rfl 0 (by decide) (hts _ wd_704) (fun _ h9 => h9) rfl (by decide +kernel) rfl rfl (Nat.le_of_ble_eq_true rfl) d_Mo_area_62 (fun H locs hP hD hS => ?_)
              have hP : va_P D vwCl [(g0, .inr (6, [.int 1, .int ar, .ref m_sea, .ref m_center, .ref m_home, .ref m_borders, .int mp, .int mt, .ref m_owner, .ref m_units, .ref m_kind, .ref m_toX, .ref m_toY, .ref m_results, .ref m_known, .ref m_reached, .ref m_way, .ref m_aside, .ref m_origin, .ref m_retreats, .ref m_contested, .ref m_moved, .int msh, .ref m_past]))] H := hP
              have hD : va_D A [(g0, .inr (6, [.int 1, .int ar, .ref m_sea, .ref m_center, .ref m_home, .ref m_borders, .int mp, .int mt, .ref m_owner, .ref m_units, .ref m_kind, .ref m_toX, .ref m_toY, .ref m_results, .ref m_known, .ref m_reached, .ref m_way, .ref m_aside, .ref m_origin, .ref m_retreats, .ref m_contested, .ref m_moved, .int msh, .ref m_past]))] := hD
              refine lv_aload_n hx hb d_Mo_area_65 rfl (lv_at hl 0 rfl) ?_
              refine va_get (D := D) (ci := 6) (v := .int 1) (C := R_Mo) (T := T_Mo) (N := 24) hx hb hts hin_Mo hown hK hP 0 rfl rfl 0 (by decide) (hts _ wd_704) (fun _ h9 => h9) rfl d_Mo_area_66 ?_
              refine lv_if_eq (tgt := 74) hx hb d_Mo_area_69 (by decide) (fun h0 => absurd h0 (by decide)) (fun _ => ?_)
              refine lv_iconst (v := 0) hx hb d_Mo_area_72 (by decide) ?_
              have hP9 := hP.sub (ws' := [(g0, .inr (6, [.int 1, .int ar, .ref m_sea, .ref m_center, .ref m_home, .ref m_borders, .int mp, .int mt, .ref m_owner, .ref m_units, .ref m_kind, .ref m_toX, .ref m_toY, .ref m_results, .ref m_known, .ref m_reached, .ref m_way, .ref m_aside, .ref m_origin, .ref m_retreats, .ref m_contested, .ref m_moved, .int msh, .ref m_past]))]) [0] rfl
              have hD9 := hD.sub (ws' := [(g0, .inr (6, [.int 1, .int ar, .ref m_sea, .ref m_center, .ref m_home, .ref m_borders, .int mp, .int mt, .ref m_owner, .ref m_units, .ref m_kind, .ref m_toX, .ref m_toY, .ref m_results, .ref m_known, .ref m_reached, .ref m_way, .ref m_aside, .ref m_origin, .ref m_retreats, .ref m_contested, .ref m_moved, .int msh, .ref m_past]))]) [0] (by decide) rfl
              exact W.iret (v := 0) hx hb hr (fun t ht hW => ⟨⟨0, (), rfl, rfl, by rw [ht]; exact hP9, hD9⟩, hS.F ht⟩) hS.2.2 d_Mo_area_73
          · -- 21 not taken
            refine lv_iload_n hx hb d_Mo_area_24 rfl (lv_at hl 1 rfl) ?_
            refine lv_iconst (v := 1) hx hb d_Mo_area_25 (by decide) ?_
            refine lv_icmp_eq (tgt := 37) hx hb d_Mo_area_26 (by decide) (fun hc13 => ?_) (fun hc13 => ?_)
            · -- 26 taken
              refine lv_iconst (v := 1) hx hb d_Mo_area_37 (by decide) ?_
              refine lv_goto (tgt := 62) hx hb d_Mo_area_38 (by decide) ?_
              refine va_put (D := D) (ci := 6) (v := .int 1) (ty := .int) (C := R_Mo) (T := T_Mo) (N := 24) hx hb hts hin_Mo ty_Mo tyok_Mo nm_Mo hown hK hP hD hS 0 rfl rfl 0 (by decide) (hts _ wd_704) (fun _ h9 => h9) rfl (by decide +kernel) rfl rfl (Nat.le_of_ble_eq_true rfl) d_Mo_area_62 (fun H locs hP hD hS => ?_)
              have hP : va_P D vwCl [(g0, .inr (6, [.int 1, .int ar, .ref m_sea, .ref m_center, .ref m_home, .ref m_borders, .int mp, .int mt, .ref m_owner, .ref m_units, .ref m_kind, .ref m_toX, .ref m_toY, .ref m_results, .ref m_known, .ref m_reached, .ref m_way, .ref m_aside, .ref m_origin, .ref m_retreats, .ref m_contested, .ref m_moved, .int msh, .ref m_past]))] H := hP
              have hD : va_D A [(g0, .inr (6, [.int 1, .int ar, .ref m_sea, .ref m_center, .ref m_home, .ref m_borders, .int mp, .int mt, .ref m_owner, .ref m_units, .ref m_kind, .ref m_toX, .ref m_toY, .ref m_results, .ref m_known, .ref m_reached, .ref m_way, .ref m_aside, .ref m_origin, .ref m_retreats, .ref m_contested, .ref m_moved, .int msh, .ref m_past]))] := hD
              refine lv_aload_n hx hb d_Mo_area_65 rfl (lv_at hl 0 rfl) ?_
              refine va_get (D := D) (ci := 6) (v := .int 1) (C := R_Mo) (T := T_Mo) (N := 24) hx hb hts hin_Mo hown hK hP 0 rfl rfl 0 (by decide) (hts _ wd_704) (fun _ h9 => h9) rfl d_Mo_area_66 ?_
              refine lv_if_eq (tgt := 74) hx hb d_Mo_area_69 (by decide) (fun h0 => absurd h0 (by decide)) (fun _ => ?_)
              refine lv_iconst (v := 0) hx hb d_Mo_area_72 (by decide) ?_
              have hP9 := hP.sub (ws' := [(g0, .inr (6, [.int 1, .int ar, .ref m_sea, .ref m_center, .ref m_home, .ref m_borders, .int mp, .int mt, .ref m_owner, .ref m_units, .ref m_kind, .ref m_toX, .ref m_toY, .ref m_results, .ref m_known, .ref m_reached, .ref m_way, .ref m_aside, .ref m_origin, .ref m_retreats, .ref m_contested, .ref m_moved, .int msh, .ref m_past]))]) [0] rfl
              have hD9 := hD.sub (ws' := [(g0, .inr (6, [.int 1, .int ar, .ref m_sea, .ref m_center, .ref m_home, .ref m_borders, .int mp, .int mt, .ref m_owner, .ref m_units, .ref m_kind, .ref m_toX, .ref m_toY, .ref m_results, .ref m_known, .ref m_reached, .ref m_way, .ref m_aside, .ref m_origin, .ref m_retreats, .ref m_contested, .ref m_moved, .int msh, .ref m_past]))]) [0] (by decide) rfl
              exact W.iret (v := 0) hx hb hr (fun t ht hW => ⟨⟨0, (), rfl, rfl, by rw [ht]; exact hP9, hD9⟩, hS.F ht⟩) hS.2.2 d_Mo_area_73
            · -- 26 not taken
              refine lv_iload_n hx hb d_Mo_area_29 rfl (lv_at hl 3 rfl) ?_
              refine lv_if_lt (tgt := 41) hx hb d_Mo_area_30 (by decide) (fun hc15 => ?_) (fun hc15 => ?_)
              · -- 30 taken
                exact absurd (by unfold okA; revert hc1 hc3 hc5 hc7 hc9 hc13 hc15; simp only [Int32.lt_iff_toInt_lt, Int32.le_iff_toInt_le, ← Int32.toInt_inj, Int32.reduceToInt, i32_m1]; omega) hok
              · -- 30 not taken
                refine lv_iload_n hx hb d_Mo_area_33 rfl (lv_at hl 2 rfl) ?_
                refine lv_if_ne (tgt := 41) hx hb d_Mo_area_34 (by decide) (fun _ => ?_) (fun h0 => absurd h0 hc9)
                exact absurd (by unfold okA; revert hc1 hc3 hc5 hc7 hc9 hc13 hc15; simp only [Int32.lt_iff_toInt_lt, Int32.le_iff_toInt_le, ← Int32.toInt_inj, Int32.reduceToInt, i32_m1]; omega) hok

theorem wd_710 : (Cond.fieldLink "SheetWarModel" (75 : Nat) "SheetWarModel" "phase" "I") ∈ TB := tb_t 710 (by decide +kernel) (by decide +kernel)
set_option maxHeartbeats 4000000 in
set_option maxRecDepth 100000 in
theorem c_Mo_area_0 (l : Launch) (D : va_G) (cI cZ cJ cS : ClassId) (aT : Nat) (ceT : Cell) (sz : Nat) (g0 m_sea m_center m_home m_borders m_owner m_units m_kind m_toX m_toY m_results m_known m_reached m_way m_aside m_origin m_retreats m_contested m_moved m_past : Nat) (co mt msh : Int32) (f1 f2 f3 f4 f5 f6 : Nat → Int32) (k ce h : Int32) (hok : okA k ce h) : Met l y_Mo_area w_Mo_area ({ frames := 1, cells := 0, slots := 0, locals := 21 }) (tH D cI cZ cJ cS aT ceT [.ref g0, .int k, .int ce, .int h] sz [(g0, .inr (6, [.int co, .int 0, .ref m_sea, .ref m_center, .ref m_home, .ref m_borders, .int 0, .int mt, .ref m_owner, .ref m_units, .ref m_kind, .ref m_toX, .ref m_toY, .ref m_results, .ref m_known, .ref m_reached, .ref m_way, .ref m_aside, .ref m_origin, .ref m_retreats, .ref m_contested, .ref m_moved, .int msh, .ref m_past])), (m_sea, .inl (cZ, 12, .inl f1)), (m_center, .inl (cZ, 12, .inl f2)), (m_home, .inl (cI, 12, .inl f3)), (m_owner, .inl (cI, 12, .inl f4)), (m_units, .inl (cI, 12, .inl f5)), (m_aside, .inl (cI, 12, .inl f6))]) (va_Qi (fun (r : Int32) (_ : Unit) => r = 0) (fun _ t => tB D (va_A [(g0, .inr (6, [.int co, .int 0, .ref m_sea, .ref m_center, .ref m_home, .ref m_borders, .int 0, .int mt, .ref m_owner, .ref m_units, .ref m_kind, .ref m_toX, .ref m_toY, .ref m_results, .ref m_known, .ref m_reached, .ref m_way, .ref m_aside, .ref m_origin, .ref m_retreats, .ref m_contested, .ref m_moved, .int msh, .ref m_past])), (m_sea, .inl (cZ, 12, .inl f1)), (m_center, .inl (cZ, 12, .inl f2)), (m_home, .inl (cI, 12, .inl f3)), (m_owner, .inl (cI, 12, .inl f4)), (m_units, .inl (cI, 12, .inl f5)), (m_aside, .inl (cI, 12, .inl f6))] sz) [(g0, .inr (6, [.int 0, .int 1, .ref m_sea, .ref m_center, .ref m_home, .ref m_borders, .int 0, .int mt, .ref m_owner, .ref m_units, .ref m_kind, .ref m_toX, .ref m_toY, .ref m_results, .ref m_known, .ref m_reached, .ref m_way, .ref m_aside, .ref m_origin, .ref m_retreats, .ref m_contested, .ref m_moved, .int msh, .ref m_past]))] t) (va_A [(g0, .inr (6, [.int co, .int 0, .ref m_sea, .ref m_center, .ref m_home, .ref m_borders, .int 0, .int mt, .ref m_owner, .ref m_units, .ref m_kind, .ref m_toX, .ref m_toY, .ref m_results, .ref m_known, .ref m_reached, .ref m_way, .ref m_aside, .ref m_origin, .ref m_retreats, .ref m_contested, .ref m_moved, .int msh, .ref m_past])), (m_sea, .inl (cZ, 12, .inl f1)), (m_center, .inl (cZ, 12, .inl f2)), (m_home, .inl (cI, 12, .inl f3)), (m_owner, .inl (cI, 12, .inl f4)), (m_units, .inl (cI, 12, .inl f5)), (m_aside, .inl (cI, 12, .inl f6))] sz)) 0 0 (va_A [(g0, .inr (6, [.int co, .int 0, .ref m_sea, .ref m_center, .ref m_home, .ref m_borders, .int 0, .int mt, .ref m_owner, .ref m_units, .ref m_kind, .ref m_toX, .ref m_toY, .ref m_results, .ref m_known, .ref m_reached, .ref m_way, .ref m_aside, .ref m_origin, .ref m_retreats, .ref m_contested, .ref m_moved, .int msh, .ref m_past])), (m_sea, .inl (cZ, 12, .inl f1)), (m_center, .inl (cZ, 12, .inl f2)), (m_home, .inl (cI, 12, .inl f3)), (m_owner, .inl (cI, 12, .inl f4)), (m_units, .inl (cI, 12, .inl f5)), (m_aside, .inl (cI, 12, .inl f6))] sz) := by
  refine Met.ofW (cc := b_Mo_area) (maxL := 5) (ret := (some .int)) (by decide) rfl ?_
  intro p e s m args below meth c s₁ B hml hv
  obtain ⟨rfl, hsz, hP, hK, hD0, hX⟩ := hv
  have hx := B.exec
  have hb := B.bytes
  have hr := B.returns
  have hts0 := atoms_spec (ws := w_Mo_area) B.pre
  have hts : ∀ w ∈ TB, w.before _ s = true := fun w h => hts0 w (List.mem_cons_of_mem _ h)
  have hown : s.vm.findClass R_Mo = some m.cls := findClass_of_methodNamed B.named
  have hlocks := B.notSynchronized
  subst hsz
  have hXl := tx_lt hX
  have hXn := tx_far hP hX
  have hD := hD0.self (sz := s.heap.size)
  generalize hAe : va_A [(g0, .inr (6, [.int co, .int 0, .ref m_sea, .ref m_center, .ref m_home, .ref m_borders, .int 0, .int mt, .ref m_owner, .ref m_units, .ref m_kind, .ref m_toX, .ref m_toY, .ref m_results, .ref m_known, .ref m_reached, .ref m_way, .ref m_aside, .ref m_origin, .ref m_retreats, .ref m_contested, .ref m_moved, .int msh, .ref m_past])), (m_sea, .inl (cZ, 12, .inl f1)), (m_center, .inl (cZ, 12, .inl f2)), (m_home, .inl (cI, 12, .inl f3)), (m_owner, .inl (cI, 12, .inl f4)), (m_units, .inl (cI, 12, .inl f5)), (m_aside, .inl (cI, 12, .inl f6))] s.heap.size = A at hD hXn ⊢
  have hA : ∀ q : Nat, s.heap.size ≤ q → A q := fun q h => by rw [← hAe]; exact Or.inr h
  have hS : va_S A s.heap s.heap [] := va_S.rf
  have hXH : s.heap[aT]? = s.heap[aT]? := rfl
  have hl := lv_entry ([.ref g0, .int k, .int ce, .int h]) (n := 5) (Nat.le_of_ble_eq_true rfl)
  rw [lg_entry_eq]
  generalize (lg_sl ([.ref g0, .int k, .int ce, .int h]) ++ List.replicate (5 - (lg_sl ([.ref g0, .int k, .int ce, .int h])).length) Slot.unset).toArray = ls at hl ⊢
  have hl : lv_has ls 5 [(0, .ref g0), (1, .int k), (2, .int ce), (3, .int h)] := hl
  refine lv_aload_n hx hb d_Mo_area_0 rfl (lv_at hl 0 rfl) ?_
  refine lv_iload_n hx hb d_Mo_area_1 rfl (lv_at hl 1 rfl) ?_
  refine lv_if_lt (tgt := 37) hx hb d_Mo_area_2 (by decide) (fun hc1 => ?_) (fun hc1 => ?_)
  · -- 2 taken
    exact False.elim (by unfold okA at hok; revert hok hc1; simp only [Int32.lt_iff_toInt_lt, Int32.le_iff_toInt_le, ← Int32.toInt_inj, Int32.reduceToInt, i32_m1]; omega)
  · -- 2 not taken
    refine lv_iload_n hx hb d_Mo_area_5 rfl (lv_at hl 1 rfl) ?_
    refine lv_iconst (v := 1) hx hb d_Mo_area_6 (by decide) ?_
    refine lv_icmp_gt (tgt := 37) hx hb d_Mo_area_7 (by decide) (fun hc2 => ?_) (fun hc2 => ?_)
    · -- 7 taken
      exact False.elim (by unfold okA at hok; revert hok hc1 hc2; simp only [Int32.lt_iff_toInt_lt, Int32.le_iff_toInt_le, ← Int32.toInt_inj, Int32.reduceToInt, i32_m1]; omega)
    · -- 7 not taken
      refine lv_iload_n hx hb d_Mo_area_10 rfl (lv_at hl 3 rfl) ?_
      refine lv_iconst (v := (-1)) hx hb d_Mo_area_11 (by decide) ?_
      refine lv_icmp_lt (tgt := 37) hx hb d_Mo_area_12 (by decide) (fun hc3 => ?_) (fun hc3 => ?_)
      · -- 12 taken
        exact False.elim (by unfold okA at hok; revert hok hc1 hc2 hc3; simp only [Int32.lt_iff_toInt_lt, Int32.le_iff_toInt_le, ← Int32.toInt_inj, Int32.reduceToInt, i32_m1]; omega)
      · -- 12 not taken
        refine lv_iload_n hx hb d_Mo_area_15 rfl (lv_at hl 3 rfl) ?_
        refine lv_iconst (v := 3) hx hb d_Mo_area_16 (by decide) ?_
        refine lv_icmp_gt (tgt := 37) hx hb d_Mo_area_17 (by decide) (fun hc4 => ?_) (fun hc4 => ?_)
        · -- 17 taken
          exact False.elim (by unfold okA at hok; revert hok hc1 hc2 hc3 hc4; simp only [Int32.lt_iff_toInt_lt, Int32.le_iff_toInt_le, ← Int32.toInt_inj, Int32.reduceToInt, i32_m1]; omega)
        · -- 17 not taken
          refine lv_iload_n hx hb d_Mo_area_20 rfl (lv_at hl 2 rfl) ?_
          refine lv_if_eq (tgt := 29) hx hb d_Mo_area_21 (by decide) (fun hc5 => ?_) (fun hc5 => ?_)
          · -- 21 taken
            refine lv_iload_n hx hb d_Mo_area_29 rfl (lv_at hl 3 rfl) ?_
            refine lv_if_lt (tgt := 41) hx hb d_Mo_area_30 (by decide) (fun hc6 => ?_) (fun hc6 => ?_)
            · -- 30 taken
              refine lv_aload_n hx hb d_Mo_area_41 rfl (lv_at hl 0 rfl) ?_
              refine va_get (D := D) (ci := 6) (v := .int 0) (C := R_Mo) (T := T_Mo) (N := 24) hx hb hts hin_Mo hown hK hP 0 rfl rfl 1 (by decide) (hts _ wd_705) (fun _ h9 => h9) rfl d_Mo_area_42 ?_
              refine lv_bipush (v := 12) hx hb d_Mo_area_45 (by decide) ?_
              refine lv_icmp_eq (tgt := 57) hx hb d_Mo_area_47 (by decide) (fun h0 => absurd h0 (by decide)) (fun _ => ?_)
              refine lv_aload_n hx hb d_Mo_area_50 rfl (lv_at hl 0 rfl) ?_
              refine va_get (D := D) (ci := 6) (v := .int 0) (C := R_Mo) (T := T_Mo) (N := 24) hx hb hts hin_Mo hown hK hP 0 rfl rfl 6 (by decide) (hts _ wd_710) (fun _ h9 => h9) rfl d_Mo_area_51 ?_
              refine lv_if_eq (tgt := 61) hx hb d_Mo_area_54 (by decide) (fun _ => ?_) (fun h0 => absurd (by decide) h0)
              refine lv_iconst (v := 0) hx hb d_Mo_area_61 (by decide) ?_
              refine va_put (D := D) (ci := 6) (v := .int 0) (ty := .int) (C := R_Mo) (T := T_Mo) (N := 24) hx hb hts hin_Mo ty_Mo tyok_Mo nm_Mo hown hK hP hD hS 0 rfl rfl 0 (by decide) (hts _ wd_704) (fun _ h9 => h9) rfl (by decide +kernel) rfl rfl (Nat.le_of_ble_eq_true rfl) d_Mo_area_62 (fun H locs hP hD hS => ?_)
              have hP : va_P D vwCl [(g0, .inr (6, [.int 0, .int 0, .ref m_sea, .ref m_center, .ref m_home, .ref m_borders, .int 0, .int mt, .ref m_owner, .ref m_units, .ref m_kind, .ref m_toX, .ref m_toY, .ref m_results, .ref m_known, .ref m_reached, .ref m_way, .ref m_aside, .ref m_origin, .ref m_retreats, .ref m_contested, .ref m_moved, .int msh, .ref m_past])), (m_sea, .inl (cZ, 12, .inl f1)), (m_center, .inl (cZ, 12, .inl f2)), (m_home, .inl (cI, 12, .inl f3)), (m_owner, .inl (cI, 12, .inl f4)), (m_units, .inl (cI, 12, .inl f5)), (m_aside, .inl (cI, 12, .inl f6))] H := hP
              have hD : va_D A [(g0, .inr (6, [.int 0, .int 0, .ref m_sea, .ref m_center, .ref m_home, .ref m_borders, .int 0, .int mt, .ref m_owner, .ref m_units, .ref m_kind, .ref m_toX, .ref m_toY, .ref m_results, .ref m_known, .ref m_reached, .ref m_way, .ref m_aside, .ref m_origin, .ref m_retreats, .ref m_contested, .ref m_moved, .int msh, .ref m_past])), (m_sea, .inl (cZ, 12, .inl f1)), (m_center, .inl (cZ, 12, .inl f2)), (m_home, .inl (cI, 12, .inl f3)), (m_owner, .inl (cI, 12, .inl f4)), (m_units, .inl (cI, 12, .inl f5)), (m_aside, .inl (cI, 12, .inl f6))] := hD
              refine lv_aload_n hx hb d_Mo_area_65 rfl (lv_at hl 0 rfl) ?_
              refine va_get (D := D) (ci := 6) (v := .int 0) (C := R_Mo) (T := T_Mo) (N := 24) hx hb hts hin_Mo hown hK hP 0 rfl rfl 0 (by decide) (hts _ wd_704) (fun _ h9 => h9) rfl d_Mo_area_66 ?_
              refine lv_if_eq (tgt := 74) hx hb d_Mo_area_69 (by decide) (fun _ => ?_) (fun h0 => absurd (by decide) h0)
              refine lv_aload_n hx hb d_Mo_area_74 rfl (lv_at hl 0 rfl) ?_
              refine va_get (D := D) (ci := 6) (v := .int 0) (C := R_Mo) (T := T_Mo) (N := 24) hx hb hts hin_Mo hown hK hP 0 rfl rfl 1 (by decide) (hts _ wd_705) (fun _ h9 => h9) rfl d_Mo_area_75 ?_
              refine lv_istore (lv' := [(4, .int 0), (0, .ref g0), (1, .int k), (2, .int ce), (3, .int h)]) hx hb d_Mo_area_78 hl (by decide) rfl (fun ls hl => ?_)
              refine lv_aload_n hx hb d_Mo_area_80 rfl (lv_at hl 1 rfl) ?_
              refine va_get (D := D) (ci := 6) (v := .ref m_sea) (C := R_Mo) (T := T_Mo) (N := 24) hx hb hts hin_Mo hown hK hP 0 rfl rfl 2 (by decide) (hts _ wd_706) (fun _ h9 => h9) rfl d_Mo_area_81 ?_
              refine lv_iload hx hb d_Mo_area_84 (lv_at hl 0 rfl) ?_
              refine lv_iload_n hx hb d_Mo_area_86 rfl (lv_at hl 2 rfl) ?_
              refine lv_iconst (v := 1) hx hb d_Mo_area_87 (by decide) ?_
              refine lv_icmp_ne (tgt := 95) hx hb d_Mo_area_88 (by decide) (fun hc10 => ?_) (fun hc10 => ?_)
              · -- 88 taken
                refine lv_iconst (v := 0) hx hb d_Mo_area_95 (by decide) ?_
                refine va_zast hx hb hK hP hD hS 1 1 rfl rfl (by unfold vp_in; decide) d_Mo_area_96 (fun H locs hP hD hS => ?_)
                have hP : va_P D vwCl [(g0, .inr (6, [.int 0, .int 0, .ref m_sea, .ref m_center, .ref m_home, .ref m_borders, .int 0, .int mt, .ref m_owner, .ref m_units, .ref m_kind, .ref m_toX, .ref m_toY, .ref m_results, .ref m_known, .ref m_reached, .ref m_way, .ref m_aside, .ref m_origin, .ref m_retreats, .ref m_contested, .ref m_moved, .int msh, .ref m_past])), (m_sea, .inl (cZ, 12, .inl (upd f1 (0 : Int32).toNatClampNeg (vp_nar .boolean 0)))), (m_center, .inl (cZ, 12, .inl f2)), (m_home, .inl (cI, 12, .inl f3)), (m_owner, .inl (cI, 12, .inl f4)), (m_units, .inl (cI, 12, .inl f5)), (m_aside, .inl (cI, 12, .inl f6))] H := hP
                have hD : va_D A [(g0, .inr (6, [.int 0, .int 0, .ref m_sea, .ref m_center, .ref m_home, .ref m_borders, .int 0, .int mt, .ref m_owner, .ref m_units, .ref m_kind, .ref m_toX, .ref m_toY, .ref m_results, .ref m_known, .ref m_reached, .ref m_way, .ref m_aside, .ref m_origin, .ref m_retreats, .ref m_contested, .ref m_moved, .int msh, .ref m_past])), (m_sea, .inl (cZ, 12, .inl (upd f1 (0 : Int32).toNatClampNeg (vp_nar .boolean 0)))), (m_center, .inl (cZ, 12, .inl f2)), (m_home, .inl (cI, 12, .inl f3)), (m_owner, .inl (cI, 12, .inl f4)), (m_units, .inl (cI, 12, .inl f5)), (m_aside, .inl (cI, 12, .inl f6))] := hD
                refine lv_aload_n hx hb d_Mo_area_97 rfl (lv_at hl 1 rfl) ?_
                refine va_get (D := D) (ci := 6) (v := .ref m_center) (C := R_Mo) (T := T_Mo) (N := 24) hx hb hts hin_Mo hown hK hP 0 rfl rfl 3 (by decide) (hts _ wd_707) (fun _ h9 => h9) rfl d_Mo_area_98 ?_
                refine lv_iload hx hb d_Mo_area_101 (lv_at hl 0 rfl) ?_
                refine lv_iload_n hx hb d_Mo_area_103 rfl (lv_at hl 3 rfl) ?_
                refine va_zast hx hb hK hP hD hS 2 1 rfl rfl (by unfold vp_in; decide) d_Mo_area_104 (fun H locs hP hD hS => ?_)
                have hP : va_P D vwCl [(g0, .inr (6, [.int 0, .int 0, .ref m_sea, .ref m_center, .ref m_home, .ref m_borders, .int 0, .int mt, .ref m_owner, .ref m_units, .ref m_kind, .ref m_toX, .ref m_toY, .ref m_results, .ref m_known, .ref m_reached, .ref m_way, .ref m_aside, .ref m_origin, .ref m_retreats, .ref m_contested, .ref m_moved, .int msh, .ref m_past])), (m_sea, .inl (cZ, 12, .inl (upd f1 (0 : Int32).toNatClampNeg (vp_nar .boolean 0)))), (m_center, .inl (cZ, 12, .inl (upd f2 (0 : Int32).toNatClampNeg (vp_nar .boolean ce)))), (m_home, .inl (cI, 12, .inl f3)), (m_owner, .inl (cI, 12, .inl f4)), (m_units, .inl (cI, 12, .inl f5)), (m_aside, .inl (cI, 12, .inl f6))] H := hP
                have hD : va_D A [(g0, .inr (6, [.int 0, .int 0, .ref m_sea, .ref m_center, .ref m_home, .ref m_borders, .int 0, .int mt, .ref m_owner, .ref m_units, .ref m_kind, .ref m_toX, .ref m_toY, .ref m_results, .ref m_known, .ref m_reached, .ref m_way, .ref m_aside, .ref m_origin, .ref m_retreats, .ref m_contested, .ref m_moved, .int msh, .ref m_past])), (m_sea, .inl (cZ, 12, .inl (upd f1 (0 : Int32).toNatClampNeg (vp_nar .boolean 0)))), (m_center, .inl (cZ, 12, .inl (upd f2 (0 : Int32).toNatClampNeg (vp_nar .boolean ce)))), (m_home, .inl (cI, 12, .inl f3)), (m_owner, .inl (cI, 12, .inl f4)), (m_units, .inl (cI, 12, .inl f5)), (m_aside, .inl (cI, 12, .inl f6))] := hD
                refine lv_aload_n hx hb d_Mo_area_105 rfl (lv_at hl 1 rfl) ?_
                refine va_get (D := D) (ci := 6) (v := .ref m_home) (C := R_Mo) (T := T_Mo) (N := 24) hx hb hts hin_Mo hown hK hP 0 rfl rfl 4 (by decide) (hts _ wd_708) (fun _ h9 => h9) rfl d_Mo_area_106 ?_
                refine lv_iload hx hb d_Mo_area_109 (lv_at hl 0 rfl) ?_
                refine lv_iload_n hx hb d_Mo_area_111 rfl (lv_at hl 4 rfl) ?_
                refine va_iast hx hb hK hP hD hS 3 0 rfl rfl (by unfold vp_in; decide) d_Mo_area_112 (fun H locs hP hD hS => ?_)
                have hP : va_P D vwCl [(g0, .inr (6, [.int 0, .int 0, .ref m_sea, .ref m_center, .ref m_home, .ref m_borders, .int 0, .int mt, .ref m_owner, .ref m_units, .ref m_kind, .ref m_toX, .ref m_toY, .ref m_results, .ref m_known, .ref m_reached, .ref m_way, .ref m_aside, .ref m_origin, .ref m_retreats, .ref m_contested, .ref m_moved, .int msh, .ref m_past])), (m_sea, .inl (cZ, 12, .inl (upd f1 (0 : Int32).toNatClampNeg (vp_nar .boolean 0)))), (m_center, .inl (cZ, 12, .inl (upd f2 (0 : Int32).toNatClampNeg (vp_nar .boolean ce)))), (m_home, .inl (cI, 12, .inl (upd f3 (0 : Int32).toNatClampNeg h))), (m_owner, .inl (cI, 12, .inl f4)), (m_units, .inl (cI, 12, .inl f5)), (m_aside, .inl (cI, 12, .inl f6))] H := hP
                have hD : va_D A [(g0, .inr (6, [.int 0, .int 0, .ref m_sea, .ref m_center, .ref m_home, .ref m_borders, .int 0, .int mt, .ref m_owner, .ref m_units, .ref m_kind, .ref m_toX, .ref m_toY, .ref m_results, .ref m_known, .ref m_reached, .ref m_way, .ref m_aside, .ref m_origin, .ref m_retreats, .ref m_contested, .ref m_moved, .int msh, .ref m_past])), (m_sea, .inl (cZ, 12, .inl (upd f1 (0 : Int32).toNatClampNeg (vp_nar .boolean 0)))), (m_center, .inl (cZ, 12, .inl (upd f2 (0 : Int32).toNatClampNeg (vp_nar .boolean ce)))), (m_home, .inl (cI, 12, .inl (upd f3 (0 : Int32).toNatClampNeg h))), (m_owner, .inl (cI, 12, .inl f4)), (m_units, .inl (cI, 12, .inl f5)), (m_aside, .inl (cI, 12, .inl f6))] := hD
                refine lv_aload_n hx hb d_Mo_area_113 rfl (lv_at hl 1 rfl) ?_
                refine va_get (D := D) (ci := 6) (v := .ref m_owner) (C := R_Mo) (T := T_Mo) (N := 24) hx hb hts hin_Mo hown hK hP 0 rfl rfl 8 (by decide) (hts _ wd_712) (fun _ h9 => h9) rfl d_Mo_area_114 ?_
                refine lv_iload hx hb d_Mo_area_117 (lv_at hl 0 rfl) ?_
                refine lv_iload_n hx hb d_Mo_area_119 rfl (lv_at hl 4 rfl) ?_
                refine va_iast hx hb hK hP hD hS 4 0 rfl rfl (by unfold vp_in; decide) d_Mo_area_120 (fun H locs hP hD hS => ?_)
                have hP : va_P D vwCl [(g0, .inr (6, [.int 0, .int 0, .ref m_sea, .ref m_center, .ref m_home, .ref m_borders, .int 0, .int mt, .ref m_owner, .ref m_units, .ref m_kind, .ref m_toX, .ref m_toY, .ref m_results, .ref m_known, .ref m_reached, .ref m_way, .ref m_aside, .ref m_origin, .ref m_retreats, .ref m_contested, .ref m_moved, .int msh, .ref m_past])), (m_sea, .inl (cZ, 12, .inl (upd f1 (0 : Int32).toNatClampNeg (vp_nar .boolean 0)))), (m_center, .inl (cZ, 12, .inl (upd f2 (0 : Int32).toNatClampNeg (vp_nar .boolean ce)))), (m_home, .inl (cI, 12, .inl (upd f3 (0 : Int32).toNatClampNeg h))), (m_owner, .inl (cI, 12, .inl (upd f4 (0 : Int32).toNatClampNeg h))), (m_units, .inl (cI, 12, .inl f5)), (m_aside, .inl (cI, 12, .inl f6))] H := hP
                have hD : va_D A [(g0, .inr (6, [.int 0, .int 0, .ref m_sea, .ref m_center, .ref m_home, .ref m_borders, .int 0, .int mt, .ref m_owner, .ref m_units, .ref m_kind, .ref m_toX, .ref m_toY, .ref m_results, .ref m_known, .ref m_reached, .ref m_way, .ref m_aside, .ref m_origin, .ref m_retreats, .ref m_contested, .ref m_moved, .int msh, .ref m_past])), (m_sea, .inl (cZ, 12, .inl (upd f1 (0 : Int32).toNatClampNeg (vp_nar .boolean 0)))), (m_center, .inl (cZ, 12, .inl (upd f2 (0 : Int32).toNatClampNeg (vp_nar .boolean ce)))), (m_home, .inl (cI, 12, .inl (upd f3 (0 : Int32).toNatClampNeg h))), (m_owner, .inl (cI, 12, .inl (upd f4 (0 : Int32).toNatClampNeg h))), (m_units, .inl (cI, 12, .inl f5)), (m_aside, .inl (cI, 12, .inl f6))] := hD
                refine lv_aload_n hx hb d_Mo_area_121 rfl (lv_at hl 1 rfl) ?_
                refine va_get (D := D) (ci := 6) (v := .ref m_units) (C := R_Mo) (T := T_Mo) (N := 24) hx hb hts hin_Mo hown hK hP 0 rfl rfl 9 (by decide) (hts _ wd_713) (fun _ h9 => h9) rfl d_Mo_area_122 ?_
                refine lv_iload hx hb d_Mo_area_125 (lv_at hl 0 rfl) ?_
                refine lv_iconst (v := (-1)) hx hb d_Mo_area_127 (by decide) ?_
                refine va_iast hx hb hK hP hD hS 5 0 rfl rfl (by unfold vp_in; decide) d_Mo_area_128 (fun H locs hP hD hS => ?_)
                have hP : va_P D vwCl [(g0, .inr (6, [.int 0, .int 0, .ref m_sea, .ref m_center, .ref m_home, .ref m_borders, .int 0, .int mt, .ref m_owner, .ref m_units, .ref m_kind, .ref m_toX, .ref m_toY, .ref m_results, .ref m_known, .ref m_reached, .ref m_way, .ref m_aside, .ref m_origin, .ref m_retreats, .ref m_contested, .ref m_moved, .int msh, .ref m_past])), (m_sea, .inl (cZ, 12, .inl (upd f1 (0 : Int32).toNatClampNeg (vp_nar .boolean 0)))), (m_center, .inl (cZ, 12, .inl (upd f2 (0 : Int32).toNatClampNeg (vp_nar .boolean ce)))), (m_home, .inl (cI, 12, .inl (upd f3 (0 : Int32).toNatClampNeg h))), (m_owner, .inl (cI, 12, .inl (upd f4 (0 : Int32).toNatClampNeg h))), (m_units, .inl (cI, 12, .inl (upd f5 (0 : Int32).toNatClampNeg (-1)))), (m_aside, .inl (cI, 12, .inl f6))] H := hP
                have hD : va_D A [(g0, .inr (6, [.int 0, .int 0, .ref m_sea, .ref m_center, .ref m_home, .ref m_borders, .int 0, .int mt, .ref m_owner, .ref m_units, .ref m_kind, .ref m_toX, .ref m_toY, .ref m_results, .ref m_known, .ref m_reached, .ref m_way, .ref m_aside, .ref m_origin, .ref m_retreats, .ref m_contested, .ref m_moved, .int msh, .ref m_past])), (m_sea, .inl (cZ, 12, .inl (upd f1 (0 : Int32).toNatClampNeg (vp_nar .boolean 0)))), (m_center, .inl (cZ, 12, .inl (upd f2 (0 : Int32).toNatClampNeg (vp_nar .boolean ce)))), (m_home, .inl (cI, 12, .inl (upd f3 (0 : Int32).toNatClampNeg h))), (m_owner, .inl (cI, 12, .inl (upd f4 (0 : Int32).toNatClampNeg h))), (m_units, .inl (cI, 12, .inl (upd f5 (0 : Int32).toNatClampNeg (-1)))), (m_aside, .inl (cI, 12, .inl f6))] := hD
                refine lv_aload_n hx hb d_Mo_area_129 rfl (lv_at hl 1 rfl) ?_
                refine va_get (D := D) (ci := 6) (v := .ref m_aside) (C := R_Mo) (T := T_Mo) (N := 24) hx hb hts hin_Mo hown hK hP 0 rfl rfl 17 (by decide) (hts _ wd_721) (fun _ h9 => h9) rfl d_Mo_area_130 ?_
                refine lv_iload hx hb d_Mo_area_133 (lv_at hl 0 rfl) ?_
                refine lv_iconst (v := (-1)) hx hb d_Mo_area_135 (by decide) ?_
                refine va_iast hx hb hK hP hD hS 6 0 rfl rfl (by unfold vp_in; decide) d_Mo_area_136 (fun H locs hP hD hS => ?_)
                have hP : va_P D vwCl [(g0, .inr (6, [.int 0, .int 0, .ref m_sea, .ref m_center, .ref m_home, .ref m_borders, .int 0, .int mt, .ref m_owner, .ref m_units, .ref m_kind, .ref m_toX, .ref m_toY, .ref m_results, .ref m_known, .ref m_reached, .ref m_way, .ref m_aside, .ref m_origin, .ref m_retreats, .ref m_contested, .ref m_moved, .int msh, .ref m_past])), (m_sea, .inl (cZ, 12, .inl (upd f1 (0 : Int32).toNatClampNeg (vp_nar .boolean 0)))), (m_center, .inl (cZ, 12, .inl (upd f2 (0 : Int32).toNatClampNeg (vp_nar .boolean ce)))), (m_home, .inl (cI, 12, .inl (upd f3 (0 : Int32).toNatClampNeg h))), (m_owner, .inl (cI, 12, .inl (upd f4 (0 : Int32).toNatClampNeg h))), (m_units, .inl (cI, 12, .inl (upd f5 (0 : Int32).toNatClampNeg (-1)))), (m_aside, .inl (cI, 12, .inl (upd f6 (0 : Int32).toNatClampNeg (-1))))] H := hP
                have hD : va_D A [(g0, .inr (6, [.int 0, .int 0, .ref m_sea, .ref m_center, .ref m_home, .ref m_borders, .int 0, .int mt, .ref m_owner, .ref m_units, .ref m_kind, .ref m_toX, .ref m_toY, .ref m_results, .ref m_known, .ref m_reached, .ref m_way, .ref m_aside, .ref m_origin, .ref m_retreats, .ref m_contested, .ref m_moved, .int msh, .ref m_past])), (m_sea, .inl (cZ, 12, .inl (upd f1 (0 : Int32).toNatClampNeg (vp_nar .boolean 0)))), (m_center, .inl (cZ, 12, .inl (upd f2 (0 : Int32).toNatClampNeg (vp_nar .boolean ce)))), (m_home, .inl (cI, 12, .inl (upd f3 (0 : Int32).toNatClampNeg h))), (m_owner, .inl (cI, 12, .inl (upd f4 (0 : Int32).toNatClampNeg h))), (m_units, .inl (cI, 12, .inl (upd f5 (0 : Int32).toNatClampNeg (-1)))), (m_aside, .inl (cI, 12, .inl (upd f6 (0 : Int32).toNatClampNeg (-1))))] := hD
                refine lv_aload_n hx hb d_Mo_area_137 rfl (lv_at hl 1 rfl) ?_
                refine lv_dup hx hb d_Mo_area_138 rfl ?_
                refine va_get (D := D) (ci := 6) (v := .int 0) (C := R_Mo) (T := T_Mo) (N := 24) hx hb hts hin_Mo hown hK hP 0 rfl rfl 1 (by decide) (hts _ wd_705) (fun _ h9 => h9) rfl d_Mo_area_139 ?_
                refine lv_iconst (v := 1) hx hb d_Mo_area_142 (by decide) ?_
                refine lv_iadd hx hb d_Mo_area_143 ?_
                refine lv_topi (fun z11 hz11 => ?_)
                rw [show z11 = 1 from hz11.trans (by decide)]
                refine va_put (D := D) (ci := 6) (v := .int 1) (ty := .int) (C := R_Mo) (T := T_Mo) (N := 24) hx hb hts hin_Mo ty_Mo tyok_Mo nm_Mo hown hK hP hD hS 0 rfl rfl 1 (by decide) (hts _ wd_705) (fun _ h9 => h9) rfl (by decide +kernel) rfl rfl (Nat.le_of_ble_eq_true rfl) d_Mo_area_144 (fun H locs hP hD hS => ?_)
                have hP : va_P D vwCl [(g0, .inr (6, [.int 0, .int 1, .ref m_sea, .ref m_center, .ref m_home, .ref m_borders, .int 0, .int mt, .ref m_owner, .ref m_units, .ref m_kind, .ref m_toX, .ref m_toY, .ref m_results, .ref m_known, .ref m_reached, .ref m_way, .ref m_aside, .ref m_origin, .ref m_retreats, .ref m_contested, .ref m_moved, .int msh, .ref m_past])), (m_sea, .inl (cZ, 12, .inl (upd f1 (0 : Int32).toNatClampNeg (vp_nar .boolean 0)))), (m_center, .inl (cZ, 12, .inl (upd f2 (0 : Int32).toNatClampNeg (vp_nar .boolean ce)))), (m_home, .inl (cI, 12, .inl (upd f3 (0 : Int32).toNatClampNeg h))), (m_owner, .inl (cI, 12, .inl (upd f4 (0 : Int32).toNatClampNeg h))), (m_units, .inl (cI, 12, .inl (upd f5 (0 : Int32).toNatClampNeg (-1)))), (m_aside, .inl (cI, 12, .inl (upd f6 (0 : Int32).toNatClampNeg (-1))))] H := hP
                have hD : va_D A [(g0, .inr (6, [.int 0, .int 1, .ref m_sea, .ref m_center, .ref m_home, .ref m_borders, .int 0, .int mt, .ref m_owner, .ref m_units, .ref m_kind, .ref m_toX, .ref m_toY, .ref m_results, .ref m_known, .ref m_reached, .ref m_way, .ref m_aside, .ref m_origin, .ref m_retreats, .ref m_contested, .ref m_moved, .int msh, .ref m_past])), (m_sea, .inl (cZ, 12, .inl (upd f1 (0 : Int32).toNatClampNeg (vp_nar .boolean 0)))), (m_center, .inl (cZ, 12, .inl (upd f2 (0 : Int32).toNatClampNeg (vp_nar .boolean ce)))), (m_home, .inl (cI, 12, .inl (upd f3 (0 : Int32).toNatClampNeg h))), (m_owner, .inl (cI, 12, .inl (upd f4 (0 : Int32).toNatClampNeg h))), (m_units, .inl (cI, 12, .inl (upd f5 (0 : Int32).toNatClampNeg (-1)))), (m_aside, .inl (cI, 12, .inl (upd f6 (0 : Int32).toNatClampNeg (-1))))] := hD
                refine lv_iload hx hb d_Mo_area_147 (lv_at hl 0 rfl) ?_
                have hP9 := hP.sub (ws' := [(g0, .inr (6, [.int 0, .int 1, .ref m_sea, .ref m_center, .ref m_home, .ref m_borders, .int 0, .int mt, .ref m_owner, .ref m_units, .ref m_kind, .ref m_toX, .ref m_toY, .ref m_results, .ref m_known, .ref m_reached, .ref m_way, .ref m_aside, .ref m_origin, .ref m_retreats, .ref m_contested, .ref m_moved, .int msh, .ref m_past]))]) [0] rfl
                have hD9 := hD.sub (ws' := [(g0, .inr (6, [.int 0, .int 1, .ref m_sea, .ref m_center, .ref m_home, .ref m_borders, .int 0, .int mt, .ref m_owner, .ref m_units, .ref m_kind, .ref m_toX, .ref m_toY, .ref m_results, .ref m_known, .ref m_reached, .ref m_way, .ref m_aside, .ref m_origin, .ref m_retreats, .ref m_contested, .ref m_moved, .int msh, .ref m_past]))]) [0] (by decide) rfl
                exact W.iret (v := 0) hx hb hr (fun t ht hW => ⟨⟨0, (), rfl, rfl, by rw [ht]; exact hP9, hD9⟩, hS.F ht⟩) hS.2.2 d_Mo_area_149
              · -- 88 not taken
                refine lv_iconst (v := 1) hx hb d_Mo_area_91 (by decide) ?_
                refine lv_goto (tgt := 96) hx hb d_Mo_area_92 (by decide) ?_
                refine va_zast hx hb hK hP hD hS 1 1 rfl rfl (by unfold vp_in; decide) d_Mo_area_96 (fun H locs hP hD hS => ?_)
                have hP : va_P D vwCl [(g0, .inr (6, [.int 0, .int 0, .ref m_sea, .ref m_center, .ref m_home, .ref m_borders, .int 0, .int mt, .ref m_owner, .ref m_units, .ref m_kind, .ref m_toX, .ref m_toY, .ref m_results, .ref m_known, .ref m_reached, .ref m_way, .ref m_aside, .ref m_origin, .ref m_retreats, .ref m_contested, .ref m_moved, .int msh, .ref m_past])), (m_sea, .inl (cZ, 12, .inl (upd f1 (0 : Int32).toNatClampNeg (vp_nar .boolean 1)))), (m_center, .inl (cZ, 12, .inl f2)), (m_home, .inl (cI, 12, .inl f3)), (m_owner, .inl (cI, 12, .inl f4)), (m_units, .inl (cI, 12, .inl f5)), (m_aside, .inl (cI, 12, .inl f6))] H := hP
                have hD : va_D A [(g0, .inr (6, [.int 0, .int 0, .ref m_sea, .ref m_center, .ref m_home, .ref m_borders, .int 0, .int mt, .ref m_owner, .ref m_units, .ref m_kind, .ref m_toX, .ref m_toY, .ref m_results, .ref m_known, .ref m_reached, .ref m_way, .ref m_aside, .ref m_origin, .ref m_retreats, .ref m_contested, .ref m_moved, .int msh, .ref m_past])), (m_sea, .inl (cZ, 12, .inl (upd f1 (0 : Int32).toNatClampNeg (vp_nar .boolean 1)))), (m_center, .inl (cZ, 12, .inl f2)), (m_home, .inl (cI, 12, .inl f3)), (m_owner, .inl (cI, 12, .inl f4)), (m_units, .inl (cI, 12, .inl f5)), (m_aside, .inl (cI, 12, .inl f6))] := hD
                refine lv_aload_n hx hb d_Mo_area_97 rfl (lv_at hl 1 rfl) ?_
                refine va_get (D := D) (ci := 6) (v := .ref m_center) (C := R_Mo) (T := T_Mo) (N := 24) hx hb hts hin_Mo hown hK hP 0 rfl rfl 3 (by decide) (hts _ wd_707) (fun _ h9 => h9) rfl d_Mo_area_98 ?_
                refine lv_iload hx hb d_Mo_area_101 (lv_at hl 0 rfl) ?_
                refine lv_iload_n hx hb d_Mo_area_103 rfl (lv_at hl 3 rfl) ?_
                refine va_zast hx hb hK hP hD hS 2 1 rfl rfl (by unfold vp_in; decide) d_Mo_area_104 (fun H locs hP hD hS => ?_)
                have hP : va_P D vwCl [(g0, .inr (6, [.int 0, .int 0, .ref m_sea, .ref m_center, .ref m_home, .ref m_borders, .int 0, .int mt, .ref m_owner, .ref m_units, .ref m_kind, .ref m_toX, .ref m_toY, .ref m_results, .ref m_known, .ref m_reached, .ref m_way, .ref m_aside, .ref m_origin, .ref m_retreats, .ref m_contested, .ref m_moved, .int msh, .ref m_past])), (m_sea, .inl (cZ, 12, .inl (upd f1 (0 : Int32).toNatClampNeg (vp_nar .boolean 1)))), (m_center, .inl (cZ, 12, .inl (upd f2 (0 : Int32).toNatClampNeg (vp_nar .boolean ce)))), (m_home, .inl (cI, 12, .inl f3)), (m_owner, .inl (cI, 12, .inl f4)), (m_units, .inl (cI, 12, .inl f5)), (m_aside, .inl (cI, 12, .inl f6))] H := hP
                have hD : va_D A [(g0, .inr (6, [.int 0, .int 0, .ref m_sea, .ref m_center, .ref m_home, .ref m_borders, .int 0, .int mt, .ref m_owner, .ref m_units, .ref m_kind, .ref m_toX, .ref m_toY, .ref m_results, .ref m_known, .ref m_reached, .ref m_way, .ref m_aside, .ref m_origin, .ref m_retreats, .ref m_contested, .ref m_moved, .int msh, .ref m_past])), (m_sea, .inl (cZ, 12, .inl (upd f1 (0 : Int32).toNatClampNeg (vp_nar .boolean 1)))), (m_center, .inl (cZ, 12, .inl (upd f2 (0 : Int32).toNatClampNeg (vp_nar .boolean ce)))), (m_home, .inl (cI, 12, .inl f3)), (m_owner, .inl (cI, 12, .inl f4)), (m_units, .inl (cI, 12, .inl f5)), (m_aside, .inl (cI, 12, .inl f6))] := hD
                refine lv_aload_n hx hb d_Mo_area_105 rfl (lv_at hl 1 rfl) ?_
                refine va_get (D := D) (ci := 6) (v := .ref m_home) (C := R_Mo) (T := T_Mo) (N := 24) hx hb hts hin_Mo hown hK hP 0 rfl rfl 4 (by decide) (hts _ wd_708) (fun _ h9 => h9) rfl d_Mo_area_106 ?_
                refine lv_iload hx hb d_Mo_area_109 (lv_at hl 0 rfl) ?_
                refine lv_iload_n hx hb d_Mo_area_111 rfl (lv_at hl 4 rfl) ?_
                refine va_iast hx hb hK hP hD hS 3 0 rfl rfl (by unfold vp_in; decide) d_Mo_area_112 (fun H locs hP hD hS => ?_)
                have hP : va_P D vwCl [(g0, .inr (6, [.int 0, .int 0, .ref m_sea, .ref m_center, .ref m_home, .ref m_borders, .int 0, .int mt, .ref m_owner, .ref m_units, .ref m_kind, .ref m_toX, .ref m_toY, .ref m_results, .ref m_known, .ref m_reached, .ref m_way, .ref m_aside, .ref m_origin, .ref m_retreats, .ref m_contested, .ref m_moved, .int msh, .ref m_past])), (m_sea, .inl (cZ, 12, .inl (upd f1 (0 : Int32).toNatClampNeg (vp_nar .boolean 1)))), (m_center, .inl (cZ, 12, .inl (upd f2 (0 : Int32).toNatClampNeg (vp_nar .boolean ce)))), (m_home, .inl (cI, 12, .inl (upd f3 (0 : Int32).toNatClampNeg h))), (m_owner, .inl (cI, 12, .inl f4)), (m_units, .inl (cI, 12, .inl f5)), (m_aside, .inl (cI, 12, .inl f6))] H := hP
                have hD : va_D A [(g0, .inr (6, [.int 0, .int 0, .ref m_sea, .ref m_center, .ref m_home, .ref m_borders, .int 0, .int mt, .ref m_owner, .ref m_units, .ref m_kind, .ref m_toX, .ref m_toY, .ref m_results, .ref m_known, .ref m_reached, .ref m_way, .ref m_aside, .ref m_origin, .ref m_retreats, .ref m_contested, .ref m_moved, .int msh, .ref m_past])), (m_sea, .inl (cZ, 12, .inl (upd f1 (0 : Int32).toNatClampNeg (vp_nar .boolean 1)))), (m_center, .inl (cZ, 12, .inl (upd f2 (0 : Int32).toNatClampNeg (vp_nar .boolean ce)))), (m_home, .inl (cI, 12, .inl (upd f3 (0 : Int32).toNatClampNeg h))), (m_owner, .inl (cI, 12, .inl f4)), (m_units, .inl (cI, 12, .inl f5)), (m_aside, .inl (cI, 12, .inl f6))] := hD
                refine lv_aload_n hx hb d_Mo_area_113 rfl (lv_at hl 1 rfl) ?_
                refine va_get (D := D) (ci := 6) (v := .ref m_owner) (C := R_Mo) (T := T_Mo) (N := 24) hx hb hts hin_Mo hown hK hP 0 rfl rfl 8 (by decide) (hts _ wd_712) (fun _ h9 => h9) rfl d_Mo_area_114 ?_
                refine lv_iload hx hb d_Mo_area_117 (lv_at hl 0 rfl) ?_
                refine lv_iload_n hx hb d_Mo_area_119 rfl (lv_at hl 4 rfl) ?_
                refine va_iast hx hb hK hP hD hS 4 0 rfl rfl (by unfold vp_in; decide) d_Mo_area_120 (fun H locs hP hD hS => ?_)
                have hP : va_P D vwCl [(g0, .inr (6, [.int 0, .int 0, .ref m_sea, .ref m_center, .ref m_home, .ref m_borders, .int 0, .int mt, .ref m_owner, .ref m_units, .ref m_kind, .ref m_toX, .ref m_toY, .ref m_results, .ref m_known, .ref m_reached, .ref m_way, .ref m_aside, .ref m_origin, .ref m_retreats, .ref m_contested, .ref m_moved, .int msh, .ref m_past])), (m_sea, .inl (cZ, 12, .inl (upd f1 (0 : Int32).toNatClampNeg (vp_nar .boolean 1)))), (m_center, .inl (cZ, 12, .inl (upd f2 (0 : Int32).toNatClampNeg (vp_nar .boolean ce)))), (m_home, .inl (cI, 12, .inl (upd f3 (0 : Int32).toNatClampNeg h))), (m_owner, .inl (cI, 12, .inl (upd f4 (0 : Int32).toNatClampNeg h))), (m_units, .inl (cI, 12, .inl f5)), (m_aside, .inl (cI, 12, .inl f6))] H := hP
                have hD : va_D A [(g0, .inr (6, [.int 0, .int 0, .ref m_sea, .ref m_center, .ref m_home, .ref m_borders, .int 0, .int mt, .ref m_owner, .ref m_units, .ref m_kind, .ref m_toX, .ref m_toY, .ref m_results, .ref m_known, .ref m_reached, .ref m_way, .ref m_aside, .ref m_origin, .ref m_retreats, .ref m_contested, .ref m_moved, .int msh, .ref m_past])), (m_sea, .inl (cZ, 12, .inl (upd f1 (0 : Int32).toNatClampNeg (vp_nar .boolean 1)))), (m_center, .inl (cZ, 12, .inl (upd f2 (0 : Int32).toNatClampNeg (vp_nar .boolean ce)))), (m_home, .inl (cI, 12, .inl (upd f3 (0 : Int32).toNatClampNeg h))), (m_owner, .inl (cI, 12, .inl (upd f4 (0 : Int32).toNatClampNeg h))), (m_units, .inl (cI, 12, .inl f5)), (m_aside, .inl (cI, 12, .inl f6))] := hD
                refine lv_aload_n hx hb d_Mo_area_121 rfl (lv_at hl 1 rfl) ?_
                refine va_get (D := D) (ci := 6) (v := .ref m_units) (C := R_Mo) (T := T_Mo) (N := 24) hx hb hts hin_Mo hown hK hP 0 rfl rfl 9 (by decide) (hts _ wd_713) (fun _ h9 => h9) rfl d_Mo_area_122 ?_
                refine lv_iload hx hb d_Mo_area_125 (lv_at hl 0 rfl) ?_
                refine lv_iconst (v := (-1)) hx hb d_Mo_area_127 (by decide) ?_
                refine va_iast hx hb hK hP hD hS 5 0 rfl rfl (by unfold vp_in; decide) d_Mo_area_128 (fun H locs hP hD hS => ?_)
                have hP : va_P D vwCl [(g0, .inr (6, [.int 0, .int 0, .ref m_sea, .ref m_center, .ref m_home, .ref m_borders, .int 0, .int mt, .ref m_owner, .ref m_units, .ref m_kind, .ref m_toX, .ref m_toY, .ref m_results, .ref m_known, .ref m_reached, .ref m_way, .ref m_aside, .ref m_origin, .ref m_retreats, .ref m_contested, .ref m_moved, .int msh, .ref m_past])), (m_sea, .inl (cZ, 12, .inl (upd f1 (0 : Int32).toNatClampNeg (vp_nar .boolean 1)))), (m_center, .inl (cZ, 12, .inl (upd f2 (0 : Int32).toNatClampNeg (vp_nar .boolean ce)))), (m_home, .inl (cI, 12, .inl (upd f3 (0 : Int32).toNatClampNeg h))), (m_owner, .inl (cI, 12, .inl (upd f4 (0 : Int32).toNatClampNeg h))), (m_units, .inl (cI, 12, .inl (upd f5 (0 : Int32).toNatClampNeg (-1)))), (m_aside, .inl (cI, 12, .inl f6))] H := hP
                have hD : va_D A [(g0, .inr (6, [.int 0, .int 0, .ref m_sea, .ref m_center, .ref m_home, .ref m_borders, .int 0, .int mt, .ref m_owner, .ref m_units, .ref m_kind, .ref m_toX, .ref m_toY, .ref m_results, .ref m_known, .ref m_reached, .ref m_way, .ref m_aside, .ref m_origin, .ref m_retreats, .ref m_contested, .ref m_moved, .int msh, .ref m_past])), (m_sea, .inl (cZ, 12, .inl (upd f1 (0 : Int32).toNatClampNeg (vp_nar .boolean 1)))), (m_center, .inl (cZ, 12, .inl (upd f2 (0 : Int32).toNatClampNeg (vp_nar .boolean ce)))), (m_home, .inl (cI, 12, .inl (upd f3 (0 : Int32).toNatClampNeg h))), (m_owner, .inl (cI, 12, .inl (upd f4 (0 : Int32).toNatClampNeg h))), (m_units, .inl (cI, 12, .inl (upd f5 (0 : Int32).toNatClampNeg (-1)))), (m_aside, .inl (cI, 12, .inl f6))] := hD
                refine lv_aload_n hx hb d_Mo_area_129 rfl (lv_at hl 1 rfl) ?_
                refine va_get (D := D) (ci := 6) (v := .ref m_aside) (C := R_Mo) (T := T_Mo) (N := 24) hx hb hts hin_Mo hown hK hP 0 rfl rfl 17 (by decide) (hts _ wd_721) (fun _ h9 => h9) rfl d_Mo_area_130 ?_
                refine lv_iload hx hb d_Mo_area_133 (lv_at hl 0 rfl) ?_
                refine lv_iconst (v := (-1)) hx hb d_Mo_area_135 (by decide) ?_
                refine va_iast hx hb hK hP hD hS 6 0 rfl rfl (by unfold vp_in; decide) d_Mo_area_136 (fun H locs hP hD hS => ?_)
                have hP : va_P D vwCl [(g0, .inr (6, [.int 0, .int 0, .ref m_sea, .ref m_center, .ref m_home, .ref m_borders, .int 0, .int mt, .ref m_owner, .ref m_units, .ref m_kind, .ref m_toX, .ref m_toY, .ref m_results, .ref m_known, .ref m_reached, .ref m_way, .ref m_aside, .ref m_origin, .ref m_retreats, .ref m_contested, .ref m_moved, .int msh, .ref m_past])), (m_sea, .inl (cZ, 12, .inl (upd f1 (0 : Int32).toNatClampNeg (vp_nar .boolean 1)))), (m_center, .inl (cZ, 12, .inl (upd f2 (0 : Int32).toNatClampNeg (vp_nar .boolean ce)))), (m_home, .inl (cI, 12, .inl (upd f3 (0 : Int32).toNatClampNeg h))), (m_owner, .inl (cI, 12, .inl (upd f4 (0 : Int32).toNatClampNeg h))), (m_units, .inl (cI, 12, .inl (upd f5 (0 : Int32).toNatClampNeg (-1)))), (m_aside, .inl (cI, 12, .inl (upd f6 (0 : Int32).toNatClampNeg (-1))))] H := hP
                have hD : va_D A [(g0, .inr (6, [.int 0, .int 0, .ref m_sea, .ref m_center, .ref m_home, .ref m_borders, .int 0, .int mt, .ref m_owner, .ref m_units, .ref m_kind, .ref m_toX, .ref m_toY, .ref m_results, .ref m_known, .ref m_reached, .ref m_way, .ref m_aside, .ref m_origin, .ref m_retreats, .ref m_contested, .ref m_moved, .int msh, .ref m_past])), (m_sea, .inl (cZ, 12, .inl (upd f1 (0 : Int32).toNatClampNeg (vp_nar .boolean 1)))), (m_center, .inl (cZ, 12, .inl (upd f2 (0 : Int32).toNatClampNeg (vp_nar .boolean ce)))), (m_home, .inl (cI, 12, .inl (upd f3 (0 : Int32).toNatClampNeg h))), (m_owner, .inl (cI, 12, .inl (upd f4 (0 : Int32).toNatClampNeg h))), (m_units, .inl (cI, 12, .inl (upd f5 (0 : Int32).toNatClampNeg (-1)))), (m_aside, .inl (cI, 12, .inl (upd f6 (0 : Int32).toNatClampNeg (-1))))] := hD
                refine lv_aload_n hx hb d_Mo_area_137 rfl (lv_at hl 1 rfl) ?_
                refine lv_dup hx hb d_Mo_area_138 rfl ?_
                refine va_get (D := D) (ci := 6) (v := .int 0) (C := R_Mo) (T := T_Mo) (N := 24) hx hb hts hin_Mo hown hK hP 0 rfl rfl 1 (by decide) (hts _ wd_705) (fun _ h9 => h9) rfl d_Mo_area_139 ?_
                refine lv_iconst (v := 1) hx hb d_Mo_area_142 (by decide) ?_
                refine lv_iadd hx hb d_Mo_area_143 ?_
                refine lv_topi (fun z12 hz12 => ?_)
                rw [show z12 = 1 from hz12.trans (by decide)]
                refine va_put (D := D) (ci := 6) (v := .int 1) (ty := .int) (C := R_Mo) (T := T_Mo) (N := 24) hx hb hts hin_Mo ty_Mo tyok_Mo nm_Mo hown hK hP hD hS 0 rfl rfl 1 (by decide) (hts _ wd_705) (fun _ h9 => h9) rfl (by decide +kernel) rfl rfl (Nat.le_of_ble_eq_true rfl) d_Mo_area_144 (fun H locs hP hD hS => ?_)
                have hP : va_P D vwCl [(g0, .inr (6, [.int 0, .int 1, .ref m_sea, .ref m_center, .ref m_home, .ref m_borders, .int 0, .int mt, .ref m_owner, .ref m_units, .ref m_kind, .ref m_toX, .ref m_toY, .ref m_results, .ref m_known, .ref m_reached, .ref m_way, .ref m_aside, .ref m_origin, .ref m_retreats, .ref m_contested, .ref m_moved, .int msh, .ref m_past])), (m_sea, .inl (cZ, 12, .inl (upd f1 (0 : Int32).toNatClampNeg (vp_nar .boolean 1)))), (m_center, .inl (cZ, 12, .inl (upd f2 (0 : Int32).toNatClampNeg (vp_nar .boolean ce)))), (m_home, .inl (cI, 12, .inl (upd f3 (0 : Int32).toNatClampNeg h))), (m_owner, .inl (cI, 12, .inl (upd f4 (0 : Int32).toNatClampNeg h))), (m_units, .inl (cI, 12, .inl (upd f5 (0 : Int32).toNatClampNeg (-1)))), (m_aside, .inl (cI, 12, .inl (upd f6 (0 : Int32).toNatClampNeg (-1))))] H := hP
                have hD : va_D A [(g0, .inr (6, [.int 0, .int 1, .ref m_sea, .ref m_center, .ref m_home, .ref m_borders, .int 0, .int mt, .ref m_owner, .ref m_units, .ref m_kind, .ref m_toX, .ref m_toY, .ref m_results, .ref m_known, .ref m_reached, .ref m_way, .ref m_aside, .ref m_origin, .ref m_retreats, .ref m_contested, .ref m_moved, .int msh, .ref m_past])), (m_sea, .inl (cZ, 12, .inl (upd f1 (0 : Int32).toNatClampNeg (vp_nar .boolean 1)))), (m_center, .inl (cZ, 12, .inl (upd f2 (0 : Int32).toNatClampNeg (vp_nar .boolean ce)))), (m_home, .inl (cI, 12, .inl (upd f3 (0 : Int32).toNatClampNeg h))), (m_owner, .inl (cI, 12, .inl (upd f4 (0 : Int32).toNatClampNeg h))), (m_units, .inl (cI, 12, .inl (upd f5 (0 : Int32).toNatClampNeg (-1)))), (m_aside, .inl (cI, 12, .inl (upd f6 (0 : Int32).toNatClampNeg (-1))))] := hD
                refine lv_iload hx hb d_Mo_area_147 (lv_at hl 0 rfl) ?_
                have hP9 := hP.sub (ws' := [(g0, .inr (6, [.int 0, .int 1, .ref m_sea, .ref m_center, .ref m_home, .ref m_borders, .int 0, .int mt, .ref m_owner, .ref m_units, .ref m_kind, .ref m_toX, .ref m_toY, .ref m_results, .ref m_known, .ref m_reached, .ref m_way, .ref m_aside, .ref m_origin, .ref m_retreats, .ref m_contested, .ref m_moved, .int msh, .ref m_past]))]) [0] rfl
                have hD9 := hD.sub (ws' := [(g0, .inr (6, [.int 0, .int 1, .ref m_sea, .ref m_center, .ref m_home, .ref m_borders, .int 0, .int mt, .ref m_owner, .ref m_units, .ref m_kind, .ref m_toX, .ref m_toY, .ref m_results, .ref m_known, .ref m_reached, .ref m_way, .ref m_aside, .ref m_origin, .ref m_retreats, .ref m_contested, .ref m_moved, .int msh, .ref m_past]))]) [0] (by decide) rfl
                exact W.iret (v := 0) hx hb hr (fun t ht hW => ⟨⟨0, (), rfl, rfl, by rw [ht]; exact hP9, hD9⟩, hS.F ht⟩) hS.2.2 d_Mo_area_149
            · -- 30 not taken
              refine lv_iload_n hx hb d_Mo_area_33 rfl (lv_at hl 2 rfl) ?_
              refine lv_if_ne (tgt := 41) hx hb d_Mo_area_34 (by decide) (fun h0 => absurd hc5 h0) (fun _ => ?_)
              exact False.elim (by unfold okA at hok; revert hok hc1 hc2 hc3 hc4 hc5 hc6; simp only [Int32.lt_iff_toInt_lt, Int32.le_iff_toInt_le, ← Int32.toInt_inj, Int32.reduceToInt, i32_m1]; omega)
          · -- 21 not taken
            refine lv_iload_n hx hb d_Mo_area_24 rfl (lv_at hl 1 rfl) ?_
            refine lv_iconst (v := 1) hx hb d_Mo_area_25 (by decide) ?_
            refine lv_icmp_eq (tgt := 37) hx hb d_Mo_area_26 (by decide) (fun hc14 => ?_) (fun hc14 => ?_)
            · -- 26 taken
              exact False.elim (by unfold okA at hok; revert hok hc1 hc2 hc3 hc4 hc5 hc14; simp only [Int32.lt_iff_toInt_lt, Int32.le_iff_toInt_le, ← Int32.toInt_inj, Int32.reduceToInt, i32_m1]; omega)
            · -- 26 not taken
              refine lv_iload_n hx hb d_Mo_area_29 rfl (lv_at hl 3 rfl) ?_
              refine lv_if_lt (tgt := 41) hx hb d_Mo_area_30 (by decide) (fun hc15 => ?_) (fun hc15 => ?_)
              · -- 30 taken
                refine lv_aload_n hx hb d_Mo_area_41 rfl (lv_at hl 0 rfl) ?_
                refine va_get (D := D) (ci := 6) (v := .int 0) (C := R_Mo) (T := T_Mo) (N := 24) hx hb hts hin_Mo hown hK hP 0 rfl rfl 1 (by decide) (hts _ wd_705) (fun _ h9 => h9) rfl d_Mo_area_42 ?_
                refine lv_bipush (v := 12) hx hb d_Mo_area_45 (by decide) ?_
                refine lv_icmp_eq (tgt := 57) hx hb d_Mo_area_47 (by decide) (fun h0 => absurd h0 (by decide)) (fun _ => ?_)
                refine lv_aload_n hx hb d_Mo_area_50 rfl (lv_at hl 0 rfl) ?_
                refine va_get (D := D) (ci := 6) (v := .int 0) (C := R_Mo) (T := T_Mo) (N := 24) hx hb hts hin_Mo hown hK hP 0 rfl rfl 6 (by decide) (hts _ wd_710) (fun _ h9 => h9) rfl d_Mo_area_51 ?_
                refine lv_if_eq (tgt := 61) hx hb d_Mo_area_54 (by decide) (fun _ => ?_) (fun h0 => absurd (by decide) h0)
                refine lv_iconst (v := 0) hx hb d_Mo_area_61 (by decide) ?_
                refine va_put (D := D) (ci := 6) (v := .int 0) (ty := .int) (C := R_Mo) (T := T_Mo) (N := 24) hx hb hts hin_Mo ty_Mo tyok_Mo nm_Mo hown hK hP hD hS 0 rfl rfl 0 (by decide) (hts _ wd_704) (fun _ h9 => h9) rfl (by decide +kernel) rfl rfl (Nat.le_of_ble_eq_true rfl) d_Mo_area_62 (fun H locs hP hD hS => ?_)
                have hP : va_P D vwCl [(g0, .inr (6, [.int 0, .int 0, .ref m_sea, .ref m_center, .ref m_home, .ref m_borders, .int 0, .int mt, .ref m_owner, .ref m_units, .ref m_kind, .ref m_toX, .ref m_toY, .ref m_results, .ref m_known, .ref m_reached, .ref m_way, .ref m_aside, .ref m_origin, .ref m_retreats, .ref m_contested, .ref m_moved, .int msh, .ref m_past])), (m_sea, .inl (cZ, 12, .inl f1)), (m_center, .inl (cZ, 12, .inl f2)), (m_home, .inl (cI, 12, .inl f3)), (m_owner, .inl (cI, 12, .inl f4)), (m_units, .inl (cI, 12, .inl f5)), (m_aside, .inl (cI, 12, .inl f6))] H := hP
                have hD : va_D A [(g0, .inr (6, [.int 0, .int 0, .ref m_sea, .ref m_center, .ref m_home, .ref m_borders, .int 0, .int mt, .ref m_owner, .ref m_units, .ref m_kind, .ref m_toX, .ref m_toY, .ref m_results, .ref m_known, .ref m_reached, .ref m_way, .ref m_aside, .ref m_origin, .ref m_retreats, .ref m_contested, .ref m_moved, .int msh, .ref m_past])), (m_sea, .inl (cZ, 12, .inl f1)), (m_center, .inl (cZ, 12, .inl f2)), (m_home, .inl (cI, 12, .inl f3)), (m_owner, .inl (cI, 12, .inl f4)), (m_units, .inl (cI, 12, .inl f5)), (m_aside, .inl (cI, 12, .inl f6))] := hD
                refine lv_aload_n hx hb d_Mo_area_65 rfl (lv_at hl 0 rfl) ?_
                refine va_get (D := D) (ci := 6) (v := .int 0) (C := R_Mo) (T := T_Mo) (N := 24) hx hb hts hin_Mo hown hK hP 0 rfl rfl 0 (by decide) (hts _ wd_704) (fun _ h9 => h9) rfl d_Mo_area_66 ?_
                refine lv_if_eq (tgt := 74) hx hb d_Mo_area_69 (by decide) (fun _ => ?_) (fun h0 => absurd (by decide) h0)
                refine lv_aload_n hx hb d_Mo_area_74 rfl (lv_at hl 0 rfl) ?_
                refine va_get (D := D) (ci := 6) (v := .int 0) (C := R_Mo) (T := T_Mo) (N := 24) hx hb hts hin_Mo hown hK hP 0 rfl rfl 1 (by decide) (hts _ wd_705) (fun _ h9 => h9) rfl d_Mo_area_75 ?_
                refine lv_istore (lv' := [(4, .int 0), (0, .ref g0), (1, .int k), (2, .int ce), (3, .int h)]) hx hb d_Mo_area_78 hl (by decide) rfl (fun ls hl => ?_)
                refine lv_aload_n hx hb d_Mo_area_80 rfl (lv_at hl 1 rfl) ?_
                refine va_get (D := D) (ci := 6) (v := .ref m_sea) (C := R_Mo) (T := T_Mo) (N := 24) hx hb hts hin_Mo hown hK hP 0 rfl rfl 2 (by decide) (hts _ wd_706) (fun _ h9 => h9) rfl d_Mo_area_81 ?_
                refine lv_iload hx hb d_Mo_area_84 (lv_at hl 0 rfl) ?_
                refine lv_iload_n hx hb d_Mo_area_86 rfl (lv_at hl 2 rfl) ?_
                refine lv_iconst (v := 1) hx hb d_Mo_area_87 (by decide) ?_
                refine lv_icmp_ne (tgt := 95) hx hb d_Mo_area_88 (by decide) (fun _ => ?_) (fun h0 => absurd h0 hc14)
                refine lv_iconst (v := 0) hx hb d_Mo_area_95 (by decide) ?_
                refine va_zast hx hb hK hP hD hS 1 1 rfl rfl (by unfold vp_in; decide) d_Mo_area_96 (fun H locs hP hD hS => ?_)
                have hP : va_P D vwCl [(g0, .inr (6, [.int 0, .int 0, .ref m_sea, .ref m_center, .ref m_home, .ref m_borders, .int 0, .int mt, .ref m_owner, .ref m_units, .ref m_kind, .ref m_toX, .ref m_toY, .ref m_results, .ref m_known, .ref m_reached, .ref m_way, .ref m_aside, .ref m_origin, .ref m_retreats, .ref m_contested, .ref m_moved, .int msh, .ref m_past])), (m_sea, .inl (cZ, 12, .inl (upd f1 (0 : Int32).toNatClampNeg (vp_nar .boolean 0)))), (m_center, .inl (cZ, 12, .inl f2)), (m_home, .inl (cI, 12, .inl f3)), (m_owner, .inl (cI, 12, .inl f4)), (m_units, .inl (cI, 12, .inl f5)), (m_aside, .inl (cI, 12, .inl f6))] H := hP
                have hD : va_D A [(g0, .inr (6, [.int 0, .int 0, .ref m_sea, .ref m_center, .ref m_home, .ref m_borders, .int 0, .int mt, .ref m_owner, .ref m_units, .ref m_kind, .ref m_toX, .ref m_toY, .ref m_results, .ref m_known, .ref m_reached, .ref m_way, .ref m_aside, .ref m_origin, .ref m_retreats, .ref m_contested, .ref m_moved, .int msh, .ref m_past])), (m_sea, .inl (cZ, 12, .inl (upd f1 (0 : Int32).toNatClampNeg (vp_nar .boolean 0)))), (m_center, .inl (cZ, 12, .inl f2)), (m_home, .inl (cI, 12, .inl f3)), (m_owner, .inl (cI, 12, .inl f4)), (m_units, .inl (cI, 12, .inl f5)), (m_aside, .inl (cI, 12, .inl f6))] := hD
                refine lv_aload_n hx hb d_Mo_area_97 rfl (lv_at hl 1 rfl) ?_
                refine va_get (D := D) (ci := 6) (v := .ref m_center) (C := R_Mo) (T := T_Mo) (N := 24) hx hb hts hin_Mo hown hK hP 0 rfl rfl 3 (by decide) (hts _ wd_707) (fun _ h9 => h9) rfl d_Mo_area_98 ?_
                refine lv_iload hx hb d_Mo_area_101 (lv_at hl 0 rfl) ?_
                refine lv_iload_n hx hb d_Mo_area_103 rfl (lv_at hl 3 rfl) ?_
                refine va_zast hx hb hK hP hD hS 2 1 rfl rfl (by unfold vp_in; decide) d_Mo_area_104 (fun H locs hP hD hS => ?_)
                have hP : va_P D vwCl [(g0, .inr (6, [.int 0, .int 0, .ref m_sea, .ref m_center, .ref m_home, .ref m_borders, .int 0, .int mt, .ref m_owner, .ref m_units, .ref m_kind, .ref m_toX, .ref m_toY, .ref m_results, .ref m_known, .ref m_reached, .ref m_way, .ref m_aside, .ref m_origin, .ref m_retreats, .ref m_contested, .ref m_moved, .int msh, .ref m_past])), (m_sea, .inl (cZ, 12, .inl (upd f1 (0 : Int32).toNatClampNeg (vp_nar .boolean 0)))), (m_center, .inl (cZ, 12, .inl (upd f2 (0 : Int32).toNatClampNeg (vp_nar .boolean ce)))), (m_home, .inl (cI, 12, .inl f3)), (m_owner, .inl (cI, 12, .inl f4)), (m_units, .inl (cI, 12, .inl f5)), (m_aside, .inl (cI, 12, .inl f6))] H := hP
                have hD : va_D A [(g0, .inr (6, [.int 0, .int 0, .ref m_sea, .ref m_center, .ref m_home, .ref m_borders, .int 0, .int mt, .ref m_owner, .ref m_units, .ref m_kind, .ref m_toX, .ref m_toY, .ref m_results, .ref m_known, .ref m_reached, .ref m_way, .ref m_aside, .ref m_origin, .ref m_retreats, .ref m_contested, .ref m_moved, .int msh, .ref m_past])), (m_sea, .inl (cZ, 12, .inl (upd f1 (0 : Int32).toNatClampNeg (vp_nar .boolean 0)))), (m_center, .inl (cZ, 12, .inl (upd f2 (0 : Int32).toNatClampNeg (vp_nar .boolean ce)))), (m_home, .inl (cI, 12, .inl f3)), (m_owner, .inl (cI, 12, .inl f4)), (m_units, .inl (cI, 12, .inl f5)), (m_aside, .inl (cI, 12, .inl f6))] := hD
                refine lv_aload_n hx hb d_Mo_area_105 rfl (lv_at hl 1 rfl) ?_
                refine va_get (D := D) (ci := 6) (v := .ref m_home) (C := R_Mo) (T := T_Mo) (N := 24) hx hb hts hin_Mo hown hK hP 0 rfl rfl 4 (by decide) (hts _ wd_708) (fun _ h9 => h9) rfl d_Mo_area_106 ?_
                refine lv_iload hx hb d_Mo_area_109 (lv_at hl 0 rfl) ?_
                refine lv_iload_n hx hb d_Mo_area_111 rfl (lv_at hl 4 rfl) ?_
                refine va_iast hx hb hK hP hD hS 3 0 rfl rfl (by unfold vp_in; decide) d_Mo_area_112 (fun H locs hP hD hS => ?_)
                have hP : va_P D vwCl [(g0, .inr (6, [.int 0, .int 0, .ref m_sea, .ref m_center, .ref m_home, .ref m_borders, .int 0, .int mt, .ref m_owner, .ref m_units, .ref m_kind, .ref m_toX, .ref m_toY, .ref m_results, .ref m_known, .ref m_reached, .ref m_way, .ref m_aside, .ref m_origin, .ref m_retreats, .ref m_contested, .ref m_moved, .int msh, .ref m_past])), (m_sea, .inl (cZ, 12, .inl (upd f1 (0 : Int32).toNatClampNeg (vp_nar .boolean 0)))), (m_center, .inl (cZ, 12, .inl (upd f2 (0 : Int32).toNatClampNeg (vp_nar .boolean ce)))), (m_home, .inl (cI, 12, .inl (upd f3 (0 : Int32).toNatClampNeg h))), (m_owner, .inl (cI, 12, .inl f4)), (m_units, .inl (cI, 12, .inl f5)), (m_aside, .inl (cI, 12, .inl f6))] H := hP
                have hD : va_D A [(g0, .inr (6, [.int 0, .int 0, .ref m_sea, .ref m_center, .ref m_home, .ref m_borders, .int 0, .int mt, .ref m_owner, .ref m_units, .ref m_kind, .ref m_toX, .ref m_toY, .ref m_results, .ref m_known, .ref m_reached, .ref m_way, .ref m_aside, .ref m_origin, .ref m_retreats, .ref m_contested, .ref m_moved, .int msh, .ref m_past])), (m_sea, .inl (cZ, 12, .inl (upd f1 (0 : Int32).toNatClampNeg (vp_nar .boolean 0)))), (m_center, .inl (cZ, 12, .inl (upd f2 (0 : Int32).toNatClampNeg (vp_nar .boolean ce)))), (m_home, .inl (cI, 12, .inl (upd f3 (0 : Int32).toNatClampNeg h))), (m_owner, .inl (cI, 12, .inl f4)), (m_units, .inl (cI, 12, .inl f5)), (m_aside, .inl (cI, 12, .inl f6))] := hD
                refine lv_aload_n hx hb d_Mo_area_113 rfl (lv_at hl 1 rfl) ?_
                refine va_get (D := D) (ci := 6) (v := .ref m_owner) (C := R_Mo) (T := T_Mo) (N := 24) hx hb hts hin_Mo hown hK hP 0 rfl rfl 8 (by decide) (hts _ wd_712) (fun _ h9 => h9) rfl d_Mo_area_114 ?_
                refine lv_iload hx hb d_Mo_area_117 (lv_at hl 0 rfl) ?_
                refine lv_iload_n hx hb d_Mo_area_119 rfl (lv_at hl 4 rfl) ?_
                refine va_iast hx hb hK hP hD hS 4 0 rfl rfl (by unfold vp_in; decide) d_Mo_area_120 (fun H locs hP hD hS => ?_)
                have hP : va_P D vwCl [(g0, .inr (6, [.int 0, .int 0, .ref m_sea, .ref m_center, .ref m_home, .ref m_borders, .int 0, .int mt, .ref m_owner, .ref m_units, .ref m_kind, .ref m_toX, .ref m_toY, .ref m_results, .ref m_known, .ref m_reached, .ref m_way, .ref m_aside, .ref m_origin, .ref m_retreats, .ref m_contested, .ref m_moved, .int msh, .ref m_past])), (m_sea, .inl (cZ, 12, .inl (upd f1 (0 : Int32).toNatClampNeg (vp_nar .boolean 0)))), (m_center, .inl (cZ, 12, .inl (upd f2 (0 : Int32).toNatClampNeg (vp_nar .boolean ce)))), (m_home, .inl (cI, 12, .inl (upd f3 (0 : Int32).toNatClampNeg h))), (m_owner, .inl (cI, 12, .inl (upd f4 (0 : Int32).toNatClampNeg h))), (m_units, .inl (cI, 12, .inl f5)), (m_aside, .inl (cI, 12, .inl f6))] H := hP
                have hD : va_D A [(g0, .inr (6, [.int 0, .int 0, .ref m_sea, .ref m_center, .ref m_home, .ref m_borders, .int 0, .int mt, .ref m_owner, .ref m_units, .ref m_kind, .ref m_toX, .ref m_toY, .ref m_results, .ref m_known, .ref m_reached, .ref m_way, .ref m_aside, .ref m_origin, .ref m_retreats, .ref m_contested, .ref m_moved, .int msh, .ref m_past])), (m_sea, .inl (cZ, 12, .inl (upd f1 (0 : Int32).toNatClampNeg (vp_nar .boolean 0)))), (m_center, .inl (cZ, 12, .inl (upd f2 (0 : Int32).toNatClampNeg (vp_nar .boolean ce)))), (m_home, .inl (cI, 12, .inl (upd f3 (0 : Int32).toNatClampNeg h))), (m_owner, .inl (cI, 12, .inl (upd f4 (0 : Int32).toNatClampNeg h))), (m_units, .inl (cI, 12, .inl f5)), (m_aside, .inl (cI, 12, .inl f6))] := hD
                refine lv_aload_n hx hb d_Mo_area_121 rfl (lv_at hl 1 rfl) ?_
                refine va_get (D := D) (ci := 6) (v := .ref m_units) (C := R_Mo) (T := T_Mo) (N := 24) hx hb hts hin_Mo hown hK hP 0 rfl rfl 9 (by decide) (hts _ wd_713) (fun _ h9 => h9) rfl d_Mo_area_122 ?_
                refine lv_iload hx hb d_Mo_area_125 (lv_at hl 0 rfl) ?_
                refine lv_iconst (v := (-1)) hx hb d_Mo_area_127 (by decide) ?_
                refine va_iast hx hb hK hP hD hS 5 0 rfl rfl (by unfold vp_in; decide) d_Mo_area_128 (fun H locs hP hD hS => ?_)
                have hP : va_P D vwCl [(g0, .inr (6, [.int 0, .int 0, .ref m_sea, .ref m_center, .ref m_home, .ref m_borders, .int 0, .int mt, .ref m_owner, .ref m_units, .ref m_kind, .ref m_toX, .ref m_toY, .ref m_results, .ref m_known, .ref m_reached, .ref m_way, .ref m_aside, .ref m_origin, .ref m_retreats, .ref m_contested, .ref m_moved, .int msh, .ref m_past])), (m_sea, .inl (cZ, 12, .inl (upd f1 (0 : Int32).toNatClampNeg (vp_nar .boolean 0)))), (m_center, .inl (cZ, 12, .inl (upd f2 (0 : Int32).toNatClampNeg (vp_nar .boolean ce)))), (m_home, .inl (cI, 12, .inl (upd f3 (0 : Int32).toNatClampNeg h))), (m_owner, .inl (cI, 12, .inl (upd f4 (0 : Int32).toNatClampNeg h))), (m_units, .inl (cI, 12, .inl (upd f5 (0 : Int32).toNatClampNeg (-1)))), (m_aside, .inl (cI, 12, .inl f6))] H := hP
                have hD : va_D A [(g0, .inr (6, [.int 0, .int 0, .ref m_sea, .ref m_center, .ref m_home, .ref m_borders, .int 0, .int mt, .ref m_owner, .ref m_units, .ref m_kind, .ref m_toX, .ref m_toY, .ref m_results, .ref m_known, .ref m_reached, .ref m_way, .ref m_aside, .ref m_origin, .ref m_retreats, .ref m_contested, .ref m_moved, .int msh, .ref m_past])), (m_sea, .inl (cZ, 12, .inl (upd f1 (0 : Int32).toNatClampNeg (vp_nar .boolean 0)))), (m_center, .inl (cZ, 12, .inl (upd f2 (0 : Int32).toNatClampNeg (vp_nar .boolean ce)))), (m_home, .inl (cI, 12, .inl (upd f3 (0 : Int32).toNatClampNeg h))), (m_owner, .inl (cI, 12, .inl (upd f4 (0 : Int32).toNatClampNeg h))), (m_units, .inl (cI, 12, .inl (upd f5 (0 : Int32).toNatClampNeg (-1)))), (m_aside, .inl (cI, 12, .inl f6))] := hD
                refine lv_aload_n hx hb d_Mo_area_129 rfl (lv_at hl 1 rfl) ?_
                refine va_get (D := D) (ci := 6) (v := .ref m_aside) (C := R_Mo) (T := T_Mo) (N := 24) hx hb hts hin_Mo hown hK hP 0 rfl rfl 17 (by decide) (hts _ wd_721) (fun _ h9 => h9) rfl d_Mo_area_130 ?_
                refine lv_iload hx hb d_Mo_area_133 (lv_at hl 0 rfl) ?_
                refine lv_iconst (v := (-1)) hx hb d_Mo_area_135 (by decide) ?_
                refine va_iast hx hb hK hP hD hS 6 0 rfl rfl (by unfold vp_in; decide) d_Mo_area_136 (fun H locs hP hD hS => ?_)
                have hP : va_P D vwCl [(g0, .inr (6, [.int 0, .int 0, .ref m_sea, .ref m_center, .ref m_home, .ref m_borders, .int 0, .int mt, .ref m_owner, .ref m_units, .ref m_kind, .ref m_toX, .ref m_toY, .ref m_results, .ref m_known, .ref m_reached, .ref m_way, .ref m_aside, .ref m_origin, .ref m_retreats, .ref m_contested, .ref m_moved, .int msh, .ref m_past])), (m_sea, .inl (cZ, 12, .inl (upd f1 (0 : Int32).toNatClampNeg (vp_nar .boolean 0)))), (m_center, .inl (cZ, 12, .inl (upd f2 (0 : Int32).toNatClampNeg (vp_nar .boolean ce)))), (m_home, .inl (cI, 12, .inl (upd f3 (0 : Int32).toNatClampNeg h))), (m_owner, .inl (cI, 12, .inl (upd f4 (0 : Int32).toNatClampNeg h))), (m_units, .inl (cI, 12, .inl (upd f5 (0 : Int32).toNatClampNeg (-1)))), (m_aside, .inl (cI, 12, .inl (upd f6 (0 : Int32).toNatClampNeg (-1))))] H := hP
                have hD : va_D A [(g0, .inr (6, [.int 0, .int 0, .ref m_sea, .ref m_center, .ref m_home, .ref m_borders, .int 0, .int mt, .ref m_owner, .ref m_units, .ref m_kind, .ref m_toX, .ref m_toY, .ref m_results, .ref m_known, .ref m_reached, .ref m_way, .ref m_aside, .ref m_origin, .ref m_retreats, .ref m_contested, .ref m_moved, .int msh, .ref m_past])), (m_sea, .inl (cZ, 12, .inl (upd f1 (0 : Int32).toNatClampNeg (vp_nar .boolean 0)))), (m_center, .inl (cZ, 12, .inl (upd f2 (0 : Int32).toNatClampNeg (vp_nar .boolean ce)))), (m_home, .inl (cI, 12, .inl (upd f3 (0 : Int32).toNatClampNeg h))), (m_owner, .inl (cI, 12, .inl (upd f4 (0 : Int32).toNatClampNeg h))), (m_units, .inl (cI, 12, .inl (upd f5 (0 : Int32).toNatClampNeg (-1)))), (m_aside, .inl (cI, 12, .inl (upd f6 (0 : Int32).toNatClampNeg (-1))))] := hD
                refine lv_aload_n hx hb d_Mo_area_137 rfl (lv_at hl 1 rfl) ?_
                refine lv_dup hx hb d_Mo_area_138 rfl ?_
                refine va_get (D := D) (ci := 6) (v := .int 0) (C := R_Mo) (T := T_Mo) (N := 24) hx hb hts hin_Mo hown hK hP 0 rfl rfl 1 (by decide) (hts _ wd_705) (fun _ h9 => h9) rfl d_Mo_area_139 ?_
                refine lv_iconst (v := 1) hx hb d_Mo_area_142 (by decide) ?_
                refine lv_iadd hx hb d_Mo_area_143 ?_
                refine lv_topi (fun z20 hz20 => ?_)
                rw [show z20 = 1 from hz20.trans (by decide)]
                refine va_put (D := D) (ci := 6) (v := .int 1) (ty := .int) (C := R_Mo) (T := T_Mo) (N := 24) hx hb hts hin_Mo ty_Mo tyok_Mo nm_Mo hown hK hP hD hS 0 rfl rfl 1 (by decide) (hts _ wd_705) (fun _ h9 => h9) rfl (by decide +kernel) rfl rfl (Nat.le_of_ble_eq_true rfl) d_Mo_area_144 (fun H locs hP hD hS => ?_)
                have hP : va_P D vwCl [(g0, .inr (6, [.int 0, .int 1, .ref m_sea, .ref m_center, .ref m_home, .ref m_borders, .int 0, .int mt, .ref m_owner, .ref m_units, .ref m_kind, .ref m_toX, .ref m_toY, .ref m_results, .ref m_known, .ref m_reached, .ref m_way, .ref m_aside, .ref m_origin, .ref m_retreats, .ref m_contested, .ref m_moved, .int msh, .ref m_past])), (m_sea, .inl (cZ, 12, .inl (upd f1 (0 : Int32).toNatClampNeg (vp_nar .boolean 0)))), (m_center, .inl (cZ, 12, .inl (upd f2 (0 : Int32).toNatClampNeg (vp_nar .boolean ce)))), (m_home, .inl (cI, 12, .inl (upd f3 (0 : Int32).toNatClampNeg h))), (m_owner, .inl (cI, 12, .inl (upd f4 (0 : Int32).toNatClampNeg h))), (m_units, .inl (cI, 12, .inl (upd f5 (0 : Int32).toNatClampNeg (-1)))), (m_aside, .inl (cI, 12, .inl (upd f6 (0 : Int32).toNatClampNeg (-1))))] H := hP
                have hD : va_D A [(g0, .inr (6, [.int 0, .int 1, .ref m_sea, .ref m_center, .ref m_home, .ref m_borders, .int 0, .int mt, .ref m_owner, .ref m_units, .ref m_kind, .ref m_toX, .ref m_toY, .ref m_results, .ref m_known, .ref m_reached, .ref m_way, .ref m_aside, .ref m_origin, .ref m_retreats, .ref m_contested, .ref m_moved, .int msh, .ref m_past])), (m_sea, .inl (cZ, 12, .inl (upd f1 (0 : Int32).toNatClampNeg (vp_nar .boolean 0)))), (m_center, .inl (cZ, 12, .inl (upd f2 (0 : Int32).toNatClampNeg (vp_nar .boolean ce)))), (m_home, .inl (cI, 12, .inl (upd f3 (0 : Int32).toNatClampNeg h))), (m_owner, .inl (cI, 12, .inl (upd f4 (0 : Int32).toNatClampNeg h))), (m_units, .inl (cI, 12, .inl (upd f5 (0 : Int32).toNatClampNeg (-1)))), (m_aside, .inl (cI, 12, .inl (upd f6 (0 : Int32).toNatClampNeg (-1))))] := hD
                refine lv_iload hx hb d_Mo_area_147 (lv_at hl 0 rfl) ?_
                have hP9 := hP.sub (ws' := [(g0, .inr (6, [.int 0, .int 1, .ref m_sea, .ref m_center, .ref m_home, .ref m_borders, .int 0, .int mt, .ref m_owner, .ref m_units, .ref m_kind, .ref m_toX, .ref m_toY, .ref m_results, .ref m_known, .ref m_reached, .ref m_way, .ref m_aside, .ref m_origin, .ref m_retreats, .ref m_contested, .ref m_moved, .int msh, .ref m_past]))]) [0] rfl
                have hD9 := hD.sub (ws' := [(g0, .inr (6, [.int 0, .int 1, .ref m_sea, .ref m_center, .ref m_home, .ref m_borders, .int 0, .int mt, .ref m_owner, .ref m_units, .ref m_kind, .ref m_toX, .ref m_toY, .ref m_results, .ref m_known, .ref m_reached, .ref m_way, .ref m_aside, .ref m_origin, .ref m_retreats, .ref m_contested, .ref m_moved, .int msh, .ref m_past]))]) [0] (by decide) rfl
                exact W.iret (v := 0) hx hb hr (fun t ht hW => ⟨⟨0, (), rfl, rfl, by rw [ht]; exact hP9, hD9⟩, hS.F ht⟩) hS.2.2 d_Mo_area_149
              · -- 30 not taken
                refine lv_iload_n hx hb d_Mo_area_33 rfl (lv_at hl 2 rfl) ?_
                refine lv_if_ne (tgt := 41) hx hb d_Mo_area_34 (by decide) (fun _ => ?_) (fun h0 => absurd h0 hc5)
                refine lv_aload_n hx hb d_Mo_area_41 rfl (lv_at hl 0 rfl) ?_
                refine va_get (D := D) (ci := 6) (v := .int 0) (C := R_Mo) (T := T_Mo) (N := 24) hx hb hts hin_Mo hown hK hP 0 rfl rfl 1 (by decide) (hts _ wd_705) (fun _ h9 => h9) rfl d_Mo_area_42 ?_
                refine lv_bipush (v := 12) hx hb d_Mo_area_45 (by decide) ?_
                refine lv_icmp_eq (tgt := 57) hx hb d_Mo_area_47 (by decide) (fun h0 => absurd h0 (by decide)) (fun _ => ?_)
                refine lv_aload_n hx hb d_Mo_area_50 rfl (lv_at hl 0 rfl) ?_
                refine va_get (D := D) (ci := 6) (v := .int 0) (C := R_Mo) (T := T_Mo) (N := 24) hx hb hts hin_Mo hown hK hP 0 rfl rfl 6 (by decide) (hts _ wd_710) (fun _ h9 => h9) rfl d_Mo_area_51 ?_
                refine lv_if_eq (tgt := 61) hx hb d_Mo_area_54 (by decide) (fun _ => ?_) (fun h0 => absurd (by decide) h0)
                refine lv_iconst (v := 0) hx hb d_Mo_area_61 (by decide) ?_
                refine va_put (D := D) (ci := 6) (v := .int 0) (ty := .int) (C := R_Mo) (T := T_Mo) (N := 24) hx hb hts hin_Mo ty_Mo tyok_Mo nm_Mo hown hK hP hD hS 0 rfl rfl 0 (by decide) (hts _ wd_704) (fun _ h9 => h9) rfl (by decide +kernel) rfl rfl (Nat.le_of_ble_eq_true rfl) d_Mo_area_62 (fun H locs hP hD hS => ?_)
                have hP : va_P D vwCl [(g0, .inr (6, [.int 0, .int 0, .ref m_sea, .ref m_center, .ref m_home, .ref m_borders, .int 0, .int mt, .ref m_owner, .ref m_units, .ref m_kind, .ref m_toX, .ref m_toY, .ref m_results, .ref m_known, .ref m_reached, .ref m_way, .ref m_aside, .ref m_origin, .ref m_retreats, .ref m_contested, .ref m_moved, .int msh, .ref m_past])), (m_sea, .inl (cZ, 12, .inl f1)), (m_center, .inl (cZ, 12, .inl f2)), (m_home, .inl (cI, 12, .inl f3)), (m_owner, .inl (cI, 12, .inl f4)), (m_units, .inl (cI, 12, .inl f5)), (m_aside, .inl (cI, 12, .inl f6))] H := hP
                have hD : va_D A [(g0, .inr (6, [.int 0, .int 0, .ref m_sea, .ref m_center, .ref m_home, .ref m_borders, .int 0, .int mt, .ref m_owner, .ref m_units, .ref m_kind, .ref m_toX, .ref m_toY, .ref m_results, .ref m_known, .ref m_reached, .ref m_way, .ref m_aside, .ref m_origin, .ref m_retreats, .ref m_contested, .ref m_moved, .int msh, .ref m_past])), (m_sea, .inl (cZ, 12, .inl f1)), (m_center, .inl (cZ, 12, .inl f2)), (m_home, .inl (cI, 12, .inl f3)), (m_owner, .inl (cI, 12, .inl f4)), (m_units, .inl (cI, 12, .inl f5)), (m_aside, .inl (cI, 12, .inl f6))] := hD
                refine lv_aload_n hx hb d_Mo_area_65 rfl (lv_at hl 0 rfl) ?_
                refine va_get (D := D) (ci := 6) (v := .int 0) (C := R_Mo) (T := T_Mo) (N := 24) hx hb hts hin_Mo hown hK hP 0 rfl rfl 0 (by decide) (hts _ wd_704) (fun _ h9 => h9) rfl d_Mo_area_66 ?_
                refine lv_if_eq (tgt := 74) hx hb d_Mo_area_69 (by decide) (fun _ => ?_) (fun h0 => absurd (by decide) h0)
                refine lv_aload_n hx hb d_Mo_area_74 rfl (lv_at hl 0 rfl) ?_
                refine va_get (D := D) (ci := 6) (v := .int 0) (C := R_Mo) (T := T_Mo) (N := 24) hx hb hts hin_Mo hown hK hP 0 rfl rfl 1 (by decide) (hts _ wd_705) (fun _ h9 => h9) rfl d_Mo_area_75 ?_
                refine lv_istore (lv' := [(4, .int 0), (0, .ref g0), (1, .int k), (2, .int ce), (3, .int h)]) hx hb d_Mo_area_78 hl (by decide) rfl (fun ls hl => ?_)
                refine lv_aload_n hx hb d_Mo_area_80 rfl (lv_at hl 1 rfl) ?_
                refine va_get (D := D) (ci := 6) (v := .ref m_sea) (C := R_Mo) (T := T_Mo) (N := 24) hx hb hts hin_Mo hown hK hP 0 rfl rfl 2 (by decide) (hts _ wd_706) (fun _ h9 => h9) rfl d_Mo_area_81 ?_
                refine lv_iload hx hb d_Mo_area_84 (lv_at hl 0 rfl) ?_
                refine lv_iload_n hx hb d_Mo_area_86 rfl (lv_at hl 2 rfl) ?_
                refine lv_iconst (v := 1) hx hb d_Mo_area_87 (by decide) ?_
                refine lv_icmp_ne (tgt := 95) hx hb d_Mo_area_88 (by decide) (fun _ => ?_) (fun h0 => absurd h0 hc14)
                refine lv_iconst (v := 0) hx hb d_Mo_area_95 (by decide) ?_
                refine va_zast hx hb hK hP hD hS 1 1 rfl rfl (by unfold vp_in; decide) d_Mo_area_96 (fun H locs hP hD hS => ?_)
                have hP : va_P D vwCl [(g0, .inr (6, [.int 0, .int 0, .ref m_sea, .ref m_center, .ref m_home, .ref m_borders, .int 0, .int mt, .ref m_owner, .ref m_units, .ref m_kind, .ref m_toX, .ref m_toY, .ref m_results, .ref m_known, .ref m_reached, .ref m_way, .ref m_aside, .ref m_origin, .ref m_retreats, .ref m_contested, .ref m_moved, .int msh, .ref m_past])), (m_sea, .inl (cZ, 12, .inl (upd f1 (0 : Int32).toNatClampNeg (vp_nar .boolean 0)))), (m_center, .inl (cZ, 12, .inl f2)), (m_home, .inl (cI, 12, .inl f3)), (m_owner, .inl (cI, 12, .inl f4)), (m_units, .inl (cI, 12, .inl f5)), (m_aside, .inl (cI, 12, .inl f6))] H := hP
                have hD : va_D A [(g0, .inr (6, [.int 0, .int 0, .ref m_sea, .ref m_center, .ref m_home, .ref m_borders, .int 0, .int mt, .ref m_owner, .ref m_units, .ref m_kind, .ref m_toX, .ref m_toY, .ref m_results, .ref m_known, .ref m_reached, .ref m_way, .ref m_aside, .ref m_origin, .ref m_retreats, .ref m_contested, .ref m_moved, .int msh, .ref m_past])), (m_sea, .inl (cZ, 12, .inl (upd f1 (0 : Int32).toNatClampNeg (vp_nar .boolean 0)))), (m_center, .inl (cZ, 12, .inl f2)), (m_home, .inl (cI, 12, .inl f3)), (m_owner, .inl (cI, 12, .inl f4)), (m_units, .inl (cI, 12, .inl f5)), (m_aside, .inl (cI, 12, .inl f6))] := hD
                refine lv_aload_n hx hb d_Mo_area_97 rfl (lv_at hl 1 rfl) ?_
                refine va_get (D := D) (ci := 6) (v := .ref m_center) (C := R_Mo) (T := T_Mo) (N := 24) hx hb hts hin_Mo hown hK hP 0 rfl rfl 3 (by decide) (hts _ wd_707) (fun _ h9 => h9) rfl d_Mo_area_98 ?_
                refine lv_iload hx hb d_Mo_area_101 (lv_at hl 0 rfl) ?_
                refine lv_iload_n hx hb d_Mo_area_103 rfl (lv_at hl 3 rfl) ?_
                refine va_zast hx hb hK hP hD hS 2 1 rfl rfl (by unfold vp_in; decide) d_Mo_area_104 (fun H locs hP hD hS => ?_)
                have hP : va_P D vwCl [(g0, .inr (6, [.int 0, .int 0, .ref m_sea, .ref m_center, .ref m_home, .ref m_borders, .int 0, .int mt, .ref m_owner, .ref m_units, .ref m_kind, .ref m_toX, .ref m_toY, .ref m_results, .ref m_known, .ref m_reached, .ref m_way, .ref m_aside, .ref m_origin, .ref m_retreats, .ref m_contested, .ref m_moved, .int msh, .ref m_past])), (m_sea, .inl (cZ, 12, .inl (upd f1 (0 : Int32).toNatClampNeg (vp_nar .boolean 0)))), (m_center, .inl (cZ, 12, .inl (upd f2 (0 : Int32).toNatClampNeg (vp_nar .boolean ce)))), (m_home, .inl (cI, 12, .inl f3)), (m_owner, .inl (cI, 12, .inl f4)), (m_units, .inl (cI, 12, .inl f5)), (m_aside, .inl (cI, 12, .inl f6))] H := hP
                have hD : va_D A [(g0, .inr (6, [.int 0, .int 0, .ref m_sea, .ref m_center, .ref m_home, .ref m_borders, .int 0, .int mt, .ref m_owner, .ref m_units, .ref m_kind, .ref m_toX, .ref m_toY, .ref m_results, .ref m_known, .ref m_reached, .ref m_way, .ref m_aside, .ref m_origin, .ref m_retreats, .ref m_contested, .ref m_moved, .int msh, .ref m_past])), (m_sea, .inl (cZ, 12, .inl (upd f1 (0 : Int32).toNatClampNeg (vp_nar .boolean 0)))), (m_center, .inl (cZ, 12, .inl (upd f2 (0 : Int32).toNatClampNeg (vp_nar .boolean ce)))), (m_home, .inl (cI, 12, .inl f3)), (m_owner, .inl (cI, 12, .inl f4)), (m_units, .inl (cI, 12, .inl f5)), (m_aside, .inl (cI, 12, .inl f6))] := hD
                refine lv_aload_n hx hb d_Mo_area_105 rfl (lv_at hl 1 rfl) ?_
                refine va_get (D := D) (ci := 6) (v := .ref m_home) (C := R_Mo) (T := T_Mo) (N := 24) hx hb hts hin_Mo hown hK hP 0 rfl rfl 4 (by decide) (hts _ wd_708) (fun _ h9 => h9) rfl d_Mo_area_106 ?_
                refine lv_iload hx hb d_Mo_area_109 (lv_at hl 0 rfl) ?_
                refine lv_iload_n hx hb d_Mo_area_111 rfl (lv_at hl 4 rfl) ?_
                refine va_iast hx hb hK hP hD hS 3 0 rfl rfl (by unfold vp_in; decide) d_Mo_area_112 (fun H locs hP hD hS => ?_)
                have hP : va_P D vwCl [(g0, .inr (6, [.int 0, .int 0, .ref m_sea, .ref m_center, .ref m_home, .ref m_borders, .int 0, .int mt, .ref m_owner, .ref m_units, .ref m_kind, .ref m_toX, .ref m_toY, .ref m_results, .ref m_known, .ref m_reached, .ref m_way, .ref m_aside, .ref m_origin, .ref m_retreats, .ref m_contested, .ref m_moved, .int msh, .ref m_past])), (m_sea, .inl (cZ, 12, .inl (upd f1 (0 : Int32).toNatClampNeg (vp_nar .boolean 0)))), (m_center, .inl (cZ, 12, .inl (upd f2 (0 : Int32).toNatClampNeg (vp_nar .boolean ce)))), (m_home, .inl (cI, 12, .inl (upd f3 (0 : Int32).toNatClampNeg h))), (m_owner, .inl (cI, 12, .inl f4)), (m_units, .inl (cI, 12, .inl f5)), (m_aside, .inl (cI, 12, .inl f6))] H := hP
                have hD : va_D A [(g0, .inr (6, [.int 0, .int 0, .ref m_sea, .ref m_center, .ref m_home, .ref m_borders, .int 0, .int mt, .ref m_owner, .ref m_units, .ref m_kind, .ref m_toX, .ref m_toY, .ref m_results, .ref m_known, .ref m_reached, .ref m_way, .ref m_aside, .ref m_origin, .ref m_retreats, .ref m_contested, .ref m_moved, .int msh, .ref m_past])), (m_sea, .inl (cZ, 12, .inl (upd f1 (0 : Int32).toNatClampNeg (vp_nar .boolean 0)))), (m_center, .inl (cZ, 12, .inl (upd f2 (0 : Int32).toNatClampNeg (vp_nar .boolean ce)))), (m_home, .inl (cI, 12, .inl (upd f3 (0 : Int32).toNatClampNeg h))), (m_owner, .inl (cI, 12, .inl f4)), (m_units, .inl (cI, 12, .inl f5)), (m_aside, .inl (cI, 12, .inl f6))] := hD
                refine lv_aload_n hx hb d_Mo_area_113 rfl (lv_at hl 1 rfl) ?_
                refine va_get (D := D) (ci := 6) (v := .ref m_owner) (C := R_Mo) (T := T_Mo) (N := 24) hx hb hts hin_Mo hown hK hP 0 rfl rfl 8 (by decide) (hts _ wd_712) (fun _ h9 => h9) rfl d_Mo_area_114 ?_
                refine lv_iload hx hb d_Mo_area_117 (lv_at hl 0 rfl) ?_
                refine lv_iload_n hx hb d_Mo_area_119 rfl (lv_at hl 4 rfl) ?_
                refine va_iast hx hb hK hP hD hS 4 0 rfl rfl (by unfold vp_in; decide) d_Mo_area_120 (fun H locs hP hD hS => ?_)
                have hP : va_P D vwCl [(g0, .inr (6, [.int 0, .int 0, .ref m_sea, .ref m_center, .ref m_home, .ref m_borders, .int 0, .int mt, .ref m_owner, .ref m_units, .ref m_kind, .ref m_toX, .ref m_toY, .ref m_results, .ref m_known, .ref m_reached, .ref m_way, .ref m_aside, .ref m_origin, .ref m_retreats, .ref m_contested, .ref m_moved, .int msh, .ref m_past])), (m_sea, .inl (cZ, 12, .inl (upd f1 (0 : Int32).toNatClampNeg (vp_nar .boolean 0)))), (m_center, .inl (cZ, 12, .inl (upd f2 (0 : Int32).toNatClampNeg (vp_nar .boolean ce)))), (m_home, .inl (cI, 12, .inl (upd f3 (0 : Int32).toNatClampNeg h))), (m_owner, .inl (cI, 12, .inl (upd f4 (0 : Int32).toNatClampNeg h))), (m_units, .inl (cI, 12, .inl f5)), (m_aside, .inl (cI, 12, .inl f6))] H := hP
                have hD : va_D A [(g0, .inr (6, [.int 0, .int 0, .ref m_sea, .ref m_center, .ref m_home, .ref m_borders, .int 0, .int mt, .ref m_owner, .ref m_units, .ref m_kind, .ref m_toX, .ref m_toY, .ref m_results, .ref m_known, .ref m_reached, .ref m_way, .ref m_aside, .ref m_origin, .ref m_retreats, .ref m_contested, .ref m_moved, .int msh, .ref m_past])), (m_sea, .inl (cZ, 12, .inl (upd f1 (0 : Int32).toNatClampNeg (vp_nar .boolean 0)))), (m_center, .inl (cZ, 12, .inl (upd f2 (0 : Int32).toNatClampNeg (vp_nar .boolean ce)))), (m_home, .inl (cI, 12, .inl (upd f3 (0 : Int32).toNatClampNeg h))), (m_owner, .inl (cI, 12, .inl (upd f4 (0 : Int32).toNatClampNeg h))), (m_units, .inl (cI, 12, .inl f5)), (m_aside, .inl (cI, 12, .inl f6))] := hD
                refine lv_aload_n hx hb d_Mo_area_121 rfl (lv_at hl 1 rfl) ?_
                refine va_get (D := D) (ci := 6) (v := .ref m_units) (C := R_Mo) (T := T_Mo) (N := 24) hx hb hts hin_Mo hown hK hP 0 rfl rfl 9 (by decide) (hts _ wd_713) (fun _ h9 => h9) rfl d_Mo_area_122 ?_
                refine lv_iload hx hb d_Mo_area_125 (lv_at hl 0 rfl) ?_
                refine lv_iconst (v := (-1)) hx hb d_Mo_area_127 (by decide) ?_
                refine va_iast hx hb hK hP hD hS 5 0 rfl rfl (by unfold vp_in; decide) d_Mo_area_128 (fun H locs hP hD hS => ?_)
                have hP : va_P D vwCl [(g0, .inr (6, [.int 0, .int 0, .ref m_sea, .ref m_center, .ref m_home, .ref m_borders, .int 0, .int mt, .ref m_owner, .ref m_units, .ref m_kind, .ref m_toX, .ref m_toY, .ref m_results, .ref m_known, .ref m_reached, .ref m_way, .ref m_aside, .ref m_origin, .ref m_retreats, .ref m_contested, .ref m_moved, .int msh, .ref m_past])), (m_sea, .inl (cZ, 12, .inl (upd f1 (0 : Int32).toNatClampNeg (vp_nar .boolean 0)))), (m_center, .inl (cZ, 12, .inl (upd f2 (0 : Int32).toNatClampNeg (vp_nar .boolean ce)))), (m_home, .inl (cI, 12, .inl (upd f3 (0 : Int32).toNatClampNeg h))), (m_owner, .inl (cI, 12, .inl (upd f4 (0 : Int32).toNatClampNeg h))), (m_units, .inl (cI, 12, .inl (upd f5 (0 : Int32).toNatClampNeg (-1)))), (m_aside, .inl (cI, 12, .inl f6))] H := hP
                have hD : va_D A [(g0, .inr (6, [.int 0, .int 0, .ref m_sea, .ref m_center, .ref m_home, .ref m_borders, .int 0, .int mt, .ref m_owner, .ref m_units, .ref m_kind, .ref m_toX, .ref m_toY, .ref m_results, .ref m_known, .ref m_reached, .ref m_way, .ref m_aside, .ref m_origin, .ref m_retreats, .ref m_contested, .ref m_moved, .int msh, .ref m_past])), (m_sea, .inl (cZ, 12, .inl (upd f1 (0 : Int32).toNatClampNeg (vp_nar .boolean 0)))), (m_center, .inl (cZ, 12, .inl (upd f2 (0 : Int32).toNatClampNeg (vp_nar .boolean ce)))), (m_home, .inl (cI, 12, .inl (upd f3 (0 : Int32).toNatClampNeg h))), (m_owner, .inl (cI, 12, .inl (upd f4 (0 : Int32).toNatClampNeg h))), (m_units, .inl (cI, 12, .inl (upd f5 (0 : Int32).toNatClampNeg (-1)))), (m_aside, .inl (cI, 12, .inl f6))] := hD
                refine lv_aload_n hx hb d_Mo_area_129 rfl (lv_at hl 1 rfl) ?_
                refine va_get (D := D) (ci := 6) (v := .ref m_aside) (C := R_Mo) (T := T_Mo) (N := 24) hx hb hts hin_Mo hown hK hP 0 rfl rfl 17 (by decide) (hts _ wd_721) (fun _ h9 => h9) rfl d_Mo_area_130 ?_
                refine lv_iload hx hb d_Mo_area_133 (lv_at hl 0 rfl) ?_
                refine lv_iconst (v := (-1)) hx hb d_Mo_area_135 (by decide) ?_
                refine va_iast hx hb hK hP hD hS 6 0 rfl rfl (by unfold vp_in; decide) d_Mo_area_136 (fun H locs hP hD hS => ?_)
                have hP : va_P D vwCl [(g0, .inr (6, [.int 0, .int 0, .ref m_sea, .ref m_center, .ref m_home, .ref m_borders, .int 0, .int mt, .ref m_owner, .ref m_units, .ref m_kind, .ref m_toX, .ref m_toY, .ref m_results, .ref m_known, .ref m_reached, .ref m_way, .ref m_aside, .ref m_origin, .ref m_retreats, .ref m_contested, .ref m_moved, .int msh, .ref m_past])), (m_sea, .inl (cZ, 12, .inl (upd f1 (0 : Int32).toNatClampNeg (vp_nar .boolean 0)))), (m_center, .inl (cZ, 12, .inl (upd f2 (0 : Int32).toNatClampNeg (vp_nar .boolean ce)))), (m_home, .inl (cI, 12, .inl (upd f3 (0 : Int32).toNatClampNeg h))), (m_owner, .inl (cI, 12, .inl (upd f4 (0 : Int32).toNatClampNeg h))), (m_units, .inl (cI, 12, .inl (upd f5 (0 : Int32).toNatClampNeg (-1)))), (m_aside, .inl (cI, 12, .inl (upd f6 (0 : Int32).toNatClampNeg (-1))))] H := hP
                have hD : va_D A [(g0, .inr (6, [.int 0, .int 0, .ref m_sea, .ref m_center, .ref m_home, .ref m_borders, .int 0, .int mt, .ref m_owner, .ref m_units, .ref m_kind, .ref m_toX, .ref m_toY, .ref m_results, .ref m_known, .ref m_reached, .ref m_way, .ref m_aside, .ref m_origin, .ref m_retreats, .ref m_contested, .ref m_moved, .int msh, .ref m_past])), (m_sea, .inl (cZ, 12, .inl (upd f1 (0 : Int32).toNatClampNeg (vp_nar .boolean 0)))), (m_center, .inl (cZ, 12, .inl (upd f2 (0 : Int32).toNatClampNeg (vp_nar .boolean ce)))), (m_home, .inl (cI, 12, .inl (upd f3 (0 : Int32).toNatClampNeg h))), (m_owner, .inl (cI, 12, .inl (upd f4 (0 : Int32).toNatClampNeg h))), (m_units, .inl (cI, 12, .inl (upd f5 (0 : Int32).toNatClampNeg (-1)))), (m_aside, .inl (cI, 12, .inl (upd f6 (0 : Int32).toNatClampNeg (-1))))] := hD
                refine lv_aload_n hx hb d_Mo_area_137 rfl (lv_at hl 1 rfl) ?_
                refine lv_dup hx hb d_Mo_area_138 rfl ?_
                refine va_get (D := D) (ci := 6) (v := .int 0) (C := R_Mo) (T := T_Mo) (N := 24) hx hb hts hin_Mo hown hK hP 0 rfl rfl 1 (by decide) (hts _ wd_705) (fun _ h9 => h9) rfl d_Mo_area_139 ?_
                refine lv_iconst (v := 1) hx hb d_Mo_area_142 (by decide) ?_
                refine lv_iadd hx hb d_Mo_area_143 ?_
                refine lv_topi (fun z26 hz26 => ?_)
                rw [show z26 = 1 from hz26.trans (by decide)]
                refine va_put (D := D) (ci := 6) (v := .int 1) (ty := .int) (C := R_Mo) (T := T_Mo) (N := 24) hx hb hts hin_Mo ty_Mo tyok_Mo nm_Mo hown hK hP hD hS 0 rfl rfl 1 (by decide) (hts _ wd_705) (fun _ h9 => h9) rfl (by decide +kernel) rfl rfl (Nat.le_of_ble_eq_true rfl) d_Mo_area_144 (fun H locs hP hD hS => ?_)
                have hP : va_P D vwCl [(g0, .inr (6, [.int 0, .int 1, .ref m_sea, .ref m_center, .ref m_home, .ref m_borders, .int 0, .int mt, .ref m_owner, .ref m_units, .ref m_kind, .ref m_toX, .ref m_toY, .ref m_results, .ref m_known, .ref m_reached, .ref m_way, .ref m_aside, .ref m_origin, .ref m_retreats, .ref m_contested, .ref m_moved, .int msh, .ref m_past])), (m_sea, .inl (cZ, 12, .inl (upd f1 (0 : Int32).toNatClampNeg (vp_nar .boolean 0)))), (m_center, .inl (cZ, 12, .inl (upd f2 (0 : Int32).toNatClampNeg (vp_nar .boolean ce)))), (m_home, .inl (cI, 12, .inl (upd f3 (0 : Int32).toNatClampNeg h))), (m_owner, .inl (cI, 12, .inl (upd f4 (0 : Int32).toNatClampNeg h))), (m_units, .inl (cI, 12, .inl (upd f5 (0 : Int32).toNatClampNeg (-1)))), (m_aside, .inl (cI, 12, .inl (upd f6 (0 : Int32).toNatClampNeg (-1))))] H := hP
                have hD : va_D A [(g0, .inr (6, [.int 0, .int 1, .ref m_sea, .ref m_center, .ref m_home, .ref m_borders, .int 0, .int mt, .ref m_owner, .ref m_units, .ref m_kind, .ref m_toX, .ref m_toY, .ref m_results, .ref m_known, .ref m_reached, .ref m_way, .ref m_aside, .ref m_origin, .ref m_retreats, .ref m_contested, .ref m_moved, .int msh, .ref m_past])), (m_sea, .inl (cZ, 12, .inl (upd f1 (0 : Int32).toNatClampNeg (vp_nar .boolean 0)))), (m_center, .inl (cZ, 12, .inl (upd f2 (0 : Int32).toNatClampNeg (vp_nar .boolean ce)))), (m_home, .inl (cI, 12, .inl (upd f3 (0 : Int32).toNatClampNeg h))), (m_owner, .inl (cI, 12, .inl (upd f4 (0 : Int32).toNatClampNeg h))), (m_units, .inl (cI, 12, .inl (upd f5 (0 : Int32).toNatClampNeg (-1)))), (m_aside, .inl (cI, 12, .inl (upd f6 (0 : Int32).toNatClampNeg (-1))))] := hD
                refine lv_iload hx hb d_Mo_area_147 (lv_at hl 0 rfl) ?_
                have hP9 := hP.sub (ws' := [(g0, .inr (6, [.int 0, .int 1, .ref m_sea, .ref m_center, .ref m_home, .ref m_borders, .int 0, .int mt, .ref m_owner, .ref m_units, .ref m_kind, .ref m_toX, .ref m_toY, .ref m_results, .ref m_known, .ref m_reached, .ref m_way, .ref m_aside, .ref m_origin, .ref m_retreats, .ref m_contested, .ref m_moved, .int msh, .ref m_past]))]) [0] rfl
                have hD9 := hD.sub (ws' := [(g0, .inr (6, [.int 0, .int 1, .ref m_sea, .ref m_center, .ref m_home, .ref m_borders, .int 0, .int mt, .ref m_owner, .ref m_units, .ref m_kind, .ref m_toX, .ref m_toY, .ref m_results, .ref m_known, .ref m_reached, .ref m_way, .ref m_aside, .ref m_origin, .ref m_retreats, .ref m_contested, .ref m_moved, .int msh, .ref m_past]))]) [0] (by decide) rfl
                exact W.iret (v := 0) hx hb hr (fun t ht hW => ⟨⟨0, (), rfl, rfl, by rw [ht]; exact hP9, hD9⟩, hS.F ht⟩) hS.2.2 d_Mo_area_149

theorem d_Mo_border_0 : decode b_Mo_border 0 = .ok (.aload_n 0, 1) := by decide +kernel
theorem d_Mo_border_1 : decode b_Mo_border 1 = .ok (.aload_n 0, 1) := by decide +kernel
theorem d_Mo_border_2 : decode b_Mo_border 2 = .ok (.iload_n 1, 1) := by decide +kernel
theorem d_Mo_border_3 : decode b_Mo_border 3 = .ok (.invokevirtual 78, 3) := by decide +kernel
theorem d_Mo_border_6 : decode b_Mo_border 6 = .ok (.ifCond .eq 16, 3) := by decide +kernel
theorem d_Mo_border_9 : decode b_Mo_border 9 = .ok (.aload_n 0, 1) := by decide +kernel
theorem d_Mo_border_10 : decode b_Mo_border 10 = .ok (.iload_n 2, 1) := by decide +kernel
theorem d_Mo_border_11 : decode b_Mo_border 11 = .ok (.invokevirtual 78, 3) := by decide +kernel
theorem d_Mo_border_14 : decode b_Mo_border 14 = .ok (.ifCond .eq 8, 3) := by decide +kernel
theorem d_Mo_border_17 : decode b_Mo_border 17 = .ok (.iload_n 1, 1) := by decide +kernel
theorem d_Mo_border_18 : decode b_Mo_border 18 = .ok (.iload_n 2, 1) := by decide +kernel
theorem d_Mo_border_19 : decode b_Mo_border 19 = .ok (.if_icmp .ne 7, 3) := by decide +kernel
theorem d_Mo_border_22 : decode b_Mo_border 22 = .ok (.iconst 1, 1) := by decide +kernel
theorem d_Mo_border_23 : decode b_Mo_border 23 = .ok (.goto 15, 3) := by decide +kernel
theorem d_Mo_border_26 : decode b_Mo_border 26 = .ok (.aload_n 0, 1) := by decide +kernel
theorem d_Mo_border_27 : decode b_Mo_border 27 = .ok (.getfield 75, 3) := by decide +kernel
theorem d_Mo_border_30 : decode b_Mo_border 30 = .ok (.ifCond .eq 7, 3) := by decide +kernel
theorem d_Mo_border_33 : decode b_Mo_border 33 = .ok (.iconst 2, 1) := by decide +kernel
theorem d_Mo_border_34 : decode b_Mo_border 34 = .ok (.goto 4, 3) := by decide +kernel
theorem d_Mo_border_37 : decode b_Mo_border 37 = .ok (.iconst 0, 1) := by decide +kernel
theorem d_Mo_border_38 : decode b_Mo_border 38 = .ok (.putfield 68, 3) := by decide +kernel
theorem d_Mo_border_41 : decode b_Mo_border 41 = .ok (.aload_n 0, 1) := by decide +kernel
theorem d_Mo_border_42 : decode b_Mo_border 42 = .ok (.getfield 68, 3) := by decide +kernel
theorem d_Mo_border_45 : decode b_Mo_border 45 = .ok (.ifCond .ne 12, 3) := by decide +kernel
theorem d_Mo_border_48 : decode b_Mo_border 48 = .ok (.aload_n 0, 1) := by decide +kernel
theorem d_Mo_border_49 : decode b_Mo_border 49 = .ok (.iload_n 1, 1) := by decide +kernel
theorem d_Mo_border_50 : decode b_Mo_border 50 = .ok (.iload_n 2, 1) := by decide +kernel
theorem d_Mo_border_51 : decode b_Mo_border 51 = .ok (.invokevirtual 82, 3) := by decide +kernel
theorem d_Mo_border_54 : decode b_Mo_border 54 = .ok (.ifCond .eq 5, 3) := by decide +kernel
theorem d_Mo_border_57 : decode b_Mo_border 57 = .ok (.iconst 0, 1) := by decide +kernel
theorem d_Mo_border_58 : decode b_Mo_border 58 = .ok (.ireturn, 1) := by decide +kernel
theorem d_Mo_border_59 : decode b_Mo_border 59 = .ok (.aload_n 0, 1) := by decide +kernel
theorem d_Mo_border_60 : decode b_Mo_border 60 = .ok (.getfield 20, 3) := by decide +kernel
theorem d_Mo_border_63 : decode b_Mo_border 63 = .ok (.bipush 12, 2) := by decide +kernel
theorem d_Mo_border_65 : decode b_Mo_border 65 = .ok (.iload_n 1, 1) := by decide +kernel
theorem d_Mo_border_66 : decode b_Mo_border 66 = .ok (.imul, 1) := by decide +kernel
theorem d_Mo_border_67 : decode b_Mo_border 67 = .ok (.iload_n 2, 1) := by decide +kernel
theorem d_Mo_border_68 : decode b_Mo_border 68 = .ok (.iadd, 1) := by decide +kernel
theorem d_Mo_border_69 : decode b_Mo_border 69 = .ok (.iconst 1, 1) := by decide +kernel
theorem d_Mo_border_70 : decode b_Mo_border 70 = .ok (.bastore, 1) := by decide +kernel
theorem d_Mo_border_71 : decode b_Mo_border 71 = .ok (.aload_n 0, 1) := by decide +kernel
theorem d_Mo_border_72 : decode b_Mo_border 72 = .ok (.getfield 20, 3) := by decide +kernel
theorem d_Mo_border_75 : decode b_Mo_border 75 = .ok (.bipush 12, 2) := by decide +kernel
theorem d_Mo_border_77 : decode b_Mo_border 77 = .ok (.iload_n 2, 1) := by decide +kernel
theorem d_Mo_border_78 : decode b_Mo_border 78 = .ok (.imul, 1) := by decide +kernel
theorem d_Mo_border_79 : decode b_Mo_border 79 = .ok (.iload_n 1, 1) := by decide +kernel
theorem d_Mo_border_80 : decode b_Mo_border 80 = .ok (.iadd, 1) := by decide +kernel
theorem d_Mo_border_81 : decode b_Mo_border 81 = .ok (.iconst 1, 1) := by decide +kernel
theorem d_Mo_border_82 : decode b_Mo_border 82 = .ok (.bastore, 1) := by decide +kernel
theorem d_Mo_border_83 : decode b_Mo_border 83 = .ok (.iconst 1, 1) := by decide +kernel
theorem d_Mo_border_84 : decode b_Mo_border 84 = .ok (.ireturn, 1) := by decide +kernel
theorem wd_793 : (Cond.code ({ cls := "SheetWarModel", name := "isArea", desc := "(I)Z" } : MethodName) prog_8_method_3_code (2 : Nat) (Option.some FieldType.boolean)) ∈ TB := tb_t 793 (by decide +kernel) (by decide +kernel)
theorem wd_790 : (Cond.methodLink "SheetWarModel" (78 : Nat) ({ cls := "SheetWarModel", name := "isArea", desc := "(I)Z" } : MethodName)) ∈ TB := tb_t 790 (by decide +kernel) (by decide +kernel)
theorem wd_792 : (Cond.instanceMethod ({ cls := "SheetWarModel", name := "isArea", desc := "(I)Z" } : MethodName)) ∈ TB := tb_t 792 (by decide +kernel) (by decide +kernel)
theorem wd_8 : (Cond.initialized "SheetWarModel") ∈ TB := tb_t 8 (by decide +kernel) (by decide +kernel)
theorem wp_36 : Cond.selects "SheetWarModel" ⟨"SheetWarModel", "isArea", "(I)Z"⟩ ⟨"SheetWarModel", "isArea", "(I)Z"⟩ ∈ TB := tb_p 36 (by decide +kernel) (by decide +kernel)
set_option maxHeartbeats 4000000 in
set_option maxRecDepth 100000 in
theorem c_Mo_border_1 (l : Launch) (D : va_G) (cI cZ cJ cS : ClassId) (aT : Nat) (ceT : Cell) (sz : Nat) (g0 m_sea m_center m_home m_borders m_owner m_units m_kind m_toX m_toY m_results m_known m_reached m_way m_aside m_origin m_retreats m_contested m_moved m_past : Nat) (co ar mp mt msh : Int32) (a b : Int32) (hno9 : ¬ ((0 ≤ a ∧ a < ar) ∧ (0 ≤ b ∧ b < ar) ∧ ¬ a = b)) : Met l y_Mo_border w_Mo_border ({ frames := 1, cells := 0, slots := 0, locals := 21 }) (tH D cI cZ cJ cS aT ceT [.ref g0, .int a, .int b] sz [(g0, .inr (6, [.int co, .int ar, .ref m_sea, .ref m_center, .ref m_home, .ref m_borders, .int mp, .int mt, .ref m_owner, .ref m_units, .ref m_kind, .ref m_toX, .ref m_toY, .ref m_results, .ref m_known, .ref m_reached, .ref m_way, .ref m_aside, .ref m_origin, .ref m_retreats, .ref m_contested, .ref m_moved, .int msh, .ref m_past]))]) (va_Qi (fun (r : Int32) (_ : Unit) => r = 0) (fun _ t => tB D (va_A [(g0, .inr (6, [.int co, .int ar, .ref m_sea, .ref m_center, .ref m_home, .ref m_borders, .int mp, .int mt, .ref m_owner, .ref m_units, .ref m_kind, .ref m_toX, .ref m_toY, .ref m_results, .ref m_known, .ref m_reached, .ref m_way, .ref m_aside, .ref m_origin, .ref m_retreats, .ref m_contested, .ref m_moved, .int msh, .ref m_past]))] sz) [(g0, .inr (6, [.int 1, .int ar, .ref m_sea, .ref m_center, .ref m_home, .ref m_borders, .int mp, .int mt, .ref m_owner, .ref m_units, .ref m_kind, .ref m_toX, .ref m_toY, .ref m_results, .ref m_known, .ref m_reached, .ref m_way, .ref m_aside, .ref m_origin, .ref m_retreats, .ref m_contested, .ref m_moved, .int msh, .ref m_past]))] t) (va_A [(g0, .inr (6, [.int co, .int ar, .ref m_sea, .ref m_center, .ref m_home, .ref m_borders, .int mp, .int mt, .ref m_owner, .ref m_units, .ref m_kind, .ref m_toX, .ref m_toY, .ref m_results, .ref m_known, .ref m_reached, .ref m_way, .ref m_aside, .ref m_origin, .ref m_retreats, .ref m_contested, .ref m_moved, .int msh, .ref m_past]))] sz)) 0 0 (va_A [(g0, .inr (6, [.int co, .int ar, .ref m_sea, .ref m_center, .ref m_home, .ref m_borders, .int mp, .int mt, .ref m_owner, .ref m_units, .ref m_kind, .ref m_toX, .ref m_toY, .ref m_results, .ref m_known, .ref m_reached, .ref m_way, .ref m_aside, .ref m_origin, .ref m_retreats, .ref m_contested, .ref m_moved, .int msh, .ref m_past]))] sz) := by
  refine Met.ofW (cc := b_Mo_border) (maxL := 3) (ret := (some .boolean)) (by decide) rfl ?_
  intro p e s m args below meth c s₁ B hml hv
  obtain ⟨rfl, hsz, hP, hK, hD0, hX⟩ := hv
  have hx := B.exec
  have hb := B.bytes
  have hr := B.returns
  have hts0 := atoms_spec (ws := w_Mo_border) B.pre
  have hts : ∀ w ∈ TB, w.before _ s = true := fun w h => hts0 w (List.mem_cons_of_mem _ h)
  have hown : s.vm.findClass R_Mo = some m.cls := findClass_of_methodNamed B.named
  have hlocks := B.notSynchronized
  subst hsz
  have hXl := tx_lt hX
  have hXn := tx_far hP hX
  have hD := hD0.self (sz := s.heap.size)
  generalize hAe : va_A [(g0, .inr (6, [.int co, .int ar, .ref m_sea, .ref m_center, .ref m_home, .ref m_borders, .int mp, .int mt, .ref m_owner, .ref m_units, .ref m_kind, .ref m_toX, .ref m_toY, .ref m_results, .ref m_known, .ref m_reached, .ref m_way, .ref m_aside, .ref m_origin, .ref m_retreats, .ref m_contested, .ref m_moved, .int msh, .ref m_past]))] s.heap.size = A at hD hXn ⊢
  have hA : ∀ q : Nat, s.heap.size ≤ q → A q := fun q h => by rw [← hAe]; exact Or.inr h
  have hS : va_S A s.heap s.heap [] := va_S.rf
  have hXH : s.heap[aT]? = s.heap[aT]? := rfl
  have hl := lv_entry ([.ref g0, .int a, .int b]) (n := 3) (Nat.le_of_ble_eq_true rfl)
  rw [lg_entry_eq]
  generalize (lg_sl ([.ref g0, .int a, .int b]) ++ List.replicate (3 - (lg_sl ([.ref g0, .int a, .int b])).length) Slot.unset).toArray = ls at hl ⊢
  have hl : lv_has ls 3 [(0, .ref g0), (1, .int a), (2, .int b)] := hl
  refine lv_aload_n hx hb d_Mo_border_0 rfl (lv_at hl 0 rfl) ?_
  refine lv_aload_n hx hb d_Mo_border_1 rfl (lv_at hl 0 rfl) ?_
  refine lv_iload_n hx hb d_Mo_border_2 rfl (lv_at hl 1 rfl) ?_
  have hPc := hP.sub (ws' := [(g0, .inr (6, [.int co, .int ar, .ref m_sea, .ref m_center, .ref m_home, .ref m_borders, .int mp, .int mt, .ref m_owner, .ref m_units, .ref m_kind, .ref m_toX, .ref m_toY, .ref m_results, .ref m_known, .ref m_reached, .ref m_way, .ref m_aside, .ref m_origin, .ref m_retreats, .ref m_contested, .ref m_moved, .int msh, .ref m_past]))]) [0] rfl
  refine vp_callSi (va_Run.run (va_runV (As := [.int a]) (rest := [.ref g0]) ⟨hx, hb, hml, hown, hts⟩ (c_Mo_isArea l D cI cZ cJ cS aT ceT  g0 m_sea m_center m_home m_borders m_owner m_units m_kind m_toX m_toY m_results m_known m_reached m_way m_aside m_origin m_retreats m_contested m_moved m_past co ar mp mt msh a ) (cwV 1 hts (tb_4 wd_790 wd_792 wp_36 wd_8 (tb_c wd_793)) rfl rfl rfl ⟨rfl, by decide, by decide, by decide +kernel⟩ ⟨Nat.le_of_ble_eq_true rfl, Nat.le_of_ble_eq_true rfl⟩) (tP_V hK hX (hS.2.1 aT hXl hXn) hPc (q := 0) rfl rfl) rfl rfl hl.1 rfl (lv_room (Nat.le_of_ble_eq_true rfl)) d_Mo_border_3 ⟨Nat.le_of_ble_eq_true rfl, Nat.le_of_ble_eq_true rfl⟩)) (fun r1 hr9 => ?_)
  rcases hr9 with ⟨rfl, hq2⟩ | ⟨rfl, hq2⟩
  · -- 3: true
    refine lv_if_eq (tgt := 22) hx hb d_Mo_border_6 (by decide) (fun h0 => absurd h0 (by decide)) (fun _ => ?_)
    refine lv_aload_n hx hb d_Mo_border_9 rfl (lv_at hl 0 rfl) ?_
    refine lv_iload_n hx hb d_Mo_border_10 rfl (lv_at hl 2 rfl) ?_
    have hPc := hP.sub (ws' := [(g0, .inr (6, [.int co, .int ar, .ref m_sea, .ref m_center, .ref m_home, .ref m_borders, .int mp, .int mt, .ref m_owner, .ref m_units, .ref m_kind, .ref m_toX, .ref m_toY, .ref m_results, .ref m_known, .ref m_reached, .ref m_way, .ref m_aside, .ref m_origin, .ref m_retreats, .ref m_contested, .ref m_moved, .int msh, .ref m_past]))]) [0] rfl
    refine vp_callSi (va_Run.run (va_runV (As := [.int b]) (rest := [.ref g0]) ⟨hx, hb, hml, hown, hts⟩ (c_Mo_isArea l D cI cZ cJ cS aT ceT  g0 m_sea m_center m_home m_borders m_owner m_units m_kind m_toX m_toY m_results m_known m_reached m_way m_aside m_origin m_retreats m_contested m_moved m_past co ar mp mt msh b ) (cwV 1 hts (tb_4 wd_790 wd_792 wp_36 wd_8 (tb_c wd_793)) rfl rfl rfl ⟨rfl, by decide, by decide, by decide +kernel⟩ ⟨Nat.le_of_ble_eq_true rfl, Nat.le_of_ble_eq_true rfl⟩) (tP_V hK hX (hS.2.1 aT hXl hXn) hPc (q := 0) rfl rfl) rfl rfl hl.1 rfl (lv_room (Nat.le_of_ble_eq_true rfl)) d_Mo_border_11 ⟨Nat.le_of_ble_eq_true rfl, Nat.le_of_ble_eq_true rfl⟩)) (fun r4 hr9 => ?_)
    rcases hr9 with ⟨rfl, hq5⟩ | ⟨rfl, hq5⟩
    · -- 11: true
      refine lv_if_eq (tgt := 22) hx hb d_Mo_border_14 (by decide) (fun h0 => absurd h0 (by decide)) (fun _ => ?_)
      refine lv_iload_n hx hb d_Mo_border_17 rfl (lv_at hl 1 rfl) ?_
      refine lv_iload_n hx hb d_Mo_border_18 rfl (lv_at hl 2 rfl) ?_
      refine lv_icmp_ne (tgt := 26) hx hb d_Mo_border_19 (by decide) (fun hc7 => ?_) (fun hc7 => ?_)
      · -- 19 taken
        exact absurd ⟨hq2, hq5, hc7⟩ hno9
      · -- 19 not taken
        refine lv_iconst (v := 1) hx hb d_Mo_border_22 (by decide) ?_
        refine lv_goto (tgt := 38) hx hb d_Mo_border_23 (by decide) ?_
        refine va_put (D := D) (ci := 6) (v := .int 1) (ty := .int) (C := R_Mo) (T := T_Mo) (N := 24) hx hb hts hin_Mo ty_Mo tyok_Mo nm_Mo hown hK hP hD hS 0 rfl rfl 0 (by decide) (hts _ wd_704) (fun _ h9 => h9) rfl (by decide +kernel) rfl rfl (Nat.le_of_ble_eq_true rfl) d_Mo_border_38 (fun H locs hP hD hS => ?_)
        have hP : va_P D vwCl [(g0, .inr (6, [.int 1, .int ar, .ref m_sea, .ref m_center, .ref m_home, .ref m_borders, .int mp, .int mt, .ref m_owner, .ref m_units, .ref m_kind, .ref m_toX, .ref m_toY, .ref m_results, .ref m_known, .ref m_reached, .ref m_way, .ref m_aside, .ref m_origin, .ref m_retreats, .ref m_contested, .ref m_moved, .int msh, .ref m_past]))] H := hP
        have hD : va_D A [(g0, .inr (6, [.int 1, .int ar, .ref m_sea, .ref m_center, .ref m_home, .ref m_borders, .int mp, .int mt, .ref m_owner, .ref m_units, .ref m_kind, .ref m_toX, .ref m_toY, .ref m_results, .ref m_known, .ref m_reached, .ref m_way, .ref m_aside, .ref m_origin, .ref m_retreats, .ref m_contested, .ref m_moved, .int msh, .ref m_past]))] := hD
        refine lv_aload_n hx hb d_Mo_border_41 rfl (lv_at hl 0 rfl) ?_
        refine va_get (D := D) (ci := 6) (v := .int 1) (C := R_Mo) (T := T_Mo) (N := 24) hx hb hts hin_Mo hown hK hP 0 rfl rfl 0 (by decide) (hts _ wd_704) (fun _ h9 => h9) rfl d_Mo_border_42 ?_
        refine lv_if_ne (tgt := 57) hx hb d_Mo_border_45 (by decide) (fun _ => ?_) (fun h0 => absurd h0 (by decide))
        refine lv_iconst (v := 0) hx hb d_Mo_border_57 (by decide) ?_
        have hP9 := hP.sub (ws' := [(g0, .inr (6, [.int 1, .int ar, .ref m_sea, .ref m_center, .ref m_home, .ref m_borders, .int mp, .int mt, .ref m_owner, .ref m_units, .ref m_kind, .ref m_toX, .ref m_toY, .ref m_results, .ref m_known, .ref m_reached, .ref m_way, .ref m_aside, .ref m_origin, .ref m_retreats, .ref m_contested, .ref m_moved, .int msh, .ref m_past]))]) [0] rfl
        have hD9 := hD.sub (ws' := [(g0, .inr (6, [.int 1, .int ar, .ref m_sea, .ref m_center, .ref m_home, .ref m_borders, .int mp, .int mt, .ref m_owner, .ref m_units, .ref m_kind, .ref m_toX, .ref m_toY, .ref m_results, .ref m_known, .ref m_reached, .ref m_way, .ref m_aside, .ref m_origin, .ref m_retreats, .ref m_contested, .ref m_moved, .int msh, .ref m_past]))]) [0] (by decide) rfl
        exact W.zret (v := 0) hx hb hr (by decide) (fun t ht hW => ⟨⟨0, (), rfl, rfl, by rw [ht]; exact hP9, hD9⟩, hS.F ht⟩) hS.2.2 d_Mo_border_58
    · -- 11: false
      refine lv_if_eq (tgt := 22) hx hb d_Mo_border_14 (by decide) (fun _ => ?_) (fun h0 => absurd (by decide) h0)
      refine lv_iconst (v := 1) hx hb d_Mo_border_22 (by decide) ?_
      refine lv_goto (tgt := 38) hx hb d_Mo_border_23 (by decide) ?_
      refine va_put (D := D) (ci := 6) (v := .int 1) (ty := .int) (C := R_Mo) (T := T_Mo) (N := 24) hx hb hts hin_Mo ty_Mo tyok_Mo nm_Mo hown hK hP hD hS 0 rfl rfl 0 (by decide) (hts _ wd_704) (fun _ h9 => h9) rfl (by decide +kernel) rfl rfl (Nat.le_of_ble_eq_true rfl) d_Mo_border_38 (fun H locs hP hD hS => ?_)
      have hP : va_P D vwCl [(g0, .inr (6, [.int 1, .int ar, .ref m_sea, .ref m_center, .ref m_home, .ref m_borders, .int mp, .int mt, .ref m_owner, .ref m_units, .ref m_kind, .ref m_toX, .ref m_toY, .ref m_results, .ref m_known, .ref m_reached, .ref m_way, .ref m_aside, .ref m_origin, .ref m_retreats, .ref m_contested, .ref m_moved, .int msh, .ref m_past]))] H := hP
      have hD : va_D A [(g0, .inr (6, [.int 1, .int ar, .ref m_sea, .ref m_center, .ref m_home, .ref m_borders, .int mp, .int mt, .ref m_owner, .ref m_units, .ref m_kind, .ref m_toX, .ref m_toY, .ref m_results, .ref m_known, .ref m_reached, .ref m_way, .ref m_aside, .ref m_origin, .ref m_retreats, .ref m_contested, .ref m_moved, .int msh, .ref m_past]))] := hD
      refine lv_aload_n hx hb d_Mo_border_41 rfl (lv_at hl 0 rfl) ?_
      refine va_get (D := D) (ci := 6) (v := .int 1) (C := R_Mo) (T := T_Mo) (N := 24) hx hb hts hin_Mo hown hK hP 0 rfl rfl 0 (by decide) (hts _ wd_704) (fun _ h9 => h9) rfl d_Mo_border_42 ?_
      refine lv_if_ne (tgt := 57) hx hb d_Mo_border_45 (by decide) (fun _ => ?_) (fun h0 => absurd h0 (by decide))
      refine lv_iconst (v := 0) hx hb d_Mo_border_57 (by decide) ?_
      have hP9 := hP.sub (ws' := [(g0, .inr (6, [.int 1, .int ar, .ref m_sea, .ref m_center, .ref m_home, .ref m_borders, .int mp, .int mt, .ref m_owner, .ref m_units, .ref m_kind, .ref m_toX, .ref m_toY, .ref m_results, .ref m_known, .ref m_reached, .ref m_way, .ref m_aside, .ref m_origin, .ref m_retreats, .ref m_contested, .ref m_moved, .int msh, .ref m_past]))]) [0] rfl
      have hD9 := hD.sub (ws' := [(g0, .inr (6, [.int 1, .int ar, .ref m_sea, .ref m_center, .ref m_home, .ref m_borders, .int mp, .int mt, .ref m_owner, .ref m_units, .ref m_kind, .ref m_toX, .ref m_toY, .ref m_results, .ref m_known, .ref m_reached, .ref m_way, .ref m_aside, .ref m_origin, .ref m_retreats, .ref m_contested, .ref m_moved, .int msh, .ref m_past]))]) [0] (by decide) rfl
      exact W.zret (v := 0) hx hb hr (by decide) (fun t ht hW => ⟨⟨0, (), rfl, rfl, by rw [ht]; exact hP9, hD9⟩, hS.F ht⟩) hS.2.2 d_Mo_border_58
  · -- 3: false
    refine lv_if_eq (tgt := 22) hx hb d_Mo_border_6 (by decide) (fun _ => ?_) (fun h0 => absurd (by decide) h0)
    refine lv_iconst (v := 1) hx hb d_Mo_border_22 (by decide) ?_
    refine lv_goto (tgt := 38) hx hb d_Mo_border_23 (by decide) ?_
    refine va_put (D := D) (ci := 6) (v := .int 1) (ty := .int) (C := R_Mo) (T := T_Mo) (N := 24) hx hb hts hin_Mo ty_Mo tyok_Mo nm_Mo hown hK hP hD hS 0 rfl rfl 0 (by decide) (hts _ wd_704) (fun _ h9 => h9) rfl (by decide +kernel) rfl rfl (Nat.le_of_ble_eq_true rfl) d_Mo_border_38 (fun H locs hP hD hS => ?_)
    have hP : va_P D vwCl [(g0, .inr (6, [.int 1, .int ar, .ref m_sea, .ref m_center, .ref m_home, .ref m_borders, .int mp, .int mt, .ref m_owner, .ref m_units, .ref m_kind, .ref m_toX, .ref m_toY, .ref m_results, .ref m_known, .ref m_reached, .ref m_way, .ref m_aside, .ref m_origin, .ref m_retreats, .ref m_contested, .ref m_moved, .int msh, .ref m_past]))] H := hP
    have hD : va_D A [(g0, .inr (6, [.int 1, .int ar, .ref m_sea, .ref m_center, .ref m_home, .ref m_borders, .int mp, .int mt, .ref m_owner, .ref m_units, .ref m_kind, .ref m_toX, .ref m_toY, .ref m_results, .ref m_known, .ref m_reached, .ref m_way, .ref m_aside, .ref m_origin, .ref m_retreats, .ref m_contested, .ref m_moved, .int msh, .ref m_past]))] := hD
    refine lv_aload_n hx hb d_Mo_border_41 rfl (lv_at hl 0 rfl) ?_
    refine va_get (D := D) (ci := 6) (v := .int 1) (C := R_Mo) (T := T_Mo) (N := 24) hx hb hts hin_Mo hown hK hP 0 rfl rfl 0 (by decide) (hts _ wd_704) (fun _ h9 => h9) rfl d_Mo_border_42 ?_
    refine lv_if_ne (tgt := 57) hx hb d_Mo_border_45 (by decide) (fun _ => ?_) (fun h0 => absurd h0 (by decide))
    refine lv_iconst (v := 0) hx hb d_Mo_border_57 (by decide) ?_
    have hP9 := hP.sub (ws' := [(g0, .inr (6, [.int 1, .int ar, .ref m_sea, .ref m_center, .ref m_home, .ref m_borders, .int mp, .int mt, .ref m_owner, .ref m_units, .ref m_kind, .ref m_toX, .ref m_toY, .ref m_results, .ref m_known, .ref m_reached, .ref m_way, .ref m_aside, .ref m_origin, .ref m_retreats, .ref m_contested, .ref m_moved, .int msh, .ref m_past]))]) [0] rfl
    have hD9 := hD.sub (ws' := [(g0, .inr (6, [.int 1, .int ar, .ref m_sea, .ref m_center, .ref m_home, .ref m_borders, .int mp, .int mt, .ref m_owner, .ref m_units, .ref m_kind, .ref m_toX, .ref m_toY, .ref m_results, .ref m_known, .ref m_reached, .ref m_way, .ref m_aside, .ref m_origin, .ref m_retreats, .ref m_contested, .ref m_moved, .int msh, .ref m_past]))]) [0] (by decide) rfl
    exact W.zret (v := 0) hx hb hr (by decide) (fun t ht hW => ⟨⟨0, (), rfl, rfl, by rw [ht]; exact hP9, hD9⟩, hS.F ht⟩) hS.2.2 d_Mo_border_58

theorem d_Mo_unit_0 : decode b_Mo_unit 0 = .ok (.aload_n 0, 1) := by decide +kernel
theorem d_Mo_unit_1 : decode b_Mo_unit 1 = .ok (.aload_n 0, 1) := by decide +kernel
theorem d_Mo_unit_2 : decode b_Mo_unit 2 = .ok (.iload_n 1, 1) := by decide +kernel
theorem d_Mo_unit_3 : decode b_Mo_unit 3 = .ok (.invokevirtual 78, 3) := by decide +kernel
theorem d_Mo_unit_6 : decode b_Mo_unit 6 = .ok (.ifCond .eq 19, 3) := by decide +kernel
theorem d_Mo_unit_9 : decode b_Mo_unit 9 = .ok (.iload_n 2, 1) := by decide +kernel
theorem d_Mo_unit_10 : decode b_Mo_unit 10 = .ok (.invokestatic 89, 3) := by decide +kernel
theorem d_Mo_unit_13 : decode b_Mo_unit 13 = .ok (.ifCond .eq 12, 3) := by decide +kernel
theorem d_Mo_unit_16 : decode b_Mo_unit 16 = .ok (.iload_n 3, 1) := by decide +kernel
theorem d_Mo_unit_17 : decode b_Mo_unit 17 = .ok (.ifCond .lt 8, 3) := by decide +kernel
theorem d_Mo_unit_20 : decode b_Mo_unit 20 = .ok (.iload_n 3, 1) := by decide +kernel
theorem d_Mo_unit_21 : decode b_Mo_unit 21 = .ok (.iconst 1, 1) := by decide +kernel
theorem d_Mo_unit_22 : decode b_Mo_unit 22 = .ok (.if_icmp .le 7, 3) := by decide +kernel
theorem d_Mo_unit_25 : decode b_Mo_unit 25 = .ok (.iconst 1, 1) := by decide +kernel
theorem d_Mo_unit_26 : decode b_Mo_unit 26 = .ok (.goto 33, 3) := by decide +kernel
theorem d_Mo_unit_29 : decode b_Mo_unit 29 = .ok (.aload_n 0, 1) := by decide +kernel
theorem d_Mo_unit_30 : decode b_Mo_unit 30 = .ok (.getfield 75, 3) := by decide +kernel
theorem d_Mo_unit_33 : decode b_Mo_unit 33 = .ok (.ifCond .ne 21, 3) := by decide +kernel
theorem d_Mo_unit_36 : decode b_Mo_unit 36 = .ok (.aload_n 0, 1) := by decide +kernel
theorem d_Mo_unit_37 : decode b_Mo_unit 37 = .ok (.getfield 26, 3) := by decide +kernel
theorem d_Mo_unit_40 : decode b_Mo_unit 40 = .ok (.iload_n 1, 1) := by decide +kernel
theorem d_Mo_unit_41 : decode b_Mo_unit 41 = .ok (.iaload, 1) := by decide +kernel
theorem d_Mo_unit_42 : decode b_Mo_unit 42 = .ok (.ifCond .ge 12, 3) := by decide +kernel
theorem d_Mo_unit_45 : decode b_Mo_unit 45 = .ok (.aload_n 0, 1) := by decide +kernel
theorem d_Mo_unit_46 : decode b_Mo_unit 46 = .ok (.iload_n 1, 1) := by decide +kernel
theorem d_Mo_unit_47 : decode b_Mo_unit 47 = .ok (.iload_n 3, 1) := by decide +kernel
theorem d_Mo_unit_48 : decode b_Mo_unit 48 = .ok (.invokevirtual 92, 3) := by decide +kernel
theorem d_Mo_unit_51 : decode b_Mo_unit 51 = .ok (.ifCond .ne 7, 3) := by decide +kernel
theorem d_Mo_unit_54 : decode b_Mo_unit 54 = .ok (.iconst 2, 1) := by decide +kernel
theorem d_Mo_unit_55 : decode b_Mo_unit 55 = .ok (.goto 4, 3) := by decide +kernel
theorem d_Mo_unit_58 : decode b_Mo_unit 58 = .ok (.iconst 0, 1) := by decide +kernel
theorem d_Mo_unit_59 : decode b_Mo_unit 59 = .ok (.putfield 68, 3) := by decide +kernel
theorem d_Mo_unit_62 : decode b_Mo_unit 62 = .ok (.aload_n 0, 1) := by decide +kernel
theorem d_Mo_unit_63 : decode b_Mo_unit 63 = .ok (.getfield 68, 3) := by decide +kernel
theorem d_Mo_unit_66 : decode b_Mo_unit 66 = .ok (.ifCond .ne 14, 3) := by decide +kernel
theorem d_Mo_unit_69 : decode b_Mo_unit 69 = .ok (.aload_n 0, 1) := by decide +kernel
theorem d_Mo_unit_70 : decode b_Mo_unit 70 = .ok (.getfield 26, 3) := by decide +kernel
theorem d_Mo_unit_73 : decode b_Mo_unit 73 = .ok (.iload_n 1, 1) := by decide +kernel
theorem d_Mo_unit_74 : decode b_Mo_unit 74 = .ok (.iconst 2, 1) := by decide +kernel
theorem d_Mo_unit_75 : decode b_Mo_unit 75 = .ok (.iload_n 2, 1) := by decide +kernel
theorem d_Mo_unit_76 : decode b_Mo_unit 76 = .ok (.imul, 1) := by decide +kernel
theorem d_Mo_unit_77 : decode b_Mo_unit 77 = .ok (.iload_n 3, 1) := by decide +kernel
theorem d_Mo_unit_78 : decode b_Mo_unit 78 = .ok (.iadd, 1) := by decide +kernel
theorem d_Mo_unit_79 : decode b_Mo_unit 79 = .ok (.iastore, 1) := by decide +kernel
theorem d_Mo_unit_80 : decode b_Mo_unit 80 = .ok (.return_, 1) := by decide +kernel
theorem wd_804 : (Cond.code ({ cls := "SheetWarModel", name := "isPlayer", desc := "(I)Z" } : MethodName) prog_8_method_4_code (1 : Nat) (Option.some FieldType.boolean)) ∈ TB := tb_t 804 (by decide +kernel) (by decide +kernel)
theorem wd_802 : (Cond.methodLink "SheetWarModel" (89 : Nat) ({ cls := "SheetWarModel", name := "isPlayer", desc := "(I)Z" } : MethodName)) ∈ TB := tb_t 802 (by decide +kernel) (by decide +kernel)
theorem wd_803 : (Cond.static ({ cls := "SheetWarModel", name := "isPlayer", desc := "(I)Z" } : MethodName)) ∈ TB := tb_t 803 (by decide +kernel) (by decide +kernel)
set_option maxHeartbeats 4000000 in
set_option maxRecDepth 100000 in
theorem c_Mo_unit_1 (l : Launch) (D : va_G) (cI cZ cJ cS : ClassId) (aT : Nat) (ceT : Cell) (sz : Nat) (g0 m_sea m_center m_home m_borders m_owner m_units m_kind m_toX m_toY m_results m_known m_reached m_way m_aside m_origin m_retreats m_contested m_moved m_past : Nat) (co ar mp mt msh : Int32) (a pl k : Int32) (hno9 : ¬ ((0 ≤ a ∧ a < ar) ∧ (0 ≤ pl ∧ pl < 4) ∧ (k = 0 ∨ k = 1))) : Met l y_Mo_unit w_Mo_unit ({ frames := 1, cells := 0, slots := 0, locals := 21 }) (tH D cI cZ cJ cS aT ceT [.ref g0, .int a, .int pl, .int k] sz [(g0, .inr (6, [.int co, .int ar, .ref m_sea, .ref m_center, .ref m_home, .ref m_borders, .int mp, .int mt, .ref m_owner, .ref m_units, .ref m_kind, .ref m_toX, .ref m_toY, .ref m_results, .ref m_known, .ref m_reached, .ref m_way, .ref m_aside, .ref m_origin, .ref m_retreats, .ref m_contested, .ref m_moved, .int msh, .ref m_past]))]) (va_Qv (fun _ : Unit => True) (fun _ t => tB D (va_A [(g0, .inr (6, [.int co, .int ar, .ref m_sea, .ref m_center, .ref m_home, .ref m_borders, .int mp, .int mt, .ref m_owner, .ref m_units, .ref m_kind, .ref m_toX, .ref m_toY, .ref m_results, .ref m_known, .ref m_reached, .ref m_way, .ref m_aside, .ref m_origin, .ref m_retreats, .ref m_contested, .ref m_moved, .int msh, .ref m_past]))] sz) [(g0, .inr (6, [.int 1, .int ar, .ref m_sea, .ref m_center, .ref m_home, .ref m_borders, .int mp, .int mt, .ref m_owner, .ref m_units, .ref m_kind, .ref m_toX, .ref m_toY, .ref m_results, .ref m_known, .ref m_reached, .ref m_way, .ref m_aside, .ref m_origin, .ref m_retreats, .ref m_contested, .ref m_moved, .int msh, .ref m_past]))] t) (va_A [(g0, .inr (6, [.int co, .int ar, .ref m_sea, .ref m_center, .ref m_home, .ref m_borders, .int mp, .int mt, .ref m_owner, .ref m_units, .ref m_kind, .ref m_toX, .ref m_toY, .ref m_results, .ref m_known, .ref m_reached, .ref m_way, .ref m_aside, .ref m_origin, .ref m_retreats, .ref m_contested, .ref m_moved, .int msh, .ref m_past]))] sz)) 0 0 (va_A [(g0, .inr (6, [.int co, .int ar, .ref m_sea, .ref m_center, .ref m_home, .ref m_borders, .int mp, .int mt, .ref m_owner, .ref m_units, .ref m_kind, .ref m_toX, .ref m_toY, .ref m_results, .ref m_known, .ref m_reached, .ref m_way, .ref m_aside, .ref m_origin, .ref m_retreats, .ref m_contested, .ref m_moved, .int msh, .ref m_past]))] sz) := by
  refine Met.ofW (cc := b_Mo_unit) (maxL := 4) (ret := none) (by decide) rfl ?_
  intro p e s m args below meth c s₁ B hml hv
  obtain ⟨rfl, hsz, hP, hK, hD0, hX⟩ := hv
  have hx := B.exec
  have hb := B.bytes
  have hr := B.returns
  have hts0 := atoms_spec (ws := w_Mo_unit) B.pre
  have hts : ∀ w ∈ TB, w.before _ s = true := fun w h => hts0 w (List.mem_cons_of_mem _ h)
  have hown : s.vm.findClass R_Mo = some m.cls := findClass_of_methodNamed B.named
  have hlocks := B.notSynchronized
  subst hsz
  have hXl := tx_lt hX
  have hXn := tx_far hP hX
  have hD := hD0.self (sz := s.heap.size)
  generalize hAe : va_A [(g0, .inr (6, [.int co, .int ar, .ref m_sea, .ref m_center, .ref m_home, .ref m_borders, .int mp, .int mt, .ref m_owner, .ref m_units, .ref m_kind, .ref m_toX, .ref m_toY, .ref m_results, .ref m_known, .ref m_reached, .ref m_way, .ref m_aside, .ref m_origin, .ref m_retreats, .ref m_contested, .ref m_moved, .int msh, .ref m_past]))] s.heap.size = A at hD hXn ⊢
  have hA : ∀ q : Nat, s.heap.size ≤ q → A q := fun q h => by rw [← hAe]; exact Or.inr h
  have hS : va_S A s.heap s.heap [] := va_S.rf
  have hXH : s.heap[aT]? = s.heap[aT]? := rfl
  have hl := lv_entry ([.ref g0, .int a, .int pl, .int k]) (n := 4) (Nat.le_of_ble_eq_true rfl)
  rw [lg_entry_eq]
  generalize (lg_sl ([.ref g0, .int a, .int pl, .int k]) ++ List.replicate (4 - (lg_sl ([.ref g0, .int a, .int pl, .int k])).length) Slot.unset).toArray = ls at hl ⊢
  have hl : lv_has ls 4 [(0, .ref g0), (1, .int a), (2, .int pl), (3, .int k)] := hl
  refine lv_aload_n hx hb d_Mo_unit_0 rfl (lv_at hl 0 rfl) ?_
  refine lv_aload_n hx hb d_Mo_unit_1 rfl (lv_at hl 0 rfl) ?_
  refine lv_iload_n hx hb d_Mo_unit_2 rfl (lv_at hl 1 rfl) ?_
  have hPc := hP.sub (ws' := [(g0, .inr (6, [.int co, .int ar, .ref m_sea, .ref m_center, .ref m_home, .ref m_borders, .int mp, .int mt, .ref m_owner, .ref m_units, .ref m_kind, .ref m_toX, .ref m_toY, .ref m_results, .ref m_known, .ref m_reached, .ref m_way, .ref m_aside, .ref m_origin, .ref m_retreats, .ref m_contested, .ref m_moved, .int msh, .ref m_past]))]) [0] rfl
  refine vp_callSi (va_Run.run (va_runV (As := [.int a]) (rest := [.ref g0]) ⟨hx, hb, hml, hown, hts⟩ (c_Mo_isArea l D cI cZ cJ cS aT ceT  g0 m_sea m_center m_home m_borders m_owner m_units m_kind m_toX m_toY m_results m_known m_reached m_way m_aside m_origin m_retreats m_contested m_moved m_past co ar mp mt msh a ) (cwV 1 hts (tb_4 wd_790 wd_792 wp_36 wd_8 (tb_c wd_793)) rfl rfl rfl ⟨rfl, by decide, by decide, by decide +kernel⟩ ⟨Nat.le_of_ble_eq_true rfl, Nat.le_of_ble_eq_true rfl⟩) (tP_V hK hX (hS.2.1 aT hXl hXn) hPc (q := 0) rfl rfl) rfl rfl hl.1 rfl (lv_room (Nat.le_of_ble_eq_true rfl)) d_Mo_unit_3 ⟨Nat.le_of_ble_eq_true rfl, Nat.le_of_ble_eq_true rfl⟩)) (fun r1 hr9 => ?_)
  rcases hr9 with ⟨rfl, hq2⟩ | ⟨rfl, hq2⟩
  · -- 3: true
    refine lv_if_eq (tgt := 25) hx hb d_Mo_unit_6 (by decide) (fun h0 => absurd h0 (by decide)) (fun _ => ?_)
    refine lv_iload_n hx hb d_Mo_unit_9 rfl (lv_at hl 2 rfl) ?_
    have hPc := hP.sub (ws' := []) [] rfl
    refine vp_callSi (va_Run.run (va_runS (As := [.int pl]) (rest := [.ref g0]) ⟨hx, hb, hml, hown, hts⟩ (c_Mo_isPlayer l D cI cZ cJ cS aT ceT  pl ) (va_cwS 1 hts (tb_3 wd_802 wd_803 wd_8 (tb_c wd_804)) rfl rfl rfl ⟨by decide, by decide, by decide +kernel⟩ ⟨Nat.le_of_ble_eq_true rfl, Nat.le_of_ble_eq_true rfl⟩) (tP_S hK hX (hS.2.1 aT hXl hXn) hPc) rfl rfl hl.1 rfl (lv_room (Nat.le_of_ble_eq_true rfl)) d_Mo_unit_10 ⟨Nat.le_of_ble_eq_true rfl, Nat.le_of_ble_eq_true rfl⟩)) (fun r4 hr9 => ?_)
    rcases hr9 with ⟨rfl, hq5⟩ | ⟨rfl, hq5⟩
    · -- 10: true
      refine lv_if_eq (tgt := 25) hx hb d_Mo_unit_13 (by decide) (fun h0 => absurd h0 (by decide)) (fun _ => ?_)
      refine lv_iload_n hx hb d_Mo_unit_16 rfl (lv_at hl 3 rfl) ?_
      refine lv_if_lt (tgt := 25) hx hb d_Mo_unit_17 (by decide) (fun hc7 => ?_) (fun hc7 => ?_)
      · -- 17 taken
        refine lv_iconst (v := 1) hx hb d_Mo_unit_25 (by decide) ?_
        refine lv_goto (tgt := 59) hx hb d_Mo_unit_26 (by decide) ?_
        refine va_put (D := D) (ci := 6) (v := .int 1) (ty := .int) (C := R_Mo) (T := T_Mo) (N := 24) hx hb hts hin_Mo ty_Mo tyok_Mo nm_Mo hown hK hP hD hS 0 rfl rfl 0 (by decide) (hts _ wd_704) (fun _ h9 => h9) rfl (by decide +kernel) rfl rfl (Nat.le_of_ble_eq_true rfl) d_Mo_unit_59 (fun H locs hP hD hS => ?_)
        have hP : va_P D vwCl [(g0, .inr (6, [.int 1, .int ar, .ref m_sea, .ref m_center, .ref m_home, .ref m_borders, .int mp, .int mt, .ref m_owner, .ref m_units, .ref m_kind, .ref m_toX, .ref m_toY, .ref m_results, .ref m_known, .ref m_reached, .ref m_way, .ref m_aside, .ref m_origin, .ref m_retreats, .ref m_contested, .ref m_moved, .int msh, .ref m_past]))] H := hP
        have hD : va_D A [(g0, .inr (6, [.int 1, .int ar, .ref m_sea, .ref m_center, .ref m_home, .ref m_borders, .int mp, .int mt, .ref m_owner, .ref m_units, .ref m_kind, .ref m_toX, .ref m_toY, .ref m_results, .ref m_known, .ref m_reached, .ref m_way, .ref m_aside, .ref m_origin, .ref m_retreats, .ref m_contested, .ref m_moved, .int msh, .ref m_past]))] := hD
        refine lv_aload_n hx hb d_Mo_unit_62 rfl (lv_at hl 0 rfl) ?_
        refine va_get (D := D) (ci := 6) (v := .int 1) (C := R_Mo) (T := T_Mo) (N := 24) hx hb hts hin_Mo hown hK hP 0 rfl rfl 0 (by decide) (hts _ wd_704) (fun _ h9 => h9) rfl d_Mo_unit_63 ?_
        refine lv_if_ne (tgt := 80) hx hb d_Mo_unit_66 (by decide) (fun _ => ?_) (fun h0 => absurd h0 (by decide))
        have hP9 := hP.sub (ws' := [(g0, .inr (6, [.int 1, .int ar, .ref m_sea, .ref m_center, .ref m_home, .ref m_borders, .int mp, .int mt, .ref m_owner, .ref m_units, .ref m_kind, .ref m_toX, .ref m_toY, .ref m_results, .ref m_known, .ref m_reached, .ref m_way, .ref m_aside, .ref m_origin, .ref m_retreats, .ref m_contested, .ref m_moved, .int msh, .ref m_past]))]) [0] rfl
        have hD9 := hD.sub (ws' := [(g0, .inr (6, [.int 1, .int ar, .ref m_sea, .ref m_center, .ref m_home, .ref m_borders, .int mp, .int mt, .ref m_owner, .ref m_units, .ref m_kind, .ref m_toX, .ref m_toY, .ref m_results, .ref m_known, .ref m_reached, .ref m_way, .ref m_aside, .ref m_origin, .ref m_retreats, .ref m_contested, .ref m_moved, .int msh, .ref m_past]))]) [0] (by decide) rfl
        exact W.vret hx hb hr (fun t ht hW => ⟨⟨(), rfl, trivial, by rw [ht]; exact hP9, hD9⟩, hS.F ht⟩) hS.2.2 d_Mo_unit_80
      · -- 17 not taken
        refine lv_iload_n hx hb d_Mo_unit_20 rfl (lv_at hl 3 rfl) ?_
        refine lv_iconst (v := 1) hx hb d_Mo_unit_21 (by decide) ?_
        refine lv_icmp_le (tgt := 29) hx hb d_Mo_unit_22 (by decide) (fun hc9 => ?_) (fun hc9 => ?_)
        · -- 22 taken
          exact absurd (by revert hq2 hq5 hc7 hc9; simp only [Int32.lt_iff_toInt_lt, Int32.le_iff_toInt_le, ← Int32.toInt_inj, Int32.reduceToInt, i32_m1]; omega) hno9
        · -- 22 not taken
          refine lv_iconst (v := 1) hx hb d_Mo_unit_25 (by decide) ?_
          refine lv_goto (tgt := 59) hx hb d_Mo_unit_26 (by decide) ?_
          refine va_put (D := D) (ci := 6) (v := .int 1) (ty := .int) (C := R_Mo) (T := T_Mo) (N := 24) hx hb hts hin_Mo ty_Mo tyok_Mo nm_Mo hown hK hP hD hS 0 rfl rfl 0 (by decide) (hts _ wd_704) (fun _ h9 => h9) rfl (by decide +kernel) rfl rfl (Nat.le_of_ble_eq_true rfl) d_Mo_unit_59 (fun H locs hP hD hS => ?_)
          have hP : va_P D vwCl [(g0, .inr (6, [.int 1, .int ar, .ref m_sea, .ref m_center, .ref m_home, .ref m_borders, .int mp, .int mt, .ref m_owner, .ref m_units, .ref m_kind, .ref m_toX, .ref m_toY, .ref m_results, .ref m_known, .ref m_reached, .ref m_way, .ref m_aside, .ref m_origin, .ref m_retreats, .ref m_contested, .ref m_moved, .int msh, .ref m_past]))] H := hP
          have hD : va_D A [(g0, .inr (6, [.int 1, .int ar, .ref m_sea, .ref m_center, .ref m_home, .ref m_borders, .int mp, .int mt, .ref m_owner, .ref m_units, .ref m_kind, .ref m_toX, .ref m_toY, .ref m_results, .ref m_known, .ref m_reached, .ref m_way, .ref m_aside, .ref m_origin, .ref m_retreats, .ref m_contested, .ref m_moved, .int msh, .ref m_past]))] := hD
          refine lv_aload_n hx hb d_Mo_unit_62 rfl (lv_at hl 0 rfl) ?_
          refine va_get (D := D) (ci := 6) (v := .int 1) (C := R_Mo) (T := T_Mo) (N := 24) hx hb hts hin_Mo hown hK hP 0 rfl rfl 0 (by decide) (hts _ wd_704) (fun _ h9 => h9) rfl d_Mo_unit_63 ?_
          refine lv_if_ne (tgt := 80) hx hb d_Mo_unit_66 (by decide) (fun _ => ?_) (fun h0 => absurd h0 (by decide))
          have hP9 := hP.sub (ws' := [(g0, .inr (6, [.int 1, .int ar, .ref m_sea, .ref m_center, .ref m_home, .ref m_borders, .int mp, .int mt, .ref m_owner, .ref m_units, .ref m_kind, .ref m_toX, .ref m_toY, .ref m_results, .ref m_known, .ref m_reached, .ref m_way, .ref m_aside, .ref m_origin, .ref m_retreats, .ref m_contested, .ref m_moved, .int msh, .ref m_past]))]) [0] rfl
          have hD9 := hD.sub (ws' := [(g0, .inr (6, [.int 1, .int ar, .ref m_sea, .ref m_center, .ref m_home, .ref m_borders, .int mp, .int mt, .ref m_owner, .ref m_units, .ref m_kind, .ref m_toX, .ref m_toY, .ref m_results, .ref m_known, .ref m_reached, .ref m_way, .ref m_aside, .ref m_origin, .ref m_retreats, .ref m_contested, .ref m_moved, .int msh, .ref m_past]))]) [0] (by decide) rfl
          exact W.vret hx hb hr (fun t ht hW => ⟨⟨(), rfl, trivial, by rw [ht]; exact hP9, hD9⟩, hS.F ht⟩) hS.2.2 d_Mo_unit_80
    · -- 10: false
      refine lv_if_eq (tgt := 25) hx hb d_Mo_unit_13 (by decide) (fun _ => ?_) (fun h0 => absurd (by decide) h0)
      refine lv_iconst (v := 1) hx hb d_Mo_unit_25 (by decide) ?_
      refine lv_goto (tgt := 59) hx hb d_Mo_unit_26 (by decide) ?_
      refine va_put (D := D) (ci := 6) (v := .int 1) (ty := .int) (C := R_Mo) (T := T_Mo) (N := 24) hx hb hts hin_Mo ty_Mo tyok_Mo nm_Mo hown hK hP hD hS 0 rfl rfl 0 (by decide) (hts _ wd_704) (fun _ h9 => h9) rfl (by decide +kernel) rfl rfl (Nat.le_of_ble_eq_true rfl) d_Mo_unit_59 (fun H locs hP hD hS => ?_)
      have hP : va_P D vwCl [(g0, .inr (6, [.int 1, .int ar, .ref m_sea, .ref m_center, .ref m_home, .ref m_borders, .int mp, .int mt, .ref m_owner, .ref m_units, .ref m_kind, .ref m_toX, .ref m_toY, .ref m_results, .ref m_known, .ref m_reached, .ref m_way, .ref m_aside, .ref m_origin, .ref m_retreats, .ref m_contested, .ref m_moved, .int msh, .ref m_past]))] H := hP
      have hD : va_D A [(g0, .inr (6, [.int 1, .int ar, .ref m_sea, .ref m_center, .ref m_home, .ref m_borders, .int mp, .int mt, .ref m_owner, .ref m_units, .ref m_kind, .ref m_toX, .ref m_toY, .ref m_results, .ref m_known, .ref m_reached, .ref m_way, .ref m_aside, .ref m_origin, .ref m_retreats, .ref m_contested, .ref m_moved, .int msh, .ref m_past]))] := hD
      refine lv_aload_n hx hb d_Mo_unit_62 rfl (lv_at hl 0 rfl) ?_
      refine va_get (D := D) (ci := 6) (v := .int 1) (C := R_Mo) (T := T_Mo) (N := 24) hx hb hts hin_Mo hown hK hP 0 rfl rfl 0 (by decide) (hts _ wd_704) (fun _ h9 => h9) rfl d_Mo_unit_63 ?_
      refine lv_if_ne (tgt := 80) hx hb d_Mo_unit_66 (by decide) (fun _ => ?_) (fun h0 => absurd h0 (by decide))
      have hP9 := hP.sub (ws' := [(g0, .inr (6, [.int 1, .int ar, .ref m_sea, .ref m_center, .ref m_home, .ref m_borders, .int mp, .int mt, .ref m_owner, .ref m_units, .ref m_kind, .ref m_toX, .ref m_toY, .ref m_results, .ref m_known, .ref m_reached, .ref m_way, .ref m_aside, .ref m_origin, .ref m_retreats, .ref m_contested, .ref m_moved, .int msh, .ref m_past]))]) [0] rfl
      have hD9 := hD.sub (ws' := [(g0, .inr (6, [.int 1, .int ar, .ref m_sea, .ref m_center, .ref m_home, .ref m_borders, .int mp, .int mt, .ref m_owner, .ref m_units, .ref m_kind, .ref m_toX, .ref m_toY, .ref m_results, .ref m_known, .ref m_reached, .ref m_way, .ref m_aside, .ref m_origin, .ref m_retreats, .ref m_contested, .ref m_moved, .int msh, .ref m_past]))]) [0] (by decide) rfl
      exact W.vret hx hb hr (fun t ht hW => ⟨⟨(), rfl, trivial, by rw [ht]; exact hP9, hD9⟩, hS.F ht⟩) hS.2.2 d_Mo_unit_80
  · -- 3: false
    refine lv_if_eq (tgt := 25) hx hb d_Mo_unit_6 (by decide) (fun _ => ?_) (fun h0 => absurd (by decide) h0)
    refine lv_iconst (v := 1) hx hb d_Mo_unit_25 (by decide) ?_
    refine lv_goto (tgt := 59) hx hb d_Mo_unit_26 (by decide) ?_
    refine va_put (D := D) (ci := 6) (v := .int 1) (ty := .int) (C := R_Mo) (T := T_Mo) (N := 24) hx hb hts hin_Mo ty_Mo tyok_Mo nm_Mo hown hK hP hD hS 0 rfl rfl 0 (by decide) (hts _ wd_704) (fun _ h9 => h9) rfl (by decide +kernel) rfl rfl (Nat.le_of_ble_eq_true rfl) d_Mo_unit_59 (fun H locs hP hD hS => ?_)
    have hP : va_P D vwCl [(g0, .inr (6, [.int 1, .int ar, .ref m_sea, .ref m_center, .ref m_home, .ref m_borders, .int mp, .int mt, .ref m_owner, .ref m_units, .ref m_kind, .ref m_toX, .ref m_toY, .ref m_results, .ref m_known, .ref m_reached, .ref m_way, .ref m_aside, .ref m_origin, .ref m_retreats, .ref m_contested, .ref m_moved, .int msh, .ref m_past]))] H := hP
    have hD : va_D A [(g0, .inr (6, [.int 1, .int ar, .ref m_sea, .ref m_center, .ref m_home, .ref m_borders, .int mp, .int mt, .ref m_owner, .ref m_units, .ref m_kind, .ref m_toX, .ref m_toY, .ref m_results, .ref m_known, .ref m_reached, .ref m_way, .ref m_aside, .ref m_origin, .ref m_retreats, .ref m_contested, .ref m_moved, .int msh, .ref m_past]))] := hD
    refine lv_aload_n hx hb d_Mo_unit_62 rfl (lv_at hl 0 rfl) ?_
    refine va_get (D := D) (ci := 6) (v := .int 1) (C := R_Mo) (T := T_Mo) (N := 24) hx hb hts hin_Mo hown hK hP 0 rfl rfl 0 (by decide) (hts _ wd_704) (fun _ h9 => h9) rfl d_Mo_unit_63 ?_
    refine lv_if_ne (tgt := 80) hx hb d_Mo_unit_66 (by decide) (fun _ => ?_) (fun h0 => absurd h0 (by decide))
    have hP9 := hP.sub (ws' := [(g0, .inr (6, [.int 1, .int ar, .ref m_sea, .ref m_center, .ref m_home, .ref m_borders, .int mp, .int mt, .ref m_owner, .ref m_units, .ref m_kind, .ref m_toX, .ref m_toY, .ref m_results, .ref m_known, .ref m_reached, .ref m_way, .ref m_aside, .ref m_origin, .ref m_retreats, .ref m_contested, .ref m_moved, .int msh, .ref m_past]))]) [0] rfl
    have hD9 := hD.sub (ws' := [(g0, .inr (6, [.int 1, .int ar, .ref m_sea, .ref m_center, .ref m_home, .ref m_borders, .int mp, .int mt, .ref m_owner, .ref m_units, .ref m_kind, .ref m_toX, .ref m_toY, .ref m_results, .ref m_known, .ref m_reached, .ref m_way, .ref m_aside, .ref m_origin, .ref m_retreats, .ref m_contested, .ref m_moved, .int msh, .ref m_past]))]) [0] (by decide) rfl
    exact W.vret hx hb hr (fun t ht hW => ⟨⟨(), rfl, trivial, by rw [ht]; exact hP9, hD9⟩, hS.F ht⟩) hS.2.2 d_Mo_unit_80

theorem d_Mo_order_0 : decode b_Mo_order 0 = .ok (.iload_n 3, 1) := by decide +kernel
theorem d_Mo_order_1 : decode b_Mo_order 1 = .ok (.iconst 1, 1) := by decide +kernel
theorem d_Mo_order_2 : decode b_Mo_order 2 = .ok (.if_icmp .lt 17, 3) := by decide +kernel
theorem d_Mo_order_5 : decode b_Mo_order 5 = .ok (.iload_n 3, 1) := by decide +kernel
theorem d_Mo_order_6 : decode b_Mo_order 6 = .ok (.iconst 3, 1) := by decide +kernel
theorem d_Mo_order_7 : decode b_Mo_order 7 = .ok (.if_icmp .gt 12, 3) := by decide +kernel
theorem d_Mo_order_10 : decode b_Mo_order 10 = .ok (.aload_n 0, 1) := by decide +kernel
theorem d_Mo_order_11 : decode b_Mo_order 11 = .ok (.iload 4, 2) := by decide +kernel
theorem d_Mo_order_13 : decode b_Mo_order 13 = .ok (.invokevirtual 78, 3) := by decide +kernel
theorem d_Mo_order_16 : decode b_Mo_order 16 = .ok (.ifCond .eq 26, 3) := by decide +kernel
theorem d_Mo_order_19 : decode b_Mo_order 19 = .ok (.iload_n 3, 1) := by decide +kernel
theorem d_Mo_order_20 : decode b_Mo_order 20 = .ok (.iconst 2, 1) := by decide +kernel
theorem d_Mo_order_21 : decode b_Mo_order 21 = .ok (.if_icmp .lt 17, 3) := by decide +kernel
theorem d_Mo_order_24 : decode b_Mo_order 24 = .ok (.iload_n 3, 1) := by decide +kernel
theorem d_Mo_order_25 : decode b_Mo_order 25 = .ok (.iconst 3, 1) := by decide +kernel
theorem d_Mo_order_26 : decode b_Mo_order 26 = .ok (.if_icmp .gt 12, 3) := by decide +kernel
theorem d_Mo_order_29 : decode b_Mo_order 29 = .ok (.aload_n 0, 1) := by decide +kernel
theorem d_Mo_order_30 : decode b_Mo_order 30 = .ok (.iload 5, 2) := by decide +kernel
theorem d_Mo_order_32 : decode b_Mo_order 32 = .ok (.invokevirtual 78, 3) := by decide +kernel
theorem d_Mo_order_35 : decode b_Mo_order 35 = .ok (.ifCond .eq 7, 3) := by decide +kernel
theorem d_Mo_order_38 : decode b_Mo_order 38 = .ok (.iconst 1, 1) := by decide +kernel
theorem d_Mo_order_39 : decode b_Mo_order 39 = .ok (.goto 4, 3) := by decide +kernel
theorem d_Mo_order_42 : decode b_Mo_order 42 = .ok (.iconst 0, 1) := by decide +kernel
theorem d_Mo_order_43 : decode b_Mo_order 43 = .ok (.istore 6, 2) := by decide +kernel
theorem d_Mo_order_45 : decode b_Mo_order 45 = .ok (.aload_n 0, 1) := by decide +kernel
theorem d_Mo_order_46 : decode b_Mo_order 46 = .ok (.iload_n 1, 1) := by decide +kernel
theorem d_Mo_order_47 : decode b_Mo_order 47 = .ok (.invokestatic 89, 3) := by decide +kernel
theorem d_Mo_order_50 : decode b_Mo_order 50 = .ok (.ifCond .eq 25, 3) := by decide +kernel
theorem d_Mo_order_53 : decode b_Mo_order 53 = .ok (.aload_n 0, 1) := by decide +kernel
theorem d_Mo_order_54 : decode b_Mo_order 54 = .ok (.iload_n 2, 1) := by decide +kernel
theorem d_Mo_order_55 : decode b_Mo_order 55 = .ok (.invokevirtual 78, 3) := by decide +kernel
theorem d_Mo_order_58 : decode b_Mo_order 58 = .ok (.ifCond .eq 17, 3) := by decide +kernel
theorem d_Mo_order_61 : decode b_Mo_order 61 = .ok (.iload_n 3, 1) := by decide +kernel
theorem d_Mo_order_62 : decode b_Mo_order 62 = .ok (.ifCond .lt 13, 3) := by decide +kernel
theorem d_Mo_order_65 : decode b_Mo_order 65 = .ok (.iload_n 3, 1) := by decide +kernel
theorem d_Mo_order_66 : decode b_Mo_order 66 = .ok (.iconst 3, 1) := by decide +kernel
theorem d_Mo_order_67 : decode b_Mo_order 67 = .ok (.if_icmp .gt 8, 3) := by decide +kernel
theorem d_Mo_order_70 : decode b_Mo_order 70 = .ok (.iload 6, 2) := by decide +kernel
theorem d_Mo_order_72 : decode b_Mo_order 72 = .ok (.ifCond .ne 7, 3) := by decide +kernel
theorem d_Mo_order_75 : decode b_Mo_order 75 = .ok (.iconst 1, 1) := by decide +kernel
theorem d_Mo_order_76 : decode b_Mo_order 76 = .ok (.goto 16, 3) := by decide +kernel
theorem d_Mo_order_79 : decode b_Mo_order 79 = .ok (.aload_n 0, 1) := by decide +kernel
theorem d_Mo_order_80 : decode b_Mo_order 80 = .ok (.getfield 75, 3) := by decide +kernel
theorem d_Mo_order_83 : decode b_Mo_order 83 = .ok (.iconst 1, 1) := by decide +kernel
theorem d_Mo_order_84 : decode b_Mo_order 84 = .ok (.if_icmp .eq 7, 3) := by decide +kernel
theorem d_Mo_order_87 : decode b_Mo_order 87 = .ok (.iconst 2, 1) := by decide +kernel
theorem d_Mo_order_88 : decode b_Mo_order 88 = .ok (.goto 4, 3) := by decide +kernel
theorem d_Mo_order_91 : decode b_Mo_order 91 = .ok (.iconst 0, 1) := by decide +kernel
theorem d_Mo_order_92 : decode b_Mo_order 92 = .ok (.putfield 68, 3) := by decide +kernel
theorem d_Mo_order_95 : decode b_Mo_order 95 = .ok (.aload_n 0, 1) := by decide +kernel
theorem d_Mo_order_96 : decode b_Mo_order 96 = .ok (.getfield 68, 3) := by decide +kernel
theorem d_Mo_order_99 : decode b_Mo_order 99 = .ok (.ifCond .eq 5, 3) := by decide +kernel
theorem d_Mo_order_102 : decode b_Mo_order 102 = .ok (.iconst 0, 1) := by decide +kernel
theorem d_Mo_order_103 : decode b_Mo_order 103 = .ok (.ireturn, 1) := by decide +kernel
theorem d_Mo_order_104 : decode b_Mo_order 104 = .ok (.aload_n 0, 1) := by decide +kernel
theorem d_Mo_order_105 : decode b_Mo_order 105 = .ok (.getfield 26, 3) := by decide +kernel
theorem d_Mo_order_108 : decode b_Mo_order 108 = .ok (.iload_n 2, 1) := by decide +kernel
theorem d_Mo_order_109 : decode b_Mo_order 109 = .ok (.iaload, 1) := by decide +kernel
theorem d_Mo_order_110 : decode b_Mo_order 110 = .ok (.ifCond .lt 15, 3) := by decide +kernel
theorem d_Mo_order_113 : decode b_Mo_order 113 = .ok (.aload_n 0, 1) := by decide +kernel
theorem d_Mo_order_114 : decode b_Mo_order 114 = .ok (.getfield 26, 3) := by decide +kernel
theorem d_Mo_order_117 : decode b_Mo_order 117 = .ok (.iload_n 2, 1) := by decide +kernel
theorem d_Mo_order_118 : decode b_Mo_order 118 = .ok (.iaload, 1) := by decide +kernel
theorem d_Mo_order_119 : decode b_Mo_order 119 = .ok (.iconst 2, 1) := by decide +kernel
theorem d_Mo_order_120 : decode b_Mo_order 120 = .ok (.idiv, 1) := by decide +kernel
theorem d_Mo_order_121 : decode b_Mo_order 121 = .ok (.iload_n 1, 1) := by decide +kernel
theorem d_Mo_order_122 : decode b_Mo_order 122 = .ok (.if_icmp .eq 5, 3) := by decide +kernel
theorem d_Mo_order_125 : decode b_Mo_order 125 = .ok (.iconst 1, 1) := by decide +kernel
theorem d_Mo_order_126 : decode b_Mo_order 126 = .ok (.ireturn, 1) := by decide +kernel
theorem d_Mo_order_127 : decode b_Mo_order 127 = .ok (.aload_n 0, 1) := by decide +kernel
theorem d_Mo_order_128 : decode b_Mo_order 128 = .ok (.iload_n 2, 1) := by decide +kernel
theorem d_Mo_order_129 : decode b_Mo_order 129 = .ok (.iload_n 3, 1) := by decide +kernel
theorem d_Mo_order_130 : decode b_Mo_order 130 = .ok (.iload 4, 2) := by decide +kernel
theorem d_Mo_order_132 : decode b_Mo_order 132 = .ok (.iload 5, 2) := by decide +kernel
theorem d_Mo_order_134 : decode b_Mo_order 134 = .ok (.invokevirtual 105, 3) := by decide +kernel
theorem d_Mo_order_137 : decode b_Mo_order 137 = .ok (.ifCond .ne 5, 3) := by decide +kernel
theorem d_Mo_order_140 : decode b_Mo_order 140 = .ok (.iconst 2, 1) := by decide +kernel
theorem d_Mo_order_141 : decode b_Mo_order 141 = .ok (.ireturn, 1) := by decide +kernel
theorem d_Mo_order_142 : decode b_Mo_order 142 = .ok (.aload_n 0, 1) := by decide +kernel
theorem d_Mo_order_143 : decode b_Mo_order 143 = .ok (.getfield 29, 3) := by decide +kernel
theorem d_Mo_order_146 : decode b_Mo_order 146 = .ok (.iload_n 2, 1) := by decide +kernel
theorem d_Mo_order_147 : decode b_Mo_order 147 = .ok (.iload_n 3, 1) := by decide +kernel
theorem d_Mo_order_148 : decode b_Mo_order 148 = .ok (.iastore, 1) := by decide +kernel
theorem d_Mo_order_149 : decode b_Mo_order 149 = .ok (.aload_n 0, 1) := by decide +kernel
theorem d_Mo_order_150 : decode b_Mo_order 150 = .ok (.getfield 32, 3) := by decide +kernel
theorem d_Mo_order_153 : decode b_Mo_order 153 = .ok (.iload_n 2, 1) := by decide +kernel
theorem d_Mo_order_154 : decode b_Mo_order 154 = .ok (.iload_n 3, 1) := by decide +kernel
theorem d_Mo_order_155 : decode b_Mo_order 155 = .ok (.ifCond .le 8, 3) := by decide +kernel
theorem d_Mo_order_158 : decode b_Mo_order 158 = .ok (.iload 4, 2) := by decide +kernel
theorem d_Mo_order_160 : decode b_Mo_order 160 = .ok (.goto 4, 3) := by decide +kernel
theorem d_Mo_order_163 : decode b_Mo_order 163 = .ok (.iconst 0, 1) := by decide +kernel
theorem d_Mo_order_164 : decode b_Mo_order 164 = .ok (.iastore, 1) := by decide +kernel
theorem d_Mo_order_165 : decode b_Mo_order 165 = .ok (.aload_n 0, 1) := by decide +kernel
theorem d_Mo_order_166 : decode b_Mo_order 166 = .ok (.getfield 35, 3) := by decide +kernel
theorem d_Mo_order_169 : decode b_Mo_order 169 = .ok (.iload_n 2, 1) := by decide +kernel
theorem d_Mo_order_170 : decode b_Mo_order 170 = .ok (.iload_n 3, 1) := by decide +kernel
theorem d_Mo_order_171 : decode b_Mo_order 171 = .ok (.iconst 1, 1) := by decide +kernel
theorem d_Mo_order_172 : decode b_Mo_order 172 = .ok (.if_icmp .le 8, 3) := by decide +kernel
theorem d_Mo_order_175 : decode b_Mo_order 175 = .ok (.iload 5, 2) := by decide +kernel
theorem d_Mo_order_177 : decode b_Mo_order 177 = .ok (.goto 4, 3) := by decide +kernel
theorem d_Mo_order_180 : decode b_Mo_order 180 = .ok (.iconst 0, 1) := by decide +kernel
theorem d_Mo_order_181 : decode b_Mo_order 181 = .ok (.iastore, 1) := by decide +kernel
theorem d_Mo_order_182 : decode b_Mo_order 182 = .ok (.iconst 0, 1) := by decide +kernel
theorem d_Mo_order_183 : decode b_Mo_order 183 = .ok (.ireturn, 1) := by decide +kernel

set_option maxHeartbeats 4000000 in
set_option maxRecDepth 100000 in
theorem c_Mo_order_0 (l : Launch) (D : va_G) (cI cZ cJ cS : ClassId) (aT : Nat) (ceT : Cell) (sz : Nat) (g0 m_sea m_center m_home m_borders m_owner m_units m_kind m_toX m_toY m_results m_known m_reached m_way m_aside m_origin m_retreats m_contested m_moved m_past : Nat) (co mp mt msh : Int32) (pl a k x y : Int32)  : Met l y_Mo_order w_Mo_order ({ frames := 1, cells := 0, slots := 0, locals := 21 }) (tH D cI cZ cJ cS aT ceT [.ref g0, .int pl, .int a, .int k, .int x, .int y] sz [(g0, .inr (6, [.int co, .int 0, .ref m_sea, .ref m_center, .ref m_home, .ref m_borders, .int mp, .int mt, .ref m_owner, .ref m_units, .ref m_kind, .ref m_toX, .ref m_toY, .ref m_results, .ref m_known, .ref m_reached, .ref m_way, .ref m_aside, .ref m_origin, .ref m_retreats, .ref m_contested, .ref m_moved, .int msh, .ref m_past]))]) (va_Qi (fun (r : Int32) (_ : Unit) => r = 0) (fun _ t => tB D (va_A [(g0, .inr (6, [.int co, .int 0, .ref m_sea, .ref m_center, .ref m_home, .ref m_borders, .int mp, .int mt, .ref m_owner, .ref m_units, .ref m_kind, .ref m_toX, .ref m_toY, .ref m_results, .ref m_known, .ref m_reached, .ref m_way, .ref m_aside, .ref m_origin, .ref m_retreats, .ref m_contested, .ref m_moved, .int msh, .ref m_past]))] sz) [(g0, .inr (6, [.int 1, .int 0, .ref m_sea, .ref m_center, .ref m_home, .ref m_borders, .int mp, .int mt, .ref m_owner, .ref m_units, .ref m_kind, .ref m_toX, .ref m_toY, .ref m_results, .ref m_known, .ref m_reached, .ref m_way, .ref m_aside, .ref m_origin, .ref m_retreats, .ref m_contested, .ref m_moved, .int msh, .ref m_past]))] t) (va_A [(g0, .inr (6, [.int co, .int 0, .ref m_sea, .ref m_center, .ref m_home, .ref m_borders, .int mp, .int mt, .ref m_owner, .ref m_units, .ref m_kind, .ref m_toX, .ref m_toY, .ref m_results, .ref m_known, .ref m_reached, .ref m_way, .ref m_aside, .ref m_origin, .ref m_retreats, .ref m_contested, .ref m_moved, .int msh, .ref m_past]))] sz)) 0 0 (va_A [(g0, .inr (6, [.int co, .int 0, .ref m_sea, .ref m_center, .ref m_home, .ref m_borders, .int mp, .int mt, .ref m_owner, .ref m_units, .ref m_kind, .ref m_toX, .ref m_toY, .ref m_results, .ref m_known, .ref m_reached, .ref m_way, .ref m_aside, .ref m_origin, .ref m_retreats, .ref m_contested, .ref m_moved, .int msh, .ref m_past]))] sz) := by
  refine Met.ofW (cc := b_Mo_order) (maxL := 7) (ret := (some .int)) (by decide) rfl ?_
  intro p e s m args below meth c s₁ B hml hv
  obtain ⟨rfl, hsz, hP, hK, hD0, hX⟩ := hv
  have hx := B.exec
  have hb := B.bytes
  have hr := B.returns
  have hts0 := atoms_spec (ws := w_Mo_order) B.pre
  have hts : ∀ w ∈ TB, w.before _ s = true := fun w h => hts0 w (List.mem_cons_of_mem _ h)
  have hown : s.vm.findClass R_Mo = some m.cls := findClass_of_methodNamed B.named
  have hlocks := B.notSynchronized
  subst hsz
  have hXl := tx_lt hX
  have hXn := tx_far hP hX
  have hD := hD0.self (sz := s.heap.size)
  generalize hAe : va_A [(g0, .inr (6, [.int co, .int 0, .ref m_sea, .ref m_center, .ref m_home, .ref m_borders, .int mp, .int mt, .ref m_owner, .ref m_units, .ref m_kind, .ref m_toX, .ref m_toY, .ref m_results, .ref m_known, .ref m_reached, .ref m_way, .ref m_aside, .ref m_origin, .ref m_retreats, .ref m_contested, .ref m_moved, .int msh, .ref m_past]))] s.heap.size = A at hD hXn ⊢
  have hA : ∀ q : Nat, s.heap.size ≤ q → A q := fun q h => by rw [← hAe]; exact Or.inr h
  have hS : va_S A s.heap s.heap [] := va_S.rf
  have hXH : s.heap[aT]? = s.heap[aT]? := rfl
  have hl := lv_entry ([.ref g0, .int pl, .int a, .int k, .int x, .int y]) (n := 7) (Nat.le_of_ble_eq_true rfl)
  rw [lg_entry_eq]
  generalize (lg_sl ([.ref g0, .int pl, .int a, .int k, .int x, .int y]) ++ List.replicate (7 - (lg_sl ([.ref g0, .int pl, .int a, .int k, .int x, .int y])).length) Slot.unset).toArray = ls at hl ⊢
  have hl : lv_has ls 7 [(0, .ref g0), (1, .int pl), (2, .int a), (3, .int k), (4, .int x), (5, .int y)] := hl
  refine lv_iload_n hx hb d_Mo_order_0 rfl (lv_at hl 3 rfl) ?_
  refine lv_iconst (v := 1) hx hb d_Mo_order_1 (by decide) ?_
  refine lv_icmp_lt (tgt := 19) hx hb d_Mo_order_2 (by decide) (fun hc1 => ?_) (fun hc1 => ?_)
  · -- 2 taken
    refine lv_iload_n hx hb d_Mo_order_19 rfl (lv_at hl 3 rfl) ?_
    refine lv_iconst (v := 2) hx hb d_Mo_order_20 (by decide) ?_
    refine lv_icmp_lt (tgt := 38) hx hb d_Mo_order_21 (by decide) (fun hc2 => ?_) (fun hc2 => ?_)
    · -- 21 taken
      refine lv_iconst (v := 1) hx hb d_Mo_order_38 (by decide) ?_
      refine lv_goto (tgt := 43) hx hb d_Mo_order_39 (by decide) ?_
      refine lv_istore (lv' := [(6, .int 1), (0, .ref g0), (1, .int pl), (2, .int a), (3, .int k), (4, .int x), (5, .int y)]) hx hb d_Mo_order_43 hl (by decide) rfl (fun ls hl => ?_)
      refine lv_aload_n hx hb d_Mo_order_45 rfl (lv_at hl 1 rfl) ?_
      refine lv_iload_n hx hb d_Mo_order_46 rfl (lv_at hl 2 rfl) ?_
      have hPc := hP.sub (ws' := []) [] rfl
      refine vp_callSi (va_Run.run (va_runS (As := [.int pl]) (rest := [.ref g0]) ⟨hx, hb, hml, hown, hts⟩ (c_Mo_isPlayer l D cI cZ cJ cS aT ceT  pl ) (va_cwS 1 hts (tb_3 wd_802 wd_803 wd_8 (tb_c wd_804)) rfl rfl rfl ⟨by decide, by decide, by decide +kernel⟩ ⟨Nat.le_of_ble_eq_true rfl, Nat.le_of_ble_eq_true rfl⟩) (tP_S hK hX (hS.2.1 aT hXl hXn) hPc) rfl rfl hl.1 rfl (lv_room (Nat.le_of_ble_eq_true rfl)) d_Mo_order_47 ⟨Nat.le_of_ble_eq_true rfl, Nat.le_of_ble_eq_true rfl⟩)) (fun r3 hr9 => ?_)
      rcases hr9 with ⟨rfl, hq4⟩ | ⟨rfl, hq4⟩
      · -- 47: true
        refine lv_if_eq (tgt := 75) hx hb d_Mo_order_50 (by decide) (fun h0 => absurd h0 (by decide)) (fun _ => ?_)
        refine lv_aload_n hx hb d_Mo_order_53 rfl (lv_at hl 1 rfl) ?_
        refine lv_iload_n hx hb d_Mo_order_54 rfl (lv_at hl 3 rfl) ?_
        have hPc := hP.sub (ws' := [(g0, .inr (6, [.int co, .int 0, .ref m_sea, .ref m_center, .ref m_home, .ref m_borders, .int mp, .int mt, .ref m_owner, .ref m_units, .ref m_kind, .ref m_toX, .ref m_toY, .ref m_results, .ref m_known, .ref m_reached, .ref m_way, .ref m_aside, .ref m_origin, .ref m_retreats, .ref m_contested, .ref m_moved, .int msh, .ref m_past]))]) [0] rfl
        refine vp_callSi (va_Run.run (va_runV (As := [.int a]) (rest := [.ref g0]) ⟨hx, hb, hml, hown, hts⟩ (c_Mo_isArea l D cI cZ cJ cS aT ceT  g0 m_sea m_center m_home m_borders m_owner m_units m_kind m_toX m_toY m_results m_known m_reached m_way m_aside m_origin m_retreats m_contested m_moved m_past co 0 mp mt msh a ) (cwV 1 hts (tb_4 wd_790 wd_792 wp_36 wd_8 (tb_c wd_793)) rfl rfl rfl ⟨rfl, by decide, by decide, by decide +kernel⟩ ⟨Nat.le_of_ble_eq_true rfl, Nat.le_of_ble_eq_true rfl⟩) (tP_V hK hX (hS.2.1 aT hXl hXn) hPc (q := 0) rfl rfl) rfl rfl hl.1 rfl (lv_room (Nat.le_of_ble_eq_true rfl)) d_Mo_order_55 ⟨Nat.le_of_ble_eq_true rfl, Nat.le_of_ble_eq_true rfl⟩)) (fun r6 hr9 => ?_)
        rcases hr9 with ⟨rfl, hq7⟩ | ⟨rfl, hq7⟩
        · exact absurd hq7 tn_no
        · -- 55: false
          refine lv_if_eq (tgt := 75) hx hb d_Mo_order_58 (by decide) (fun _ => ?_) (fun h0 => absurd (by decide) h0)
          refine lv_iconst (v := 1) hx hb d_Mo_order_75 (by decide) ?_
          refine lv_goto (tgt := 92) hx hb d_Mo_order_76 (by decide) ?_
          refine va_put (D := D) (ci := 6) (v := .int 1) (ty := .int) (C := R_Mo) (T := T_Mo) (N := 24) hx hb hts hin_Mo ty_Mo tyok_Mo nm_Mo hown hK hP hD hS 0 rfl rfl 0 (by decide) (hts _ wd_704) (fun _ h9 => h9) rfl (by decide +kernel) rfl rfl (Nat.le_of_ble_eq_true rfl) d_Mo_order_92 (fun H locs hP hD hS => ?_)
          have hP : va_P D vwCl [(g0, .inr (6, [.int 1, .int 0, .ref m_sea, .ref m_center, .ref m_home, .ref m_borders, .int mp, .int mt, .ref m_owner, .ref m_units, .ref m_kind, .ref m_toX, .ref m_toY, .ref m_results, .ref m_known, .ref m_reached, .ref m_way, .ref m_aside, .ref m_origin, .ref m_retreats, .ref m_contested, .ref m_moved, .int msh, .ref m_past]))] H := hP
          have hD : va_D A [(g0, .inr (6, [.int 1, .int 0, .ref m_sea, .ref m_center, .ref m_home, .ref m_borders, .int mp, .int mt, .ref m_owner, .ref m_units, .ref m_kind, .ref m_toX, .ref m_toY, .ref m_results, .ref m_known, .ref m_reached, .ref m_way, .ref m_aside, .ref m_origin, .ref m_retreats, .ref m_contested, .ref m_moved, .int msh, .ref m_past]))] := hD
          refine lv_aload_n hx hb d_Mo_order_95 rfl (lv_at hl 1 rfl) ?_
          refine va_get (D := D) (ci := 6) (v := .int 1) (C := R_Mo) (T := T_Mo) (N := 24) hx hb hts hin_Mo hown hK hP 0 rfl rfl 0 (by decide) (hts _ wd_704) (fun _ h9 => h9) rfl d_Mo_order_96 ?_
          refine lv_if_eq (tgt := 104) hx hb d_Mo_order_99 (by decide) (fun h0 => absurd h0 (by decide)) (fun _ => ?_)
          refine lv_iconst (v := 0) hx hb d_Mo_order_102 (by decide) ?_
          have hP9 := hP.sub (ws' := [(g0, .inr (6, [.int 1, .int 0, .ref m_sea, .ref m_center, .ref m_home, .ref m_borders, .int mp, .int mt, .ref m_owner, .ref m_units, .ref m_kind, .ref m_toX, .ref m_toY, .ref m_results, .ref m_known, .ref m_reached, .ref m_way, .ref m_aside, .ref m_origin, .ref m_retreats, .ref m_contested, .ref m_moved, .int msh, .ref m_past]))]) [0] rfl
          have hD9 := hD.sub (ws' := [(g0, .inr (6, [.int 1, .int 0, .ref m_sea, .ref m_center, .ref m_home, .ref m_borders, .int mp, .int mt, .ref m_owner, .ref m_units, .ref m_kind, .ref m_toX, .ref m_toY, .ref m_results, .ref m_known, .ref m_reached, .ref m_way, .ref m_aside, .ref m_origin, .ref m_retreats, .ref m_contested, .ref m_moved, .int msh, .ref m_past]))]) [0] (by decide) rfl
          exact W.iret (v := 0) hx hb hr (fun t ht hW => ⟨⟨0, (), rfl, rfl, by rw [ht]; exact hP9, hD9⟩, hS.F ht⟩) hS.2.2 d_Mo_order_103
      · -- 47: false
        refine lv_if_eq (tgt := 75) hx hb d_Mo_order_50 (by decide) (fun _ => ?_) (fun h0 => absurd (by decide) h0)
        refine lv_iconst (v := 1) hx hb d_Mo_order_75 (by decide) ?_
        refine lv_goto (tgt := 92) hx hb d_Mo_order_76 (by decide) ?_
        refine va_put (D := D) (ci := 6) (v := .int 1) (ty := .int) (C := R_Mo) (T := T_Mo) (N := 24) hx hb hts hin_Mo ty_Mo tyok_Mo nm_Mo hown hK hP hD hS 0 rfl rfl 0 (by decide) (hts _ wd_704) (fun _ h9 => h9) rfl (by decide +kernel) rfl rfl (Nat.le_of_ble_eq_true rfl) d_Mo_order_92 (fun H locs hP hD hS => ?_)
        have hP : va_P D vwCl [(g0, .inr (6, [.int 1, .int 0, .ref m_sea, .ref m_center, .ref m_home, .ref m_borders, .int mp, .int mt, .ref m_owner, .ref m_units, .ref m_kind, .ref m_toX, .ref m_toY, .ref m_results, .ref m_known, .ref m_reached, .ref m_way, .ref m_aside, .ref m_origin, .ref m_retreats, .ref m_contested, .ref m_moved, .int msh, .ref m_past]))] H := hP
        have hD : va_D A [(g0, .inr (6, [.int 1, .int 0, .ref m_sea, .ref m_center, .ref m_home, .ref m_borders, .int mp, .int mt, .ref m_owner, .ref m_units, .ref m_kind, .ref m_toX, .ref m_toY, .ref m_results, .ref m_known, .ref m_reached, .ref m_way, .ref m_aside, .ref m_origin, .ref m_retreats, .ref m_contested, .ref m_moved, .int msh, .ref m_past]))] := hD
        refine lv_aload_n hx hb d_Mo_order_95 rfl (lv_at hl 1 rfl) ?_
        refine va_get (D := D) (ci := 6) (v := .int 1) (C := R_Mo) (T := T_Mo) (N := 24) hx hb hts hin_Mo hown hK hP 0 rfl rfl 0 (by decide) (hts _ wd_704) (fun _ h9 => h9) rfl d_Mo_order_96 ?_
        refine lv_if_eq (tgt := 104) hx hb d_Mo_order_99 (by decide) (fun h0 => absurd h0 (by decide)) (fun _ => ?_)
        refine lv_iconst (v := 0) hx hb d_Mo_order_102 (by decide) ?_
        have hP9 := hP.sub (ws' := [(g0, .inr (6, [.int 1, .int 0, .ref m_sea, .ref m_center, .ref m_home, .ref m_borders, .int mp, .int mt, .ref m_owner, .ref m_units, .ref m_kind, .ref m_toX, .ref m_toY, .ref m_results, .ref m_known, .ref m_reached, .ref m_way, .ref m_aside, .ref m_origin, .ref m_retreats, .ref m_contested, .ref m_moved, .int msh, .ref m_past]))]) [0] rfl
        have hD9 := hD.sub (ws' := [(g0, .inr (6, [.int 1, .int 0, .ref m_sea, .ref m_center, .ref m_home, .ref m_borders, .int mp, .int mt, .ref m_owner, .ref m_units, .ref m_kind, .ref m_toX, .ref m_toY, .ref m_results, .ref m_known, .ref m_reached, .ref m_way, .ref m_aside, .ref m_origin, .ref m_retreats, .ref m_contested, .ref m_moved, .int msh, .ref m_past]))]) [0] (by decide) rfl
        exact W.iret (v := 0) hx hb hr (fun t ht hW => ⟨⟨0, (), rfl, rfl, by rw [ht]; exact hP9, hD9⟩, hS.F ht⟩) hS.2.2 d_Mo_order_103
    · -- 21 not taken
      refine lv_iload_n hx hb d_Mo_order_24 rfl (lv_at hl 3 rfl) ?_
      refine lv_iconst (v := 3) hx hb d_Mo_order_25 (by decide) ?_
      refine lv_icmp_gt (tgt := 38) hx hb d_Mo_order_26 (by decide) (fun hc12 => ?_) (fun hc12 => ?_)
      · -- 26 taken
        refine lv_iconst (v := 1) hx hb d_Mo_order_38 (by decide) ?_
        refine lv_goto (tgt := 43) hx hb d_Mo_order_39 (by decide) ?_
        refine lv_istore (lv' := [(6, .int 1), (0, .ref g0), (1, .int pl), (2, .int a), (3, .int k), (4, .int x), (5, .int y)]) hx hb d_Mo_order_43 hl (by decide) rfl (fun ls hl => ?_)
        refine lv_aload_n hx hb d_Mo_order_45 rfl (lv_at hl 1 rfl) ?_
        refine lv_iload_n hx hb d_Mo_order_46 rfl (lv_at hl 2 rfl) ?_
        have hPc := hP.sub (ws' := []) [] rfl
        refine vp_callSi (va_Run.run (va_runS (As := [.int pl]) (rest := [.ref g0]) ⟨hx, hb, hml, hown, hts⟩ (c_Mo_isPlayer l D cI cZ cJ cS aT ceT  pl ) (va_cwS 1 hts (tb_3 wd_802 wd_803 wd_8 (tb_c wd_804)) rfl rfl rfl ⟨by decide, by decide, by decide +kernel⟩ ⟨Nat.le_of_ble_eq_true rfl, Nat.le_of_ble_eq_true rfl⟩) (tP_S hK hX (hS.2.1 aT hXl hXn) hPc) rfl rfl hl.1 rfl (lv_room (Nat.le_of_ble_eq_true rfl)) d_Mo_order_47 ⟨Nat.le_of_ble_eq_true rfl, Nat.le_of_ble_eq_true rfl⟩)) (fun r13 hr9 => ?_)
        rcases hr9 with ⟨rfl, hq14⟩ | ⟨rfl, hq14⟩
        · -- 47: true
          refine lv_if_eq (tgt := 75) hx hb d_Mo_order_50 (by decide) (fun h0 => absurd h0 (by decide)) (fun _ => ?_)
          refine lv_aload_n hx hb d_Mo_order_53 rfl (lv_at hl 1 rfl) ?_
          refine lv_iload_n hx hb d_Mo_order_54 rfl (lv_at hl 3 rfl) ?_
          have hPc := hP.sub (ws' := [(g0, .inr (6, [.int co, .int 0, .ref m_sea, .ref m_center, .ref m_home, .ref m_borders, .int mp, .int mt, .ref m_owner, .ref m_units, .ref m_kind, .ref m_toX, .ref m_toY, .ref m_results, .ref m_known, .ref m_reached, .ref m_way, .ref m_aside, .ref m_origin, .ref m_retreats, .ref m_contested, .ref m_moved, .int msh, .ref m_past]))]) [0] rfl
          refine vp_callSi (va_Run.run (va_runV (As := [.int a]) (rest := [.ref g0]) ⟨hx, hb, hml, hown, hts⟩ (c_Mo_isArea l D cI cZ cJ cS aT ceT  g0 m_sea m_center m_home m_borders m_owner m_units m_kind m_toX m_toY m_results m_known m_reached m_way m_aside m_origin m_retreats m_contested m_moved m_past co 0 mp mt msh a ) (cwV 1 hts (tb_4 wd_790 wd_792 wp_36 wd_8 (tb_c wd_793)) rfl rfl rfl ⟨rfl, by decide, by decide, by decide +kernel⟩ ⟨Nat.le_of_ble_eq_true rfl, Nat.le_of_ble_eq_true rfl⟩) (tP_V hK hX (hS.2.1 aT hXl hXn) hPc (q := 0) rfl rfl) rfl rfl hl.1 rfl (lv_room (Nat.le_of_ble_eq_true rfl)) d_Mo_order_55 ⟨Nat.le_of_ble_eq_true rfl, Nat.le_of_ble_eq_true rfl⟩)) (fun r16 hr9 => ?_)
          rcases hr9 with ⟨rfl, hq17⟩ | ⟨rfl, hq17⟩
          · exact absurd hq17 tn_no
          · -- 55: false
            refine lv_if_eq (tgt := 75) hx hb d_Mo_order_58 (by decide) (fun _ => ?_) (fun h0 => absurd (by decide) h0)
            refine lv_iconst (v := 1) hx hb d_Mo_order_75 (by decide) ?_
            refine lv_goto (tgt := 92) hx hb d_Mo_order_76 (by decide) ?_
            refine va_put (D := D) (ci := 6) (v := .int 1) (ty := .int) (C := R_Mo) (T := T_Mo) (N := 24) hx hb hts hin_Mo ty_Mo tyok_Mo nm_Mo hown hK hP hD hS 0 rfl rfl 0 (by decide) (hts _ wd_704) (fun _ h9 => h9) rfl (by decide +kernel) rfl rfl (Nat.le_of_ble_eq_true rfl) d_Mo_order_92 (fun H locs hP hD hS => ?_)
            have hP : va_P D vwCl [(g0, .inr (6, [.int 1, .int 0, .ref m_sea, .ref m_center, .ref m_home, .ref m_borders, .int mp, .int mt, .ref m_owner, .ref m_units, .ref m_kind, .ref m_toX, .ref m_toY, .ref m_results, .ref m_known, .ref m_reached, .ref m_way, .ref m_aside, .ref m_origin, .ref m_retreats, .ref m_contested, .ref m_moved, .int msh, .ref m_past]))] H := hP
            have hD : va_D A [(g0, .inr (6, [.int 1, .int 0, .ref m_sea, .ref m_center, .ref m_home, .ref m_borders, .int mp, .int mt, .ref m_owner, .ref m_units, .ref m_kind, .ref m_toX, .ref m_toY, .ref m_results, .ref m_known, .ref m_reached, .ref m_way, .ref m_aside, .ref m_origin, .ref m_retreats, .ref m_contested, .ref m_moved, .int msh, .ref m_past]))] := hD
            refine lv_aload_n hx hb d_Mo_order_95 rfl (lv_at hl 1 rfl) ?_
            refine va_get (D := D) (ci := 6) (v := .int 1) (C := R_Mo) (T := T_Mo) (N := 24) hx hb hts hin_Mo hown hK hP 0 rfl rfl 0 (by decide) (hts _ wd_704) (fun _ h9 => h9) rfl d_Mo_order_96 ?_
            refine lv_if_eq (tgt := 104) hx hb d_Mo_order_99 (by decide) (fun h0 => absurd h0 (by decide)) (fun _ => ?_)
            refine lv_iconst (v := 0) hx hb d_Mo_order_102 (by decide) ?_
            have hP9 := hP.sub (ws' := [(g0, .inr (6, [.int 1, .int 0, .ref m_sea, .ref m_center, .ref m_home, .ref m_borders, .int mp, .int mt, .ref m_owner, .ref m_units, .ref m_kind, .ref m_toX, .ref m_toY, .ref m_results, .ref m_known, .ref m_reached, .ref m_way, .ref m_aside, .ref m_origin, .ref m_retreats, .ref m_contested, .ref m_moved, .int msh, .ref m_past]))]) [0] rfl
            have hD9 := hD.sub (ws' := [(g0, .inr (6, [.int 1, .int 0, .ref m_sea, .ref m_center, .ref m_home, .ref m_borders, .int mp, .int mt, .ref m_owner, .ref m_units, .ref m_kind, .ref m_toX, .ref m_toY, .ref m_results, .ref m_known, .ref m_reached, .ref m_way, .ref m_aside, .ref m_origin, .ref m_retreats, .ref m_contested, .ref m_moved, .int msh, .ref m_past]))]) [0] (by decide) rfl
            exact W.iret (v := 0) hx hb hr (fun t ht hW => ⟨⟨0, (), rfl, rfl, by rw [ht]; exact hP9, hD9⟩, hS.F ht⟩) hS.2.2 d_Mo_order_103
        · -- 47: false
          refine lv_if_eq (tgt := 75) hx hb d_Mo_order_50 (by decide) (fun _ => ?_) (fun h0 => absurd (by decide) h0)
          refine lv_iconst (v := 1) hx hb d_Mo_order_75 (by decide) ?_
          refine lv_goto (tgt := 92) hx hb d_Mo_order_76 (by decide) ?_
          refine va_put (D := D) (ci := 6) (v := .int 1) (ty := .int) (C := R_Mo) (T := T_Mo) (N := 24) hx hb hts hin_Mo ty_Mo tyok_Mo nm_Mo hown hK hP hD hS 0 rfl rfl 0 (by decide) (hts _ wd_704) (fun _ h9 => h9) rfl (by decide +kernel) rfl rfl (Nat.le_of_ble_eq_true rfl) d_Mo_order_92 (fun H locs hP hD hS => ?_)
          have hP : va_P D vwCl [(g0, .inr (6, [.int 1, .int 0, .ref m_sea, .ref m_center, .ref m_home, .ref m_borders, .int mp, .int mt, .ref m_owner, .ref m_units, .ref m_kind, .ref m_toX, .ref m_toY, .ref m_results, .ref m_known, .ref m_reached, .ref m_way, .ref m_aside, .ref m_origin, .ref m_retreats, .ref m_contested, .ref m_moved, .int msh, .ref m_past]))] H := hP
          have hD : va_D A [(g0, .inr (6, [.int 1, .int 0, .ref m_sea, .ref m_center, .ref m_home, .ref m_borders, .int mp, .int mt, .ref m_owner, .ref m_units, .ref m_kind, .ref m_toX, .ref m_toY, .ref m_results, .ref m_known, .ref m_reached, .ref m_way, .ref m_aside, .ref m_origin, .ref m_retreats, .ref m_contested, .ref m_moved, .int msh, .ref m_past]))] := hD
          refine lv_aload_n hx hb d_Mo_order_95 rfl (lv_at hl 1 rfl) ?_
          refine va_get (D := D) (ci := 6) (v := .int 1) (C := R_Mo) (T := T_Mo) (N := 24) hx hb hts hin_Mo hown hK hP 0 rfl rfl 0 (by decide) (hts _ wd_704) (fun _ h9 => h9) rfl d_Mo_order_96 ?_
          refine lv_if_eq (tgt := 104) hx hb d_Mo_order_99 (by decide) (fun h0 => absurd h0 (by decide)) (fun _ => ?_)
          refine lv_iconst (v := 0) hx hb d_Mo_order_102 (by decide) ?_
          have hP9 := hP.sub (ws' := [(g0, .inr (6, [.int 1, .int 0, .ref m_sea, .ref m_center, .ref m_home, .ref m_borders, .int mp, .int mt, .ref m_owner, .ref m_units, .ref m_kind, .ref m_toX, .ref m_toY, .ref m_results, .ref m_known, .ref m_reached, .ref m_way, .ref m_aside, .ref m_origin, .ref m_retreats, .ref m_contested, .ref m_moved, .int msh, .ref m_past]))]) [0] rfl
          have hD9 := hD.sub (ws' := [(g0, .inr (6, [.int 1, .int 0, .ref m_sea, .ref m_center, .ref m_home, .ref m_borders, .int mp, .int mt, .ref m_owner, .ref m_units, .ref m_kind, .ref m_toX, .ref m_toY, .ref m_results, .ref m_known, .ref m_reached, .ref m_way, .ref m_aside, .ref m_origin, .ref m_retreats, .ref m_contested, .ref m_moved, .int msh, .ref m_past]))]) [0] (by decide) rfl
          exact W.iret (v := 0) hx hb hr (fun t ht hW => ⟨⟨0, (), rfl, rfl, by rw [ht]; exact hP9, hD9⟩, hS.F ht⟩) hS.2.2 d_Mo_order_103
      · -- 26 not taken
        refine lv_aload_n hx hb d_Mo_order_29 rfl (lv_at hl 0 rfl) ?_
        refine lv_iload hx hb d_Mo_order_30 (lv_at hl 5 rfl) ?_
        have hPc := hP.sub (ws' := [(g0, .inr (6, [.int co, .int 0, .ref m_sea, .ref m_center, .ref m_home, .ref m_borders, .int mp, .int mt, .ref m_owner, .ref m_units, .ref m_kind, .ref m_toX, .ref m_toY, .ref m_results, .ref m_known, .ref m_reached, .ref m_way, .ref m_aside, .ref m_origin, .ref m_retreats, .ref m_contested, .ref m_moved, .int msh, .ref m_past]))]) [0] rfl
        refine vp_callSi (va_Run.run (va_runV (As := [.int y]) (rest := []) ⟨hx, hb, hml, hown, hts⟩ (c_Mo_isArea l D cI cZ cJ cS aT ceT  g0 m_sea m_center m_home m_borders m_owner m_units m_kind m_toX m_toY m_results m_known m_reached m_way m_aside m_origin m_retreats m_contested m_moved m_past co 0 mp mt msh y ) (cwV 1 hts (tb_4 wd_790 wd_792 wp_36 wd_8 (tb_c wd_793)) rfl rfl rfl ⟨rfl, by decide, by decide, by decide +kernel⟩ ⟨Nat.le_of_ble_eq_true rfl, Nat.le_of_ble_eq_true rfl⟩) (tP_V hK hX (hS.2.1 aT hXl hXn) hPc (q := 0) rfl rfl) rfl rfl hl.1 rfl (lv_room (Nat.le_of_ble_eq_true rfl)) d_Mo_order_32 ⟨Nat.le_of_ble_eq_true rfl, Nat.le_of_ble_eq_true rfl⟩)) (fun r22 hr9 => ?_)
        rcases hr9 with ⟨rfl, hq23⟩ | ⟨rfl, hq23⟩
        · exact absurd hq23 tn_no
        · -- 32: false
          refine lv_if_eq (tgt := 42) hx hb d_Mo_order_35 (by decide) (fun _ => ?_) (fun h0 => absurd (by decide) h0)
          refine lv_iconst (v := 0) hx hb d_Mo_order_42 (by decide) ?_
          refine lv_istore (lv' := [(6, .int 0), (0, .ref g0), (1, .int pl), (2, .int a), (3, .int k), (4, .int x), (5, .int y)]) hx hb d_Mo_order_43 hl (by decide) rfl (fun ls hl => ?_)
          refine lv_aload_n hx hb d_Mo_order_45 rfl (lv_at hl 1 rfl) ?_
          refine lv_iload_n hx hb d_Mo_order_46 rfl (lv_at hl 2 rfl) ?_
          have hPc := hP.sub (ws' := []) [] rfl
          refine vp_callSi (va_Run.run (va_runS (As := [.int pl]) (rest := [.ref g0]) ⟨hx, hb, hml, hown, hts⟩ (c_Mo_isPlayer l D cI cZ cJ cS aT ceT  pl ) (va_cwS 1 hts (tb_3 wd_802 wd_803 wd_8 (tb_c wd_804)) rfl rfl rfl ⟨by decide, by decide, by decide +kernel⟩ ⟨Nat.le_of_ble_eq_true rfl, Nat.le_of_ble_eq_true rfl⟩) (tP_S hK hX (hS.2.1 aT hXl hXn) hPc) rfl rfl hl.1 rfl (lv_room (Nat.le_of_ble_eq_true rfl)) d_Mo_order_47 ⟨Nat.le_of_ble_eq_true rfl, Nat.le_of_ble_eq_true rfl⟩)) (fun r25 hr9 => ?_)
          rcases hr9 with ⟨rfl, hq26⟩ | ⟨rfl, hq26⟩
          · -- 47: true
            refine lv_if_eq (tgt := 75) hx hb d_Mo_order_50 (by decide) (fun h0 => absurd h0 (by decide)) (fun _ => ?_)
            refine lv_aload_n hx hb d_Mo_order_53 rfl (lv_at hl 1 rfl) ?_
            refine lv_iload_n hx hb d_Mo_order_54 rfl (lv_at hl 3 rfl) ?_
            have hPc := hP.sub (ws' := [(g0, .inr (6, [.int co, .int 0, .ref m_sea, .ref m_center, .ref m_home, .ref m_borders, .int mp, .int mt, .ref m_owner, .ref m_units, .ref m_kind, .ref m_toX, .ref m_toY, .ref m_results, .ref m_known, .ref m_reached, .ref m_way, .ref m_aside, .ref m_origin, .ref m_retreats, .ref m_contested, .ref m_moved, .int msh, .ref m_past]))]) [0] rfl
            refine vp_callSi (va_Run.run (va_runV (As := [.int a]) (rest := [.ref g0]) ⟨hx, hb, hml, hown, hts⟩ (c_Mo_isArea l D cI cZ cJ cS aT ceT  g0 m_sea m_center m_home m_borders m_owner m_units m_kind m_toX m_toY m_results m_known m_reached m_way m_aside m_origin m_retreats m_contested m_moved m_past co 0 mp mt msh a ) (cwV 1 hts (tb_4 wd_790 wd_792 wp_36 wd_8 (tb_c wd_793)) rfl rfl rfl ⟨rfl, by decide, by decide, by decide +kernel⟩ ⟨Nat.le_of_ble_eq_true rfl, Nat.le_of_ble_eq_true rfl⟩) (tP_V hK hX (hS.2.1 aT hXl hXn) hPc (q := 0) rfl rfl) rfl rfl hl.1 rfl (lv_room (Nat.le_of_ble_eq_true rfl)) d_Mo_order_55 ⟨Nat.le_of_ble_eq_true rfl, Nat.le_of_ble_eq_true rfl⟩)) (fun r28 hr9 => ?_)
            rcases hr9 with ⟨rfl, hq29⟩ | ⟨rfl, hq29⟩
            · exact absurd hq29 tn_no
            · -- 55: false
              refine lv_if_eq (tgt := 75) hx hb d_Mo_order_58 (by decide) (fun _ => ?_) (fun h0 => absurd (by decide) h0)
              refine lv_iconst (v := 1) hx hb d_Mo_order_75 (by decide) ?_
              refine lv_goto (tgt := 92) hx hb d_Mo_order_76 (by decide) ?_
              refine va_put (D := D) (ci := 6) (v := .int 1) (ty := .int) (C := R_Mo) (T := T_Mo) (N := 24) hx hb hts hin_Mo ty_Mo tyok_Mo nm_Mo hown hK hP hD hS 0 rfl rfl 0 (by decide) (hts _ wd_704) (fun _ h9 => h9) rfl (by decide +kernel) rfl rfl (Nat.le_of_ble_eq_true rfl) d_Mo_order_92 (fun H locs hP hD hS => ?_)
              have hP : va_P D vwCl [(g0, .inr (6, [.int 1, .int 0, .ref m_sea, .ref m_center, .ref m_home, .ref m_borders, .int mp, .int mt, .ref m_owner, .ref m_units, .ref m_kind, .ref m_toX, .ref m_toY, .ref m_results, .ref m_known, .ref m_reached, .ref m_way, .ref m_aside, .ref m_origin, .ref m_retreats, .ref m_contested, .ref m_moved, .int msh, .ref m_past]))] H := hP
              have hD : va_D A [(g0, .inr (6, [.int 1, .int 0, .ref m_sea, .ref m_center, .ref m_home, .ref m_borders, .int mp, .int mt, .ref m_owner, .ref m_units, .ref m_kind, .ref m_toX, .ref m_toY, .ref m_results, .ref m_known, .ref m_reached, .ref m_way, .ref m_aside, .ref m_origin, .ref m_retreats, .ref m_contested, .ref m_moved, .int msh, .ref m_past]))] := hD
              refine lv_aload_n hx hb d_Mo_order_95 rfl (lv_at hl 1 rfl) ?_
              refine va_get (D := D) (ci := 6) (v := .int 1) (C := R_Mo) (T := T_Mo) (N := 24) hx hb hts hin_Mo hown hK hP 0 rfl rfl 0 (by decide) (hts _ wd_704) (fun _ h9 => h9) rfl d_Mo_order_96 ?_
              refine lv_if_eq (tgt := 104) hx hb d_Mo_order_99 (by decide) (fun h0 => absurd h0 (by decide)) (fun _ => ?_)
              refine lv_iconst (v := 0) hx hb d_Mo_order_102 (by decide) ?_
              have hP9 := hP.sub (ws' := [(g0, .inr (6, [.int 1, .int 0, .ref m_sea, .ref m_center, .ref m_home, .ref m_borders, .int mp, .int mt, .ref m_owner, .ref m_units, .ref m_kind, .ref m_toX, .ref m_toY, .ref m_results, .ref m_known, .ref m_reached, .ref m_way, .ref m_aside, .ref m_origin, .ref m_retreats, .ref m_contested, .ref m_moved, .int msh, .ref m_past]))]) [0] rfl
              have hD9 := hD.sub (ws' := [(g0, .inr (6, [.int 1, .int 0, .ref m_sea, .ref m_center, .ref m_home, .ref m_borders, .int mp, .int mt, .ref m_owner, .ref m_units, .ref m_kind, .ref m_toX, .ref m_toY, .ref m_results, .ref m_known, .ref m_reached, .ref m_way, .ref m_aside, .ref m_origin, .ref m_retreats, .ref m_contested, .ref m_moved, .int msh, .ref m_past]))]) [0] (by decide) rfl
              exact W.iret (v := 0) hx hb hr (fun t ht hW => ⟨⟨0, (), rfl, rfl, by rw [ht]; exact hP9, hD9⟩, hS.F ht⟩) hS.2.2 d_Mo_order_103
          · -- 47: false
            refine lv_if_eq (tgt := 75) hx hb d_Mo_order_50 (by decide) (fun _ => ?_) (fun h0 => absurd (by decide) h0)
            refine lv_iconst (v := 1) hx hb d_Mo_order_75 (by decide) ?_
            refine lv_goto (tgt := 92) hx hb d_Mo_order_76 (by decide) ?_
            refine va_put (D := D) (ci := 6) (v := .int 1) (ty := .int) (C := R_Mo) (T := T_Mo) (N := 24) hx hb hts hin_Mo ty_Mo tyok_Mo nm_Mo hown hK hP hD hS 0 rfl rfl 0 (by decide) (hts _ wd_704) (fun _ h9 => h9) rfl (by decide +kernel) rfl rfl (Nat.le_of_ble_eq_true rfl) d_Mo_order_92 (fun H locs hP hD hS => ?_)
            have hP : va_P D vwCl [(g0, .inr (6, [.int 1, .int 0, .ref m_sea, .ref m_center, .ref m_home, .ref m_borders, .int mp, .int mt, .ref m_owner, .ref m_units, .ref m_kind, .ref m_toX, .ref m_toY, .ref m_results, .ref m_known, .ref m_reached, .ref m_way, .ref m_aside, .ref m_origin, .ref m_retreats, .ref m_contested, .ref m_moved, .int msh, .ref m_past]))] H := hP
            have hD : va_D A [(g0, .inr (6, [.int 1, .int 0, .ref m_sea, .ref m_center, .ref m_home, .ref m_borders, .int mp, .int mt, .ref m_owner, .ref m_units, .ref m_kind, .ref m_toX, .ref m_toY, .ref m_results, .ref m_known, .ref m_reached, .ref m_way, .ref m_aside, .ref m_origin, .ref m_retreats, .ref m_contested, .ref m_moved, .int msh, .ref m_past]))] := hD
            refine lv_aload_n hx hb d_Mo_order_95 rfl (lv_at hl 1 rfl) ?_
            refine va_get (D := D) (ci := 6) (v := .int 1) (C := R_Mo) (T := T_Mo) (N := 24) hx hb hts hin_Mo hown hK hP 0 rfl rfl 0 (by decide) (hts _ wd_704) (fun _ h9 => h9) rfl d_Mo_order_96 ?_
            refine lv_if_eq (tgt := 104) hx hb d_Mo_order_99 (by decide) (fun h0 => absurd h0 (by decide)) (fun _ => ?_)
            refine lv_iconst (v := 0) hx hb d_Mo_order_102 (by decide) ?_
            have hP9 := hP.sub (ws' := [(g0, .inr (6, [.int 1, .int 0, .ref m_sea, .ref m_center, .ref m_home, .ref m_borders, .int mp, .int mt, .ref m_owner, .ref m_units, .ref m_kind, .ref m_toX, .ref m_toY, .ref m_results, .ref m_known, .ref m_reached, .ref m_way, .ref m_aside, .ref m_origin, .ref m_retreats, .ref m_contested, .ref m_moved, .int msh, .ref m_past]))]) [0] rfl
            have hD9 := hD.sub (ws' := [(g0, .inr (6, [.int 1, .int 0, .ref m_sea, .ref m_center, .ref m_home, .ref m_borders, .int mp, .int mt, .ref m_owner, .ref m_units, .ref m_kind, .ref m_toX, .ref m_toY, .ref m_results, .ref m_known, .ref m_reached, .ref m_way, .ref m_aside, .ref m_origin, .ref m_retreats, .ref m_contested, .ref m_moved, .int msh, .ref m_past]))]) [0] (by decide) rfl
            exact W.iret (v := 0) hx hb hr (fun t ht hW => ⟨⟨0, (), rfl, rfl, by rw [ht]; exact hP9, hD9⟩, hS.F ht⟩) hS.2.2 d_Mo_order_103
  · -- 2 not taken
    refine lv_iload_n hx hb d_Mo_order_5 rfl (lv_at hl 3 rfl) ?_
    refine lv_iconst (v := 3) hx hb d_Mo_order_6 (by decide) ?_
    refine lv_icmp_gt (tgt := 19) hx hb d_Mo_order_7 (by decide) (fun hc34 => ?_) (fun hc34 => ?_)
    · -- 7 taken
      refine lv_iload_n hx hb d_Mo_order_19 rfl (lv_at hl 3 rfl) ?_
      refine lv_iconst (v := 2) hx hb d_Mo_order_20 (by decide) ?_
      refine lv_icmp_lt (tgt := 38) hx hb d_Mo_order_21 (by decide) (fun hc35 => ?_) (fun hc35 => ?_)
      · -- 21 taken
        refine lv_iconst (v := 1) hx hb d_Mo_order_38 (by decide) ?_
        refine lv_goto (tgt := 43) hx hb d_Mo_order_39 (by decide) ?_
        refine lv_istore (lv' := [(6, .int 1), (0, .ref g0), (1, .int pl), (2, .int a), (3, .int k), (4, .int x), (5, .int y)]) hx hb d_Mo_order_43 hl (by decide) rfl (fun ls hl => ?_)
        refine lv_aload_n hx hb d_Mo_order_45 rfl (lv_at hl 1 rfl) ?_
        refine lv_iload_n hx hb d_Mo_order_46 rfl (lv_at hl 2 rfl) ?_
        have hPc := hP.sub (ws' := []) [] rfl
        refine vp_callSi (va_Run.run (va_runS (As := [.int pl]) (rest := [.ref g0]) ⟨hx, hb, hml, hown, hts⟩ (c_Mo_isPlayer l D cI cZ cJ cS aT ceT  pl ) (va_cwS 1 hts (tb_3 wd_802 wd_803 wd_8 (tb_c wd_804)) rfl rfl rfl ⟨by decide, by decide, by decide +kernel⟩ ⟨Nat.le_of_ble_eq_true rfl, Nat.le_of_ble_eq_true rfl⟩) (tP_S hK hX (hS.2.1 aT hXl hXn) hPc) rfl rfl hl.1 rfl (lv_room (Nat.le_of_ble_eq_true rfl)) d_Mo_order_47 ⟨Nat.le_of_ble_eq_true rfl, Nat.le_of_ble_eq_true rfl⟩)) (fun r36 hr9 => ?_)
        rcases hr9 with ⟨rfl, hq37⟩ | ⟨rfl, hq37⟩
        · -- 47: true
          refine lv_if_eq (tgt := 75) hx hb d_Mo_order_50 (by decide) (fun h0 => absurd h0 (by decide)) (fun _ => ?_)
          refine lv_aload_n hx hb d_Mo_order_53 rfl (lv_at hl 1 rfl) ?_
          refine lv_iload_n hx hb d_Mo_order_54 rfl (lv_at hl 3 rfl) ?_
          have hPc := hP.sub (ws' := [(g0, .inr (6, [.int co, .int 0, .ref m_sea, .ref m_center, .ref m_home, .ref m_borders, .int mp, .int mt, .ref m_owner, .ref m_units, .ref m_kind, .ref m_toX, .ref m_toY, .ref m_results, .ref m_known, .ref m_reached, .ref m_way, .ref m_aside, .ref m_origin, .ref m_retreats, .ref m_contested, .ref m_moved, .int msh, .ref m_past]))]) [0] rfl
          refine vp_callSi (va_Run.run (va_runV (As := [.int a]) (rest := [.ref g0]) ⟨hx, hb, hml, hown, hts⟩ (c_Mo_isArea l D cI cZ cJ cS aT ceT  g0 m_sea m_center m_home m_borders m_owner m_units m_kind m_toX m_toY m_results m_known m_reached m_way m_aside m_origin m_retreats m_contested m_moved m_past co 0 mp mt msh a ) (cwV 1 hts (tb_4 wd_790 wd_792 wp_36 wd_8 (tb_c wd_793)) rfl rfl rfl ⟨rfl, by decide, by decide, by decide +kernel⟩ ⟨Nat.le_of_ble_eq_true rfl, Nat.le_of_ble_eq_true rfl⟩) (tP_V hK hX (hS.2.1 aT hXl hXn) hPc (q := 0) rfl rfl) rfl rfl hl.1 rfl (lv_room (Nat.le_of_ble_eq_true rfl)) d_Mo_order_55 ⟨Nat.le_of_ble_eq_true rfl, Nat.le_of_ble_eq_true rfl⟩)) (fun r39 hr9 => ?_)
          rcases hr9 with ⟨rfl, hq40⟩ | ⟨rfl, hq40⟩
          · exact absurd hq40 tn_no
          · -- 55: false
            refine lv_if_eq (tgt := 75) hx hb d_Mo_order_58 (by decide) (fun _ => ?_) (fun h0 => absurd (by decide) h0)
            refine lv_iconst (v := 1) hx hb d_Mo_order_75 (by decide) ?_
            refine lv_goto (tgt := 92) hx hb d_Mo_order_76 (by decide) ?_
            refine va_put (D := D) (ci := 6) (v := .int 1) (ty := .int) (C := R_Mo) (T := T_Mo) (N := 24) hx hb hts hin_Mo ty_Mo tyok_Mo nm_Mo hown hK hP hD hS 0 rfl rfl 0 (by decide) (hts _ wd_704) (fun _ h9 => h9) rfl (by decide +kernel) rfl rfl (Nat.le_of_ble_eq_true rfl) d_Mo_order_92 (fun H locs hP hD hS => ?_)
            have hP : va_P D vwCl [(g0, .inr (6, [.int 1, .int 0, .ref m_sea, .ref m_center, .ref m_home, .ref m_borders, .int mp, .int mt, .ref m_owner, .ref m_units, .ref m_kind, .ref m_toX, .ref m_toY, .ref m_results, .ref m_known, .ref m_reached, .ref m_way, .ref m_aside, .ref m_origin, .ref m_retreats, .ref m_contested, .ref m_moved, .int msh, .ref m_past]))] H := hP
            have hD : va_D A [(g0, .inr (6, [.int 1, .int 0, .ref m_sea, .ref m_center, .ref m_home, .ref m_borders, .int mp, .int mt, .ref m_owner, .ref m_units, .ref m_kind, .ref m_toX, .ref m_toY, .ref m_results, .ref m_known, .ref m_reached, .ref m_way, .ref m_aside, .ref m_origin, .ref m_retreats, .ref m_contested, .ref m_moved, .int msh, .ref m_past]))] := hD
            refine lv_aload_n hx hb d_Mo_order_95 rfl (lv_at hl 1 rfl) ?_
            refine va_get (D := D) (ci := 6) (v := .int 1) (C := R_Mo) (T := T_Mo) (N := 24) hx hb hts hin_Mo hown hK hP 0 rfl rfl 0 (by decide) (hts _ wd_704) (fun _ h9 => h9) rfl d_Mo_order_96 ?_
            refine lv_if_eq (tgt := 104) hx hb d_Mo_order_99 (by decide) (fun h0 => absurd h0 (by decide)) (fun _ => ?_)
            refine lv_iconst (v := 0) hx hb d_Mo_order_102 (by decide) ?_
            have hP9 := hP.sub (ws' := [(g0, .inr (6, [.int 1, .int 0, .ref m_sea, .ref m_center, .ref m_home, .ref m_borders, .int mp, .int mt, .ref m_owner, .ref m_units, .ref m_kind, .ref m_toX, .ref m_toY, .ref m_results, .ref m_known, .ref m_reached, .ref m_way, .ref m_aside, .ref m_origin, .ref m_retreats, .ref m_contested, .ref m_moved, .int msh, .ref m_past]))]) [0] rfl
            have hD9 := hD.sub (ws' := [(g0, .inr (6, [.int 1, .int 0, .ref m_sea, .ref m_center, .ref m_home, .ref m_borders, .int mp, .int mt, .ref m_owner, .ref m_units, .ref m_kind, .ref m_toX, .ref m_toY, .ref m_results, .ref m_known, .ref m_reached, .ref m_way, .ref m_aside, .ref m_origin, .ref m_retreats, .ref m_contested, .ref m_moved, .int msh, .ref m_past]))]) [0] (by decide) rfl
            exact W.iret (v := 0) hx hb hr (fun t ht hW => ⟨⟨0, (), rfl, rfl, by rw [ht]; exact hP9, hD9⟩, hS.F ht⟩) hS.2.2 d_Mo_order_103
        · -- 47: false
          refine lv_if_eq (tgt := 75) hx hb d_Mo_order_50 (by decide) (fun _ => ?_) (fun h0 => absurd (by decide) h0)
          refine lv_iconst (v := 1) hx hb d_Mo_order_75 (by decide) ?_
          refine lv_goto (tgt := 92) hx hb d_Mo_order_76 (by decide) ?_
          refine va_put (D := D) (ci := 6) (v := .int 1) (ty := .int) (C := R_Mo) (T := T_Mo) (N := 24) hx hb hts hin_Mo ty_Mo tyok_Mo nm_Mo hown hK hP hD hS 0 rfl rfl 0 (by decide) (hts _ wd_704) (fun _ h9 => h9) rfl (by decide +kernel) rfl rfl (Nat.le_of_ble_eq_true rfl) d_Mo_order_92 (fun H locs hP hD hS => ?_)
          have hP : va_P D vwCl [(g0, .inr (6, [.int 1, .int 0, .ref m_sea, .ref m_center, .ref m_home, .ref m_borders, .int mp, .int mt, .ref m_owner, .ref m_units, .ref m_kind, .ref m_toX, .ref m_toY, .ref m_results, .ref m_known, .ref m_reached, .ref m_way, .ref m_aside, .ref m_origin, .ref m_retreats, .ref m_contested, .ref m_moved, .int msh, .ref m_past]))] H := hP
          have hD : va_D A [(g0, .inr (6, [.int 1, .int 0, .ref m_sea, .ref m_center, .ref m_home, .ref m_borders, .int mp, .int mt, .ref m_owner, .ref m_units, .ref m_kind, .ref m_toX, .ref m_toY, .ref m_results, .ref m_known, .ref m_reached, .ref m_way, .ref m_aside, .ref m_origin, .ref m_retreats, .ref m_contested, .ref m_moved, .int msh, .ref m_past]))] := hD
          refine lv_aload_n hx hb d_Mo_order_95 rfl (lv_at hl 1 rfl) ?_
          refine va_get (D := D) (ci := 6) (v := .int 1) (C := R_Mo) (T := T_Mo) (N := 24) hx hb hts hin_Mo hown hK hP 0 rfl rfl 0 (by decide) (hts _ wd_704) (fun _ h9 => h9) rfl d_Mo_order_96 ?_
          refine lv_if_eq (tgt := 104) hx hb d_Mo_order_99 (by decide) (fun h0 => absurd h0 (by decide)) (fun _ => ?_)
          refine lv_iconst (v := 0) hx hb d_Mo_order_102 (by decide) ?_
          have hP9 := hP.sub (ws' := [(g0, .inr (6, [.int 1, .int 0, .ref m_sea, .ref m_center, .ref m_home, .ref m_borders, .int mp, .int mt, .ref m_owner, .ref m_units, .ref m_kind, .ref m_toX, .ref m_toY, .ref m_results, .ref m_known, .ref m_reached, .ref m_way, .ref m_aside, .ref m_origin, .ref m_retreats, .ref m_contested, .ref m_moved, .int msh, .ref m_past]))]) [0] rfl
          have hD9 := hD.sub (ws' := [(g0, .inr (6, [.int 1, .int 0, .ref m_sea, .ref m_center, .ref m_home, .ref m_borders, .int mp, .int mt, .ref m_owner, .ref m_units, .ref m_kind, .ref m_toX, .ref m_toY, .ref m_results, .ref m_known, .ref m_reached, .ref m_way, .ref m_aside, .ref m_origin, .ref m_retreats, .ref m_contested, .ref m_moved, .int msh, .ref m_past]))]) [0] (by decide) rfl
          exact W.iret (v := 0) hx hb hr (fun t ht hW => ⟨⟨0, (), rfl, rfl, by rw [ht]; exact hP9, hD9⟩, hS.F ht⟩) hS.2.2 d_Mo_order_103
      · -- 21 not taken
        refine lv_iload_n hx hb d_Mo_order_24 rfl (lv_at hl 3 rfl) ?_
        refine lv_iconst (v := 3) hx hb d_Mo_order_25 (by decide) ?_
        refine lv_icmp_gt (tgt := 38) hx hb d_Mo_order_26 (by decide) (fun hc45 => ?_) (fun hc45 => ?_)
        · -- 26 taken
          refine lv_iconst (v := 1) hx hb d_Mo_order_38 (by decide) ?_
          refine lv_goto (tgt := 43) hx hb d_Mo_order_39 (by decide) ?_
          refine lv_istore (lv' := [(6, .int 1), (0, .ref g0), (1, .int pl), (2, .int a), (3, .int k), (4, .int x), (5, .int y)]) hx hb d_Mo_order_43 hl (by decide) rfl (fun ls hl => ?_)
          refine lv_aload_n hx hb d_Mo_order_45 rfl (lv_at hl 1 rfl) ?_
          refine lv_iload_n hx hb d_Mo_order_46 rfl (lv_at hl 2 rfl) ?_
          have hPc := hP.sub (ws' := []) [] rfl
          refine vp_callSi (va_Run.run (va_runS (As := [.int pl]) (rest := [.ref g0]) ⟨hx, hb, hml, hown, hts⟩ (c_Mo_isPlayer l D cI cZ cJ cS aT ceT  pl ) (va_cwS 1 hts (tb_3 wd_802 wd_803 wd_8 (tb_c wd_804)) rfl rfl rfl ⟨by decide, by decide, by decide +kernel⟩ ⟨Nat.le_of_ble_eq_true rfl, Nat.le_of_ble_eq_true rfl⟩) (tP_S hK hX (hS.2.1 aT hXl hXn) hPc) rfl rfl hl.1 rfl (lv_room (Nat.le_of_ble_eq_true rfl)) d_Mo_order_47 ⟨Nat.le_of_ble_eq_true rfl, Nat.le_of_ble_eq_true rfl⟩)) (fun r46 hr9 => ?_)
          rcases hr9 with ⟨rfl, hq47⟩ | ⟨rfl, hq47⟩
          · -- 47: true
            refine lv_if_eq (tgt := 75) hx hb d_Mo_order_50 (by decide) (fun h0 => absurd h0 (by decide)) (fun _ => ?_)
            refine lv_aload_n hx hb d_Mo_order_53 rfl (lv_at hl 1 rfl) ?_
            refine lv_iload_n hx hb d_Mo_order_54 rfl (lv_at hl 3 rfl) ?_
            have hPc := hP.sub (ws' := [(g0, .inr (6, [.int co, .int 0, .ref m_sea, .ref m_center, .ref m_home, .ref m_borders, .int mp, .int mt, .ref m_owner, .ref m_units, .ref m_kind, .ref m_toX, .ref m_toY, .ref m_results, .ref m_known, .ref m_reached, .ref m_way, .ref m_aside, .ref m_origin, .ref m_retreats, .ref m_contested, .ref m_moved, .int msh, .ref m_past]))]) [0] rfl
            refine vp_callSi (va_Run.run (va_runV (As := [.int a]) (rest := [.ref g0]) ⟨hx, hb, hml, hown, hts⟩ (c_Mo_isArea l D cI cZ cJ cS aT ceT  g0 m_sea m_center m_home m_borders m_owner m_units m_kind m_toX m_toY m_results m_known m_reached m_way m_aside m_origin m_retreats m_contested m_moved m_past co 0 mp mt msh a ) (cwV 1 hts (tb_4 wd_790 wd_792 wp_36 wd_8 (tb_c wd_793)) rfl rfl rfl ⟨rfl, by decide, by decide, by decide +kernel⟩ ⟨Nat.le_of_ble_eq_true rfl, Nat.le_of_ble_eq_true rfl⟩) (tP_V hK hX (hS.2.1 aT hXl hXn) hPc (q := 0) rfl rfl) rfl rfl hl.1 rfl (lv_room (Nat.le_of_ble_eq_true rfl)) d_Mo_order_55 ⟨Nat.le_of_ble_eq_true rfl, Nat.le_of_ble_eq_true rfl⟩)) (fun r49 hr9 => ?_)
            rcases hr9 with ⟨rfl, hq50⟩ | ⟨rfl, hq50⟩
            · exact absurd hq50 tn_no
            · -- 55: false
              refine lv_if_eq (tgt := 75) hx hb d_Mo_order_58 (by decide) (fun _ => ?_) (fun h0 => absurd (by decide) h0)
              refine lv_iconst (v := 1) hx hb d_Mo_order_75 (by decide) ?_
              refine lv_goto (tgt := 92) hx hb d_Mo_order_76 (by decide) ?_
              refine va_put (D := D) (ci := 6) (v := .int 1) (ty := .int) (C := R_Mo) (T := T_Mo) (N := 24) hx hb hts hin_Mo ty_Mo tyok_Mo nm_Mo hown hK hP hD hS 0 rfl rfl 0 (by decide) (hts _ wd_704) (fun _ h9 => h9) rfl (by decide +kernel) rfl rfl (Nat.le_of_ble_eq_true rfl) d_Mo_order_92 (fun H locs hP hD hS => ?_)
              have hP : va_P D vwCl [(g0, .inr (6, [.int 1, .int 0, .ref m_sea, .ref m_center, .ref m_home, .ref m_borders, .int mp, .int mt, .ref m_owner, .ref m_units, .ref m_kind, .ref m_toX, .ref m_toY, .ref m_results, .ref m_known, .ref m_reached, .ref m_way, .ref m_aside, .ref m_origin, .ref m_retreats, .ref m_contested, .ref m_moved, .int msh, .ref m_past]))] H := hP
              have hD : va_D A [(g0, .inr (6, [.int 1, .int 0, .ref m_sea, .ref m_center, .ref m_home, .ref m_borders, .int mp, .int mt, .ref m_owner, .ref m_units, .ref m_kind, .ref m_toX, .ref m_toY, .ref m_results, .ref m_known, .ref m_reached, .ref m_way, .ref m_aside, .ref m_origin, .ref m_retreats, .ref m_contested, .ref m_moved, .int msh, .ref m_past]))] := hD
              refine lv_aload_n hx hb d_Mo_order_95 rfl (lv_at hl 1 rfl) ?_
              refine va_get (D := D) (ci := 6) (v := .int 1) (C := R_Mo) (T := T_Mo) (N := 24) hx hb hts hin_Mo hown hK hP 0 rfl rfl 0 (by decide) (hts _ wd_704) (fun _ h9 => h9) rfl d_Mo_order_96 ?_
              refine lv_if_eq (tgt := 104) hx hb d_Mo_order_99 (by decide) (fun h0 => absurd h0 (by decide)) (fun _ => ?_)
              refine lv_iconst (v := 0) hx hb d_Mo_order_102 (by decide) ?_
              have hP9 := hP.sub (ws' := [(g0, .inr (6, [.int 1, .int 0, .ref m_sea, .ref m_center, .ref m_home, .ref m_borders, .int mp, .int mt, .ref m_owner, .ref m_units, .ref m_kind, .ref m_toX, .ref m_toY, .ref m_results, .ref m_known, .ref m_reached, .ref m_way, .ref m_aside, .ref m_origin, .ref m_retreats, .ref m_contested, .ref m_moved, .int msh, .ref m_past]))]) [0] rfl
              have hD9 := hD.sub (ws' := [(g0, .inr (6, [.int 1, .int 0, .ref m_sea, .ref m_center, .ref m_home, .ref m_borders, .int mp, .int mt, .ref m_owner, .ref m_units, .ref m_kind, .ref m_toX, .ref m_toY, .ref m_results, .ref m_known, .ref m_reached, .ref m_way, .ref m_aside, .ref m_origin, .ref m_retreats, .ref m_contested, .ref m_moved, .int msh, .ref m_past]))]) [0] (by decide) rfl
              exact W.iret (v := 0) hx hb hr (fun t ht hW => ⟨⟨0, (), rfl, rfl, by rw [ht]; exact hP9, hD9⟩, hS.F ht⟩) hS.2.2 d_Mo_order_103
          · -- 47: false
            refine lv_if_eq (tgt := 75) hx hb d_Mo_order_50 (by decide) (fun _ => ?_) (fun h0 => absurd (by decide) h0)
            refine lv_iconst (v := 1) hx hb d_Mo_order_75 (by decide) ?_
            refine lv_goto (tgt := 92) hx hb d_Mo_order_76 (by decide) ?_
            refine va_put (D := D) (ci := 6) (v := .int 1) (ty := .int) (C := R_Mo) (T := T_Mo) (N := 24) hx hb hts hin_Mo ty_Mo tyok_Mo nm_Mo hown hK hP hD hS 0 rfl rfl 0 (by decide) (hts _ wd_704) (fun _ h9 => h9) rfl (by decide +kernel) rfl rfl (Nat.le_of_ble_eq_true rfl) d_Mo_order_92 (fun H locs hP hD hS => ?_)
            have hP : va_P D vwCl [(g0, .inr (6, [.int 1, .int 0, .ref m_sea, .ref m_center, .ref m_home, .ref m_borders, .int mp, .int mt, .ref m_owner, .ref m_units, .ref m_kind, .ref m_toX, .ref m_toY, .ref m_results, .ref m_known, .ref m_reached, .ref m_way, .ref m_aside, .ref m_origin, .ref m_retreats, .ref m_contested, .ref m_moved, .int msh, .ref m_past]))] H := hP
            have hD : va_D A [(g0, .inr (6, [.int 1, .int 0, .ref m_sea, .ref m_center, .ref m_home, .ref m_borders, .int mp, .int mt, .ref m_owner, .ref m_units, .ref m_kind, .ref m_toX, .ref m_toY, .ref m_results, .ref m_known, .ref m_reached, .ref m_way, .ref m_aside, .ref m_origin, .ref m_retreats, .ref m_contested, .ref m_moved, .int msh, .ref m_past]))] := hD
            refine lv_aload_n hx hb d_Mo_order_95 rfl (lv_at hl 1 rfl) ?_
            refine va_get (D := D) (ci := 6) (v := .int 1) (C := R_Mo) (T := T_Mo) (N := 24) hx hb hts hin_Mo hown hK hP 0 rfl rfl 0 (by decide) (hts _ wd_704) (fun _ h9 => h9) rfl d_Mo_order_96 ?_
            refine lv_if_eq (tgt := 104) hx hb d_Mo_order_99 (by decide) (fun h0 => absurd h0 (by decide)) (fun _ => ?_)
            refine lv_iconst (v := 0) hx hb d_Mo_order_102 (by decide) ?_
            have hP9 := hP.sub (ws' := [(g0, .inr (6, [.int 1, .int 0, .ref m_sea, .ref m_center, .ref m_home, .ref m_borders, .int mp, .int mt, .ref m_owner, .ref m_units, .ref m_kind, .ref m_toX, .ref m_toY, .ref m_results, .ref m_known, .ref m_reached, .ref m_way, .ref m_aside, .ref m_origin, .ref m_retreats, .ref m_contested, .ref m_moved, .int msh, .ref m_past]))]) [0] rfl
            have hD9 := hD.sub (ws' := [(g0, .inr (6, [.int 1, .int 0, .ref m_sea, .ref m_center, .ref m_home, .ref m_borders, .int mp, .int mt, .ref m_owner, .ref m_units, .ref m_kind, .ref m_toX, .ref m_toY, .ref m_results, .ref m_known, .ref m_reached, .ref m_way, .ref m_aside, .ref m_origin, .ref m_retreats, .ref m_contested, .ref m_moved, .int msh, .ref m_past]))]) [0] (by decide) rfl
            exact W.iret (v := 0) hx hb hr (fun t ht hW => ⟨⟨0, (), rfl, rfl, by rw [ht]; exact hP9, hD9⟩, hS.F ht⟩) hS.2.2 d_Mo_order_103
        · -- 26 not taken
          refine lv_aload_n hx hb d_Mo_order_29 rfl (lv_at hl 0 rfl) ?_
          refine lv_iload hx hb d_Mo_order_30 (lv_at hl 5 rfl) ?_
          have hPc := hP.sub (ws' := [(g0, .inr (6, [.int co, .int 0, .ref m_sea, .ref m_center, .ref m_home, .ref m_borders, .int mp, .int mt, .ref m_owner, .ref m_units, .ref m_kind, .ref m_toX, .ref m_toY, .ref m_results, .ref m_known, .ref m_reached, .ref m_way, .ref m_aside, .ref m_origin, .ref m_retreats, .ref m_contested, .ref m_moved, .int msh, .ref m_past]))]) [0] rfl
          refine vp_callSi (va_Run.run (va_runV (As := [.int y]) (rest := []) ⟨hx, hb, hml, hown, hts⟩ (c_Mo_isArea l D cI cZ cJ cS aT ceT  g0 m_sea m_center m_home m_borders m_owner m_units m_kind m_toX m_toY m_results m_known m_reached m_way m_aside m_origin m_retreats m_contested m_moved m_past co 0 mp mt msh y ) (cwV 1 hts (tb_4 wd_790 wd_792 wp_36 wd_8 (tb_c wd_793)) rfl rfl rfl ⟨rfl, by decide, by decide, by decide +kernel⟩ ⟨Nat.le_of_ble_eq_true rfl, Nat.le_of_ble_eq_true rfl⟩) (tP_V hK hX (hS.2.1 aT hXl hXn) hPc (q := 0) rfl rfl) rfl rfl hl.1 rfl (lv_room (Nat.le_of_ble_eq_true rfl)) d_Mo_order_32 ⟨Nat.le_of_ble_eq_true rfl, Nat.le_of_ble_eq_true rfl⟩)) (fun r55 hr9 => ?_)
          rcases hr9 with ⟨rfl, hq56⟩ | ⟨rfl, hq56⟩
          · exact absurd hq56 tn_no
          · -- 32: false
            refine lv_if_eq (tgt := 42) hx hb d_Mo_order_35 (by decide) (fun _ => ?_) (fun h0 => absurd (by decide) h0)
            refine lv_iconst (v := 0) hx hb d_Mo_order_42 (by decide) ?_
            refine lv_istore (lv' := [(6, .int 0), (0, .ref g0), (1, .int pl), (2, .int a), (3, .int k), (4, .int x), (5, .int y)]) hx hb d_Mo_order_43 hl (by decide) rfl (fun ls hl => ?_)
            refine lv_aload_n hx hb d_Mo_order_45 rfl (lv_at hl 1 rfl) ?_
            refine lv_iload_n hx hb d_Mo_order_46 rfl (lv_at hl 2 rfl) ?_
            have hPc := hP.sub (ws' := []) [] rfl
            refine vp_callSi (va_Run.run (va_runS (As := [.int pl]) (rest := [.ref g0]) ⟨hx, hb, hml, hown, hts⟩ (c_Mo_isPlayer l D cI cZ cJ cS aT ceT  pl ) (va_cwS 1 hts (tb_3 wd_802 wd_803 wd_8 (tb_c wd_804)) rfl rfl rfl ⟨by decide, by decide, by decide +kernel⟩ ⟨Nat.le_of_ble_eq_true rfl, Nat.le_of_ble_eq_true rfl⟩) (tP_S hK hX (hS.2.1 aT hXl hXn) hPc) rfl rfl hl.1 rfl (lv_room (Nat.le_of_ble_eq_true rfl)) d_Mo_order_47 ⟨Nat.le_of_ble_eq_true rfl, Nat.le_of_ble_eq_true rfl⟩)) (fun r58 hr9 => ?_)
            rcases hr9 with ⟨rfl, hq59⟩ | ⟨rfl, hq59⟩
            · -- 47: true
              refine lv_if_eq (tgt := 75) hx hb d_Mo_order_50 (by decide) (fun h0 => absurd h0 (by decide)) (fun _ => ?_)
              refine lv_aload_n hx hb d_Mo_order_53 rfl (lv_at hl 1 rfl) ?_
              refine lv_iload_n hx hb d_Mo_order_54 rfl (lv_at hl 3 rfl) ?_
              have hPc := hP.sub (ws' := [(g0, .inr (6, [.int co, .int 0, .ref m_sea, .ref m_center, .ref m_home, .ref m_borders, .int mp, .int mt, .ref m_owner, .ref m_units, .ref m_kind, .ref m_toX, .ref m_toY, .ref m_results, .ref m_known, .ref m_reached, .ref m_way, .ref m_aside, .ref m_origin, .ref m_retreats, .ref m_contested, .ref m_moved, .int msh, .ref m_past]))]) [0] rfl
              refine vp_callSi (va_Run.run (va_runV (As := [.int a]) (rest := [.ref g0]) ⟨hx, hb, hml, hown, hts⟩ (c_Mo_isArea l D cI cZ cJ cS aT ceT  g0 m_sea m_center m_home m_borders m_owner m_units m_kind m_toX m_toY m_results m_known m_reached m_way m_aside m_origin m_retreats m_contested m_moved m_past co 0 mp mt msh a ) (cwV 1 hts (tb_4 wd_790 wd_792 wp_36 wd_8 (tb_c wd_793)) rfl rfl rfl ⟨rfl, by decide, by decide, by decide +kernel⟩ ⟨Nat.le_of_ble_eq_true rfl, Nat.le_of_ble_eq_true rfl⟩) (tP_V hK hX (hS.2.1 aT hXl hXn) hPc (q := 0) rfl rfl) rfl rfl hl.1 rfl (lv_room (Nat.le_of_ble_eq_true rfl)) d_Mo_order_55 ⟨Nat.le_of_ble_eq_true rfl, Nat.le_of_ble_eq_true rfl⟩)) (fun r61 hr9 => ?_)
              rcases hr9 with ⟨rfl, hq62⟩ | ⟨rfl, hq62⟩
              · exact absurd hq62 tn_no
              · -- 55: false
                refine lv_if_eq (tgt := 75) hx hb d_Mo_order_58 (by decide) (fun _ => ?_) (fun h0 => absurd (by decide) h0)
                refine lv_iconst (v := 1) hx hb d_Mo_order_75 (by decide) ?_
                refine lv_goto (tgt := 92) hx hb d_Mo_order_76 (by decide) ?_
                refine va_put (D := D) (ci := 6) (v := .int 1) (ty := .int) (C := R_Mo) (T := T_Mo) (N := 24) hx hb hts hin_Mo ty_Mo tyok_Mo nm_Mo hown hK hP hD hS 0 rfl rfl 0 (by decide) (hts _ wd_704) (fun _ h9 => h9) rfl (by decide +kernel) rfl rfl (Nat.le_of_ble_eq_true rfl) d_Mo_order_92 (fun H locs hP hD hS => ?_)
                have hP : va_P D vwCl [(g0, .inr (6, [.int 1, .int 0, .ref m_sea, .ref m_center, .ref m_home, .ref m_borders, .int mp, .int mt, .ref m_owner, .ref m_units, .ref m_kind, .ref m_toX, .ref m_toY, .ref m_results, .ref m_known, .ref m_reached, .ref m_way, .ref m_aside, .ref m_origin, .ref m_retreats, .ref m_contested, .ref m_moved, .int msh, .ref m_past]))] H := hP
                have hD : va_D A [(g0, .inr (6, [.int 1, .int 0, .ref m_sea, .ref m_center, .ref m_home, .ref m_borders, .int mp, .int mt, .ref m_owner, .ref m_units, .ref m_kind, .ref m_toX, .ref m_toY, .ref m_results, .ref m_known, .ref m_reached, .ref m_way, .ref m_aside, .ref m_origin, .ref m_retreats, .ref m_contested, .ref m_moved, .int msh, .ref m_past]))] := hD
                refine lv_aload_n hx hb d_Mo_order_95 rfl (lv_at hl 1 rfl) ?_
                refine va_get (D := D) (ci := 6) (v := .int 1) (C := R_Mo) (T := T_Mo) (N := 24) hx hb hts hin_Mo hown hK hP 0 rfl rfl 0 (by decide) (hts _ wd_704) (fun _ h9 => h9) rfl d_Mo_order_96 ?_
                refine lv_if_eq (tgt := 104) hx hb d_Mo_order_99 (by decide) (fun h0 => absurd h0 (by decide)) (fun _ => ?_)
                refine lv_iconst (v := 0) hx hb d_Mo_order_102 (by decide) ?_
                have hP9 := hP.sub (ws' := [(g0, .inr (6, [.int 1, .int 0, .ref m_sea, .ref m_center, .ref m_home, .ref m_borders, .int mp, .int mt, .ref m_owner, .ref m_units, .ref m_kind, .ref m_toX, .ref m_toY, .ref m_results, .ref m_known, .ref m_reached, .ref m_way, .ref m_aside, .ref m_origin, .ref m_retreats, .ref m_contested, .ref m_moved, .int msh, .ref m_past]))]) [0] rfl
                have hD9 := hD.sub (ws' := [(g0, .inr (6, [.int 1, .int 0, .ref m_sea, .ref m_center, .ref m_home, .ref m_borders, .int mp, .int mt, .ref m_owner, .ref m_units, .ref m_kind, .ref m_toX, .ref m_toY, .ref m_results, .ref m_known, .ref m_reached, .ref m_way, .ref m_aside, .ref m_origin, .ref m_retreats, .ref m_contested, .ref m_moved, .int msh, .ref m_past]))]) [0] (by decide) rfl
                exact W.iret (v := 0) hx hb hr (fun t ht hW => ⟨⟨0, (), rfl, rfl, by rw [ht]; exact hP9, hD9⟩, hS.F ht⟩) hS.2.2 d_Mo_order_103
            · -- 47: false
              refine lv_if_eq (tgt := 75) hx hb d_Mo_order_50 (by decide) (fun _ => ?_) (fun h0 => absurd (by decide) h0)
              refine lv_iconst (v := 1) hx hb d_Mo_order_75 (by decide) ?_
              refine lv_goto (tgt := 92) hx hb d_Mo_order_76 (by decide) ?_
              refine va_put (D := D) (ci := 6) (v := .int 1) (ty := .int) (C := R_Mo) (T := T_Mo) (N := 24) hx hb hts hin_Mo ty_Mo tyok_Mo nm_Mo hown hK hP hD hS 0 rfl rfl 0 (by decide) (hts _ wd_704) (fun _ h9 => h9) rfl (by decide +kernel) rfl rfl (Nat.le_of_ble_eq_true rfl) d_Mo_order_92 (fun H locs hP hD hS => ?_)
              have hP : va_P D vwCl [(g0, .inr (6, [.int 1, .int 0, .ref m_sea, .ref m_center, .ref m_home, .ref m_borders, .int mp, .int mt, .ref m_owner, .ref m_units, .ref m_kind, .ref m_toX, .ref m_toY, .ref m_results, .ref m_known, .ref m_reached, .ref m_way, .ref m_aside, .ref m_origin, .ref m_retreats, .ref m_contested, .ref m_moved, .int msh, .ref m_past]))] H := hP
              have hD : va_D A [(g0, .inr (6, [.int 1, .int 0, .ref m_sea, .ref m_center, .ref m_home, .ref m_borders, .int mp, .int mt, .ref m_owner, .ref m_units, .ref m_kind, .ref m_toX, .ref m_toY, .ref m_results, .ref m_known, .ref m_reached, .ref m_way, .ref m_aside, .ref m_origin, .ref m_retreats, .ref m_contested, .ref m_moved, .int msh, .ref m_past]))] := hD
              refine lv_aload_n hx hb d_Mo_order_95 rfl (lv_at hl 1 rfl) ?_
              refine va_get (D := D) (ci := 6) (v := .int 1) (C := R_Mo) (T := T_Mo) (N := 24) hx hb hts hin_Mo hown hK hP 0 rfl rfl 0 (by decide) (hts _ wd_704) (fun _ h9 => h9) rfl d_Mo_order_96 ?_
              refine lv_if_eq (tgt := 104) hx hb d_Mo_order_99 (by decide) (fun h0 => absurd h0 (by decide)) (fun _ => ?_)
              refine lv_iconst (v := 0) hx hb d_Mo_order_102 (by decide) ?_
              have hP9 := hP.sub (ws' := [(g0, .inr (6, [.int 1, .int 0, .ref m_sea, .ref m_center, .ref m_home, .ref m_borders, .int mp, .int mt, .ref m_owner, .ref m_units, .ref m_kind, .ref m_toX, .ref m_toY, .ref m_results, .ref m_known, .ref m_reached, .ref m_way, .ref m_aside, .ref m_origin, .ref m_retreats, .ref m_contested, .ref m_moved, .int msh, .ref m_past]))]) [0] rfl
              have hD9 := hD.sub (ws' := [(g0, .inr (6, [.int 1, .int 0, .ref m_sea, .ref m_center, .ref m_home, .ref m_borders, .int mp, .int mt, .ref m_owner, .ref m_units, .ref m_kind, .ref m_toX, .ref m_toY, .ref m_results, .ref m_known, .ref m_reached, .ref m_way, .ref m_aside, .ref m_origin, .ref m_retreats, .ref m_contested, .ref m_moved, .int msh, .ref m_past]))]) [0] (by decide) rfl
              exact W.iret (v := 0) hx hb hr (fun t ht hW => ⟨⟨0, (), rfl, rfl, by rw [ht]; exact hP9, hD9⟩, hS.F ht⟩) hS.2.2 d_Mo_order_103
    · -- 7 not taken
      refine lv_aload_n hx hb d_Mo_order_10 rfl (lv_at hl 0 rfl) ?_
      refine lv_iload hx hb d_Mo_order_11 (lv_at hl 4 rfl) ?_
      have hPc := hP.sub (ws' := [(g0, .inr (6, [.int co, .int 0, .ref m_sea, .ref m_center, .ref m_home, .ref m_borders, .int mp, .int mt, .ref m_owner, .ref m_units, .ref m_kind, .ref m_toX, .ref m_toY, .ref m_results, .ref m_known, .ref m_reached, .ref m_way, .ref m_aside, .ref m_origin, .ref m_retreats, .ref m_contested, .ref m_moved, .int msh, .ref m_past]))]) [0] rfl
      refine vp_callSi (va_Run.run (va_runV (As := [.int x]) (rest := []) ⟨hx, hb, hml, hown, hts⟩ (c_Mo_isArea l D cI cZ cJ cS aT ceT  g0 m_sea m_center m_home m_borders m_owner m_units m_kind m_toX m_toY m_results m_known m_reached m_way m_aside m_origin m_retreats m_contested m_moved m_past co 0 mp mt msh x ) (cwV 1 hts (tb_4 wd_790 wd_792 wp_36 wd_8 (tb_c wd_793)) rfl rfl rfl ⟨rfl, by decide, by decide, by decide +kernel⟩ ⟨Nat.le_of_ble_eq_true rfl, Nat.le_of_ble_eq_true rfl⟩) (tP_V hK hX (hS.2.1 aT hXl hXn) hPc (q := 0) rfl rfl) rfl rfl hl.1 rfl (lv_room (Nat.le_of_ble_eq_true rfl)) d_Mo_order_13 ⟨Nat.le_of_ble_eq_true rfl, Nat.le_of_ble_eq_true rfl⟩)) (fun r67 hr9 => ?_)
      rcases hr9 with ⟨rfl, hq68⟩ | ⟨rfl, hq68⟩
      · exact absurd hq68 tn_no
      · -- 13: false
        refine lv_if_eq (tgt := 42) hx hb d_Mo_order_16 (by decide) (fun _ => ?_) (fun h0 => absurd (by decide) h0)
        refine lv_iconst (v := 0) hx hb d_Mo_order_42 (by decide) ?_
        refine lv_istore (lv' := [(6, .int 0), (0, .ref g0), (1, .int pl), (2, .int a), (3, .int k), (4, .int x), (5, .int y)]) hx hb d_Mo_order_43 hl (by decide) rfl (fun ls hl => ?_)
        refine lv_aload_n hx hb d_Mo_order_45 rfl (lv_at hl 1 rfl) ?_
        refine lv_iload_n hx hb d_Mo_order_46 rfl (lv_at hl 2 rfl) ?_
        have hPc := hP.sub (ws' := []) [] rfl
        refine vp_callSi (va_Run.run (va_runS (As := [.int pl]) (rest := [.ref g0]) ⟨hx, hb, hml, hown, hts⟩ (c_Mo_isPlayer l D cI cZ cJ cS aT ceT  pl ) (va_cwS 1 hts (tb_3 wd_802 wd_803 wd_8 (tb_c wd_804)) rfl rfl rfl ⟨by decide, by decide, by decide +kernel⟩ ⟨Nat.le_of_ble_eq_true rfl, Nat.le_of_ble_eq_true rfl⟩) (tP_S hK hX (hS.2.1 aT hXl hXn) hPc) rfl rfl hl.1 rfl (lv_room (Nat.le_of_ble_eq_true rfl)) d_Mo_order_47 ⟨Nat.le_of_ble_eq_true rfl, Nat.le_of_ble_eq_true rfl⟩)) (fun r70 hr9 => ?_)
        rcases hr9 with ⟨rfl, hq71⟩ | ⟨rfl, hq71⟩
        · -- 47: true
          refine lv_if_eq (tgt := 75) hx hb d_Mo_order_50 (by decide) (fun h0 => absurd h0 (by decide)) (fun _ => ?_)
          refine lv_aload_n hx hb d_Mo_order_53 rfl (lv_at hl 1 rfl) ?_
          refine lv_iload_n hx hb d_Mo_order_54 rfl (lv_at hl 3 rfl) ?_
          have hPc := hP.sub (ws' := [(g0, .inr (6, [.int co, .int 0, .ref m_sea, .ref m_center, .ref m_home, .ref m_borders, .int mp, .int mt, .ref m_owner, .ref m_units, .ref m_kind, .ref m_toX, .ref m_toY, .ref m_results, .ref m_known, .ref m_reached, .ref m_way, .ref m_aside, .ref m_origin, .ref m_retreats, .ref m_contested, .ref m_moved, .int msh, .ref m_past]))]) [0] rfl
          refine vp_callSi (va_Run.run (va_runV (As := [.int a]) (rest := [.ref g0]) ⟨hx, hb, hml, hown, hts⟩ (c_Mo_isArea l D cI cZ cJ cS aT ceT  g0 m_sea m_center m_home m_borders m_owner m_units m_kind m_toX m_toY m_results m_known m_reached m_way m_aside m_origin m_retreats m_contested m_moved m_past co 0 mp mt msh a ) (cwV 1 hts (tb_4 wd_790 wd_792 wp_36 wd_8 (tb_c wd_793)) rfl rfl rfl ⟨rfl, by decide, by decide, by decide +kernel⟩ ⟨Nat.le_of_ble_eq_true rfl, Nat.le_of_ble_eq_true rfl⟩) (tP_V hK hX (hS.2.1 aT hXl hXn) hPc (q := 0) rfl rfl) rfl rfl hl.1 rfl (lv_room (Nat.le_of_ble_eq_true rfl)) d_Mo_order_55 ⟨Nat.le_of_ble_eq_true rfl, Nat.le_of_ble_eq_true rfl⟩)) (fun r73 hr9 => ?_)
          rcases hr9 with ⟨rfl, hq74⟩ | ⟨rfl, hq74⟩
          · exact absurd hq74 tn_no
          · -- 55: false
            refine lv_if_eq (tgt := 75) hx hb d_Mo_order_58 (by decide) (fun _ => ?_) (fun h0 => absurd (by decide) h0)
            refine lv_iconst (v := 1) hx hb d_Mo_order_75 (by decide) ?_
            refine lv_goto (tgt := 92) hx hb d_Mo_order_76 (by decide) ?_
            refine va_put (D := D) (ci := 6) (v := .int 1) (ty := .int) (C := R_Mo) (T := T_Mo) (N := 24) hx hb hts hin_Mo ty_Mo tyok_Mo nm_Mo hown hK hP hD hS 0 rfl rfl 0 (by decide) (hts _ wd_704) (fun _ h9 => h9) rfl (by decide +kernel) rfl rfl (Nat.le_of_ble_eq_true rfl) d_Mo_order_92 (fun H locs hP hD hS => ?_)
            have hP : va_P D vwCl [(g0, .inr (6, [.int 1, .int 0, .ref m_sea, .ref m_center, .ref m_home, .ref m_borders, .int mp, .int mt, .ref m_owner, .ref m_units, .ref m_kind, .ref m_toX, .ref m_toY, .ref m_results, .ref m_known, .ref m_reached, .ref m_way, .ref m_aside, .ref m_origin, .ref m_retreats, .ref m_contested, .ref m_moved, .int msh, .ref m_past]))] H := hP
            have hD : va_D A [(g0, .inr (6, [.int 1, .int 0, .ref m_sea, .ref m_center, .ref m_home, .ref m_borders, .int mp, .int mt, .ref m_owner, .ref m_units, .ref m_kind, .ref m_toX, .ref m_toY, .ref m_results, .ref m_known, .ref m_reached, .ref m_way, .ref m_aside, .ref m_origin, .ref m_retreats, .ref m_contested, .ref m_moved, .int msh, .ref m_past]))] := hD
            refine lv_aload_n hx hb d_Mo_order_95 rfl (lv_at hl 1 rfl) ?_
            refine va_get (D := D) (ci := 6) (v := .int 1) (C := R_Mo) (T := T_Mo) (N := 24) hx hb hts hin_Mo hown hK hP 0 rfl rfl 0 (by decide) (hts _ wd_704) (fun _ h9 => h9) rfl d_Mo_order_96 ?_
            refine lv_if_eq (tgt := 104) hx hb d_Mo_order_99 (by decide) (fun h0 => absurd h0 (by decide)) (fun _ => ?_)
            refine lv_iconst (v := 0) hx hb d_Mo_order_102 (by decide) ?_
            have hP9 := hP.sub (ws' := [(g0, .inr (6, [.int 1, .int 0, .ref m_sea, .ref m_center, .ref m_home, .ref m_borders, .int mp, .int mt, .ref m_owner, .ref m_units, .ref m_kind, .ref m_toX, .ref m_toY, .ref m_results, .ref m_known, .ref m_reached, .ref m_way, .ref m_aside, .ref m_origin, .ref m_retreats, .ref m_contested, .ref m_moved, .int msh, .ref m_past]))]) [0] rfl
            have hD9 := hD.sub (ws' := [(g0, .inr (6, [.int 1, .int 0, .ref m_sea, .ref m_center, .ref m_home, .ref m_borders, .int mp, .int mt, .ref m_owner, .ref m_units, .ref m_kind, .ref m_toX, .ref m_toY, .ref m_results, .ref m_known, .ref m_reached, .ref m_way, .ref m_aside, .ref m_origin, .ref m_retreats, .ref m_contested, .ref m_moved, .int msh, .ref m_past]))]) [0] (by decide) rfl
            exact W.iret (v := 0) hx hb hr (fun t ht hW => ⟨⟨0, (), rfl, rfl, by rw [ht]; exact hP9, hD9⟩, hS.F ht⟩) hS.2.2 d_Mo_order_103
        · -- 47: false
          refine lv_if_eq (tgt := 75) hx hb d_Mo_order_50 (by decide) (fun _ => ?_) (fun h0 => absurd (by decide) h0)
          refine lv_iconst (v := 1) hx hb d_Mo_order_75 (by decide) ?_
          refine lv_goto (tgt := 92) hx hb d_Mo_order_76 (by decide) ?_
          refine va_put (D := D) (ci := 6) (v := .int 1) (ty := .int) (C := R_Mo) (T := T_Mo) (N := 24) hx hb hts hin_Mo ty_Mo tyok_Mo nm_Mo hown hK hP hD hS 0 rfl rfl 0 (by decide) (hts _ wd_704) (fun _ h9 => h9) rfl (by decide +kernel) rfl rfl (Nat.le_of_ble_eq_true rfl) d_Mo_order_92 (fun H locs hP hD hS => ?_)
          have hP : va_P D vwCl [(g0, .inr (6, [.int 1, .int 0, .ref m_sea, .ref m_center, .ref m_home, .ref m_borders, .int mp, .int mt, .ref m_owner, .ref m_units, .ref m_kind, .ref m_toX, .ref m_toY, .ref m_results, .ref m_known, .ref m_reached, .ref m_way, .ref m_aside, .ref m_origin, .ref m_retreats, .ref m_contested, .ref m_moved, .int msh, .ref m_past]))] H := hP
          have hD : va_D A [(g0, .inr (6, [.int 1, .int 0, .ref m_sea, .ref m_center, .ref m_home, .ref m_borders, .int mp, .int mt, .ref m_owner, .ref m_units, .ref m_kind, .ref m_toX, .ref m_toY, .ref m_results, .ref m_known, .ref m_reached, .ref m_way, .ref m_aside, .ref m_origin, .ref m_retreats, .ref m_contested, .ref m_moved, .int msh, .ref m_past]))] := hD
          refine lv_aload_n hx hb d_Mo_order_95 rfl (lv_at hl 1 rfl) ?_
          refine va_get (D := D) (ci := 6) (v := .int 1) (C := R_Mo) (T := T_Mo) (N := 24) hx hb hts hin_Mo hown hK hP 0 rfl rfl 0 (by decide) (hts _ wd_704) (fun _ h9 => h9) rfl d_Mo_order_96 ?_
          refine lv_if_eq (tgt := 104) hx hb d_Mo_order_99 (by decide) (fun h0 => absurd h0 (by decide)) (fun _ => ?_)
          refine lv_iconst (v := 0) hx hb d_Mo_order_102 (by decide) ?_
          have hP9 := hP.sub (ws' := [(g0, .inr (6, [.int 1, .int 0, .ref m_sea, .ref m_center, .ref m_home, .ref m_borders, .int mp, .int mt, .ref m_owner, .ref m_units, .ref m_kind, .ref m_toX, .ref m_toY, .ref m_results, .ref m_known, .ref m_reached, .ref m_way, .ref m_aside, .ref m_origin, .ref m_retreats, .ref m_contested, .ref m_moved, .int msh, .ref m_past]))]) [0] rfl
          have hD9 := hD.sub (ws' := [(g0, .inr (6, [.int 1, .int 0, .ref m_sea, .ref m_center, .ref m_home, .ref m_borders, .int mp, .int mt, .ref m_owner, .ref m_units, .ref m_kind, .ref m_toX, .ref m_toY, .ref m_results, .ref m_known, .ref m_reached, .ref m_way, .ref m_aside, .ref m_origin, .ref m_retreats, .ref m_contested, .ref m_moved, .int msh, .ref m_past]))]) [0] (by decide) rfl
          exact W.iret (v := 0) hx hb hr (fun t ht hW => ⟨⟨0, (), rfl, rfl, by rw [ht]; exact hP9, hD9⟩, hS.F ht⟩) hS.2.2 d_Mo_order_103

theorem d_Mo_resolve_0 : decode b_Mo_resolve 0 = .ok (.aload_n 0, 1) := by decide +kernel
theorem d_Mo_resolve_1 : decode b_Mo_resolve 1 = .ok (.aload_n 0, 1) := by decide +kernel
theorem d_Mo_resolve_2 : decode b_Mo_resolve 2 = .ok (.getfield 75, 3) := by decide +kernel
theorem d_Mo_resolve_5 : decode b_Mo_resolve 5 = .ok (.iconst 1, 1) := by decide +kernel
theorem d_Mo_resolve_6 : decode b_Mo_resolve 6 = .ok (.if_icmp .ne 7, 3) := by decide +kernel
theorem d_Mo_resolve_9 : decode b_Mo_resolve 9 = .ok (.iconst 0, 1) := by decide +kernel
theorem d_Mo_resolve_10 : decode b_Mo_resolve 10 = .ok (.goto 4, 3) := by decide +kernel
theorem d_Mo_resolve_13 : decode b_Mo_resolve 13 = .ok (.iconst 1, 1) := by decide +kernel
theorem d_Mo_resolve_14 : decode b_Mo_resolve 14 = .ok (.putfield 68, 3) := by decide +kernel
theorem d_Mo_resolve_17 : decode b_Mo_resolve 17 = .ok (.aload_n 0, 1) := by decide +kernel
theorem d_Mo_resolve_18 : decode b_Mo_resolve 18 = .ok (.getfield 68, 3) := by decide +kernel
theorem d_Mo_resolve_21 : decode b_Mo_resolve 21 = .ok (.ifCond .eq 5, 3) := by decide +kernel
theorem d_Mo_resolve_24 : decode b_Mo_resolve 24 = .ok (.iconst 0, 1) := by decide +kernel
theorem d_Mo_resolve_25 : decode b_Mo_resolve 25 = .ok (.ireturn, 1) := by decide +kernel
theorem d_Mo_resolve_26 : decode b_Mo_resolve 26 = .ok (.aload_n 0, 1) := by decide +kernel
theorem d_Mo_resolve_27 : decode b_Mo_resolve 27 = .ok (.invokevirtual 177, 3) := by decide +kernel
theorem d_Mo_resolve_30 : decode b_Mo_resolve 30 = .ok (.iconst 0, 1) := by decide +kernel
theorem d_Mo_resolve_31 : decode b_Mo_resolve 31 = .ok (.istore_n 1, 1) := by decide +kernel
theorem d_Mo_resolve_32 : decode b_Mo_resolve 32 = .ok (.iload_n 1, 1) := by decide +kernel
theorem d_Mo_resolve_33 : decode b_Mo_resolve 33 = .ok (.aload_n 0, 1) := by decide +kernel
theorem d_Mo_resolve_34 : decode b_Mo_resolve 34 = .ok (.getfield 72, 3) := by decide +kernel
theorem d_Mo_resolve_37 : decode b_Mo_resolve 37 = .ok (.if_icmp .ge 59, 3) := by decide +kernel
theorem d_Mo_resolve_40 : decode b_Mo_resolve 40 = .ok (.aload_n 0, 1) := by decide +kernel
theorem d_Mo_resolve_41 : decode b_Mo_resolve 41 = .ok (.getfield 41, 3) := by decide +kernel
theorem d_Mo_resolve_44 : decode b_Mo_resolve 44 = .ok (.iload_n 1, 1) := by decide +kernel
theorem d_Mo_resolve_45 : decode b_Mo_resolve 45 = .ok (.iconst 0, 1) := by decide +kernel
theorem d_Mo_resolve_46 : decode b_Mo_resolve 46 = .ok (.iastore, 1) := by decide +kernel
theorem d_Mo_resolve_47 : decode b_Mo_resolve 47 = .ok (.aload_n 0, 1) := by decide +kernel
theorem d_Mo_resolve_48 : decode b_Mo_resolve 48 = .ok (.iload_n 1, 1) := by decide +kernel
theorem d_Mo_resolve_49 : decode b_Mo_resolve 49 = .ok (.invokevirtual 118, 3) := by decide +kernel
theorem d_Mo_resolve_52 : decode b_Mo_resolve 52 = .ok (.ifCond .eq 38, 3) := by decide +kernel
theorem d_Mo_resolve_55 : decode b_Mo_resolve 55 = .ok (.aload_n 0, 1) := by decide +kernel
theorem d_Mo_resolve_56 : decode b_Mo_resolve 56 = .ok (.iload_n 1, 1) := by decide +kernel
theorem d_Mo_resolve_57 : decode b_Mo_resolve 57 = .ok (.aload_n 0, 1) := by decide +kernel
theorem d_Mo_resolve_58 : decode b_Mo_resolve 58 = .ok (.getfield 32, 3) := by decide +kernel
theorem d_Mo_resolve_61 : decode b_Mo_resolve 61 = .ok (.iload_n 1, 1) := by decide +kernel
theorem d_Mo_resolve_62 : decode b_Mo_resolve 62 = .ok (.iaload, 1) := by decide +kernel
theorem d_Mo_resolve_63 : decode b_Mo_resolve 63 = .ok (.invokevirtual 129, 3) := by decide +kernel
theorem d_Mo_resolve_66 : decode b_Mo_resolve 66 = .ok (.ifCond .ne 24, 3) := by decide +kernel
theorem d_Mo_resolve_69 : decode b_Mo_resolve 69 = .ok (.aload_n 0, 1) := by decide +kernel
theorem d_Mo_resolve_70 : decode b_Mo_resolve 70 = .ok (.iload_n 1, 1) := by decide +kernel
theorem d_Mo_resolve_71 : decode b_Mo_resolve 71 = .ok (.aload_n 0, 1) := by decide +kernel
theorem d_Mo_resolve_72 : decode b_Mo_resolve 72 = .ok (.getfield 32, 3) := by decide +kernel
theorem d_Mo_resolve_75 : decode b_Mo_resolve 75 = .ok (.iload_n 1, 1) := by decide +kernel
theorem d_Mo_resolve_76 : decode b_Mo_resolve 76 = .ok (.iaload, 1) := by decide +kernel
theorem d_Mo_resolve_77 : decode b_Mo_resolve 77 = .ok (.invokevirtual 142, 3) := by decide +kernel
theorem d_Mo_resolve_80 : decode b_Mo_resolve 80 = .ok (.ifCond .ne 10, 3) := by decide +kernel
theorem d_Mo_resolve_83 : decode b_Mo_resolve 83 = .ok (.aload_n 0, 1) := by decide +kernel
theorem d_Mo_resolve_84 : decode b_Mo_resolve 84 = .ok (.getfield 41, 3) := by decide +kernel
theorem d_Mo_resolve_87 : decode b_Mo_resolve 87 = .ok (.iload_n 1, 1) := by decide +kernel
theorem d_Mo_resolve_88 : decode b_Mo_resolve 88 = .ok (.iconst 2, 1) := by decide +kernel
theorem d_Mo_resolve_89 : decode b_Mo_resolve 89 = .ok (.iastore, 1) := by decide +kernel
theorem d_Mo_resolve_90 : decode b_Mo_resolve 90 = .ok (.iinc 1 1, 3) := by decide +kernel
theorem d_Mo_resolve_93 : decode b_Mo_resolve 93 = .ok (.goto (-61), 3) := by decide +kernel
theorem d_Mo_resolve_96 : decode b_Mo_resolve 96 = .ok (.aload_n 0, 1) := by decide +kernel
theorem d_Mo_resolve_97 : decode b_Mo_resolve 97 = .ok (.invokevirtual 180, 3) := by decide +kernel
theorem d_Mo_resolve_100 : decode b_Mo_resolve 100 = .ok (.aload_n 0, 1) := by decide +kernel
theorem d_Mo_resolve_101 : decode b_Mo_resolve 101 = .ok (.invokevirtual 167, 3) := by decide +kernel
theorem d_Mo_resolve_104 : decode b_Mo_resolve 104 = .ok (.ifCond .lt 14, 3) := by decide +kernel
theorem d_Mo_resolve_107 : decode b_Mo_resolve 107 = .ok (.aload_n 0, 1) := by decide +kernel
theorem d_Mo_resolve_108 : decode b_Mo_resolve 108 = .ok (.invokevirtual 183, 3) := by decide +kernel
theorem d_Mo_resolve_111 : decode b_Mo_resolve 111 = .ok (.aload_n 0, 1) := by decide +kernel
theorem d_Mo_resolve_112 : decode b_Mo_resolve 112 = .ok (.invokevirtual 180, 3) := by decide +kernel
theorem d_Mo_resolve_115 : decode b_Mo_resolve 115 = .ok (.goto (-15), 3) := by decide +kernel
theorem d_Mo_resolve_118 : decode b_Mo_resolve 118 = .ok (.aload_n 0, 1) := by decide +kernel
theorem d_Mo_resolve_119 : decode b_Mo_resolve 119 = .ok (.invokevirtual 186, 3) := by decide +kernel
theorem d_Mo_resolve_122 : decode b_Mo_resolve 122 = .ok (.aload_n 0, 1) := by decide +kernel
theorem d_Mo_resolve_123 : decode b_Mo_resolve 123 = .ok (.invokevirtual 189, 3) := by decide +kernel
theorem d_Mo_resolve_126 : decode b_Mo_resolve 126 = .ok (.istore_n 1, 1) := by decide +kernel
theorem d_Mo_resolve_127 : decode b_Mo_resolve 127 = .ok (.iconst 0, 1) := by decide +kernel
theorem d_Mo_resolve_128 : decode b_Mo_resolve 128 = .ok (.istore_n 2, 1) := by decide +kernel
theorem d_Mo_resolve_129 : decode b_Mo_resolve 129 = .ok (.iconst 0, 1) := by decide +kernel
theorem d_Mo_resolve_130 : decode b_Mo_resolve 130 = .ok (.istore_n 3, 1) := by decide +kernel
theorem d_Mo_resolve_131 : decode b_Mo_resolve 131 = .ok (.iload_n 3, 1) := by decide +kernel
theorem d_Mo_resolve_132 : decode b_Mo_resolve 132 = .ok (.aload_n 0, 1) := by decide +kernel
theorem d_Mo_resolve_133 : decode b_Mo_resolve 133 = .ok (.getfield 72, 3) := by decide +kernel
theorem d_Mo_resolve_136 : decode b_Mo_resolve 136 = .ok (.if_icmp .ge 28, 3) := by decide +kernel
theorem d_Mo_resolve_139 : decode b_Mo_resolve 139 = .ok (.iload_n 2, 1) := by decide +kernel
theorem d_Mo_resolve_140 : decode b_Mo_resolve 140 = .ok (.ifCond .ne 12, 3) := by decide +kernel
theorem d_Mo_resolve_143 : decode b_Mo_resolve 143 = .ok (.aload_n 0, 1) := by decide +kernel
theorem d_Mo_resolve_144 : decode b_Mo_resolve 144 = .ok (.getfield 50, 3) := by decide +kernel
theorem d_Mo_resolve_147 : decode b_Mo_resolve 147 = .ok (.iload_n 3, 1) := by decide +kernel
theorem d_Mo_resolve_148 : decode b_Mo_resolve 148 = .ok (.iaload, 1) := by decide +kernel
theorem d_Mo_resolve_149 : decode b_Mo_resolve 149 = .ok (.ifCond .lt 7, 3) := by decide +kernel
theorem d_Mo_resolve_152 : decode b_Mo_resolve 152 = .ok (.iconst 1, 1) := by decide +kernel
theorem d_Mo_resolve_153 : decode b_Mo_resolve 153 = .ok (.goto 4, 3) := by decide +kernel
theorem d_Mo_resolve_156 : decode b_Mo_resolve 156 = .ok (.iconst 0, 1) := by decide +kernel
theorem d_Mo_resolve_157 : decode b_Mo_resolve 157 = .ok (.istore_n 2, 1) := by decide +kernel
theorem d_Mo_resolve_158 : decode b_Mo_resolve 158 = .ok (.iinc 3 1, 3) := by decide +kernel
theorem d_Mo_resolve_161 : decode b_Mo_resolve 161 = .ok (.goto (-30), 3) := by decide +kernel
theorem d_Mo_resolve_164 : decode b_Mo_resolve 164 = .ok (.iload_n 2, 1) := by decide +kernel
theorem d_Mo_resolve_165 : decode b_Mo_resolve 165 = .ok (.ifCond .eq 11, 3) := by decide +kernel
theorem d_Mo_resolve_168 : decode b_Mo_resolve 168 = .ok (.aload_n 0, 1) := by decide +kernel
theorem d_Mo_resolve_169 : decode b_Mo_resolve 169 = .ok (.iconst 2, 1) := by decide +kernel
theorem d_Mo_resolve_170 : decode b_Mo_resolve 170 = .ok (.putfield 75, 3) := by decide +kernel
theorem d_Mo_resolve_173 : decode b_Mo_resolve 173 = .ok (.goto 7, 3) := by decide +kernel
theorem d_Mo_resolve_176 : decode b_Mo_resolve 176 = .ok (.aload_n 0, 1) := by decide +kernel
theorem d_Mo_resolve_177 : decode b_Mo_resolve 177 = .ok (.invokevirtual 192, 3) := by decide +kernel
theorem d_Mo_resolve_180 : decode b_Mo_resolve 180 = .ok (.iload_n 1, 1) := by decide +kernel
theorem d_Mo_resolve_181 : decode b_Mo_resolve 181 = .ok (.ireturn, 1) := by decide +kernel

set_option maxHeartbeats 4000000 in
set_option maxRecDepth 100000 in
theorem c_Mo_resolve_1 (l : Launch) (D : va_G) (cI cZ cJ cS : ClassId) (aT : Nat) (ceT : Cell) (sz : Nat) (g0 m_sea m_center m_home m_borders m_owner m_units m_kind m_toX m_toY m_results m_known m_reached m_way m_aside m_origin m_retreats m_contested m_moved m_past : Nat) (co ar mt msh : Int32)  : Met l y_Mo_resolve w_Mo_resolve ({ frames := 1, cells := 0, slots := 0, locals := 21 }) (tH D cI cZ cJ cS aT ceT [.ref g0] sz [(g0, .inr (6, [.int co, .int ar, .ref m_sea, .ref m_center, .ref m_home, .ref m_borders, .int 0, .int mt, .ref m_owner, .ref m_units, .ref m_kind, .ref m_toX, .ref m_toY, .ref m_results, .ref m_known, .ref m_reached, .ref m_way, .ref m_aside, .ref m_origin, .ref m_retreats, .ref m_contested, .ref m_moved, .int msh, .ref m_past]))]) (va_Qi (fun (r : Int32) (_ : Unit) => r = 0) (fun _ t => tB D (va_A [(g0, .inr (6, [.int co, .int ar, .ref m_sea, .ref m_center, .ref m_home, .ref m_borders, .int 0, .int mt, .ref m_owner, .ref m_units, .ref m_kind, .ref m_toX, .ref m_toY, .ref m_results, .ref m_known, .ref m_reached, .ref m_way, .ref m_aside, .ref m_origin, .ref m_retreats, .ref m_contested, .ref m_moved, .int msh, .ref m_past]))] sz) [(g0, .inr (6, [.int 1, .int ar, .ref m_sea, .ref m_center, .ref m_home, .ref m_borders, .int 0, .int mt, .ref m_owner, .ref m_units, .ref m_kind, .ref m_toX, .ref m_toY, .ref m_results, .ref m_known, .ref m_reached, .ref m_way, .ref m_aside, .ref m_origin, .ref m_retreats, .ref m_contested, .ref m_moved, .int msh, .ref m_past]))] t) (va_A [(g0, .inr (6, [.int co, .int ar, .ref m_sea, .ref m_center, .ref m_home, .ref m_borders, .int 0, .int mt, .ref m_owner, .ref m_units, .ref m_kind, .ref m_toX, .ref m_toY, .ref m_results, .ref m_known, .ref m_reached, .ref m_way, .ref m_aside, .ref m_origin, .ref m_retreats, .ref m_contested, .ref m_moved, .int msh, .ref m_past]))] sz)) 0 0 (va_A [(g0, .inr (6, [.int co, .int ar, .ref m_sea, .ref m_center, .ref m_home, .ref m_borders, .int 0, .int mt, .ref m_owner, .ref m_units, .ref m_kind, .ref m_toX, .ref m_toY, .ref m_results, .ref m_known, .ref m_reached, .ref m_way, .ref m_aside, .ref m_origin, .ref m_retreats, .ref m_contested, .ref m_moved, .int msh, .ref m_past]))] sz) := by
  refine Met.ofW (cc := b_Mo_resolve) (maxL := 4) (ret := (some .int)) (by decide) rfl ?_
  intro p e s m args below meth c s₁ B hml hv
  obtain ⟨rfl, hsz, hP, hK, hD0, hX⟩ := hv
  have hx := B.exec
  have hb := B.bytes
  have hr := B.returns
  have hts0 := atoms_spec (ws := w_Mo_resolve) B.pre
  have hts : ∀ w ∈ TB, w.before _ s = true := fun w h => hts0 w (List.mem_cons_of_mem _ h)
  have hown : s.vm.findClass R_Mo = some m.cls := findClass_of_methodNamed B.named
  have hlocks := B.notSynchronized
  subst hsz
  have hXl := tx_lt hX
  have hXn := tx_far hP hX
  have hD := hD0.self (sz := s.heap.size)
  generalize hAe : va_A [(g0, .inr (6, [.int co, .int ar, .ref m_sea, .ref m_center, .ref m_home, .ref m_borders, .int 0, .int mt, .ref m_owner, .ref m_units, .ref m_kind, .ref m_toX, .ref m_toY, .ref m_results, .ref m_known, .ref m_reached, .ref m_way, .ref m_aside, .ref m_origin, .ref m_retreats, .ref m_contested, .ref m_moved, .int msh, .ref m_past]))] s.heap.size = A at hD hXn ⊢
  have hA : ∀ q : Nat, s.heap.size ≤ q → A q := fun q h => by rw [← hAe]; exact Or.inr h
  have hS : va_S A s.heap s.heap [] := va_S.rf
  have hXH : s.heap[aT]? = s.heap[aT]? := rfl
  have hl := lv_entry ([.ref g0]) (n := 4) (Nat.le_of_ble_eq_true rfl)
  rw [lg_entry_eq]
  generalize (lg_sl ([.ref g0]) ++ List.replicate (4 - (lg_sl ([.ref g0])).length) Slot.unset).toArray = ls at hl ⊢
  have hl : lv_has ls 4 [(0, .ref g0)] := hl
  refine lv_aload_n hx hb d_Mo_resolve_0 rfl (lv_at hl 0 rfl) ?_
  refine lv_aload_n hx hb d_Mo_resolve_1 rfl (lv_at hl 0 rfl) ?_
  refine va_get (D := D) (ci := 6) (v := .int 0) (C := R_Mo) (T := T_Mo) (N := 24) hx hb hts hin_Mo hown hK hP 0 rfl rfl 6 (by decide) (hts _ wd_710) (fun _ h9 => h9) rfl d_Mo_resolve_2 ?_
  refine lv_iconst (v := 1) hx hb d_Mo_resolve_5 (by decide) ?_
  refine lv_icmp_ne (tgt := 13) hx hb d_Mo_resolve_6 (by decide) (fun _ => ?_) (fun h0 => absurd h0 (by decide))
  refine lv_iconst (v := 1) hx hb d_Mo_resolve_13 (by decide) ?_
  refine va_put (D := D) (ci := 6) (v := .int 1) (ty := .int) (C := R_Mo) (T := T_Mo) (N := 24) hx hb hts hin_Mo ty_Mo tyok_Mo nm_Mo hown hK hP hD hS 0 rfl rfl 0 (by decide) (hts _ wd_704) (fun _ h9 => h9) rfl (by decide +kernel) rfl rfl (Nat.le_of_ble_eq_true rfl) d_Mo_resolve_14 (fun H locs hP hD hS => ?_)
  have hP : va_P D vwCl [(g0, .inr (6, [.int 1, .int ar, .ref m_sea, .ref m_center, .ref m_home, .ref m_borders, .int 0, .int mt, .ref m_owner, .ref m_units, .ref m_kind, .ref m_toX, .ref m_toY, .ref m_results, .ref m_known, .ref m_reached, .ref m_way, .ref m_aside, .ref m_origin, .ref m_retreats, .ref m_contested, .ref m_moved, .int msh, .ref m_past]))] H := hP
  have hD : va_D A [(g0, .inr (6, [.int 1, .int ar, .ref m_sea, .ref m_center, .ref m_home, .ref m_borders, .int 0, .int mt, .ref m_owner, .ref m_units, .ref m_kind, .ref m_toX, .ref m_toY, .ref m_results, .ref m_known, .ref m_reached, .ref m_way, .ref m_aside, .ref m_origin, .ref m_retreats, .ref m_contested, .ref m_moved, .int msh, .ref m_past]))] := hD
  refine lv_aload_n hx hb d_Mo_resolve_17 rfl (lv_at hl 0 rfl) ?_
  refine va_get (D := D) (ci := 6) (v := .int 1) (C := R_Mo) (T := T_Mo) (N := 24) hx hb hts hin_Mo hown hK hP 0 rfl rfl 0 (by decide) (hts _ wd_704) (fun _ h9 => h9) rfl d_Mo_resolve_18 ?_
  refine lv_if_eq (tgt := 26) hx hb d_Mo_resolve_21 (by decide) (fun h0 => absurd h0 (by decide)) (fun _ => ?_)
  refine lv_iconst (v := 0) hx hb d_Mo_resolve_24 (by decide) ?_
  have hP9 := hP.sub (ws' := [(g0, .inr (6, [.int 1, .int ar, .ref m_sea, .ref m_center, .ref m_home, .ref m_borders, .int 0, .int mt, .ref m_owner, .ref m_units, .ref m_kind, .ref m_toX, .ref m_toY, .ref m_results, .ref m_known, .ref m_reached, .ref m_way, .ref m_aside, .ref m_origin, .ref m_retreats, .ref m_contested, .ref m_moved, .int msh, .ref m_past]))]) [0] rfl
  have hD9 := hD.sub (ws' := [(g0, .inr (6, [.int 1, .int ar, .ref m_sea, .ref m_center, .ref m_home, .ref m_borders, .int 0, .int mt, .ref m_owner, .ref m_units, .ref m_kind, .ref m_toX, .ref m_toY, .ref m_results, .ref m_known, .ref m_reached, .ref m_way, .ref m_aside, .ref m_origin, .ref m_retreats, .ref m_contested, .ref m_moved, .int msh, .ref m_past]))]) [0] (by decide) rfl
  exact W.iret (v := 0) hx hb hr (fun t ht hW => ⟨⟨0, (), rfl, rfl, by rw [ht]; exact hP9, hD9⟩, hS.F ht⟩) hS.2.2 d_Mo_resolve_25

theorem d_Mo_retreat_0 : decode b_Mo_retreat 0 = .ok (.aload_n 0, 1) := by decide +kernel
theorem d_Mo_retreat_1 : decode b_Mo_retreat 1 = .ok (.iload_n 1, 1) := by decide +kernel
theorem d_Mo_retreat_2 : decode b_Mo_retreat 2 = .ok (.invokestatic 89, 3) := by decide +kernel
theorem d_Mo_retreat_5 : decode b_Mo_retreat 5 = .ok (.ifCond .eq 19, 3) := by decide +kernel
theorem d_Mo_retreat_8 : decode b_Mo_retreat 8 = .ok (.aload_n 0, 1) := by decide +kernel
theorem d_Mo_retreat_9 : decode b_Mo_retreat 9 = .ok (.iload_n 2, 1) := by decide +kernel
theorem d_Mo_retreat_10 : decode b_Mo_retreat 10 = .ok (.invokevirtual 78, 3) := by decide +kernel
theorem d_Mo_retreat_13 : decode b_Mo_retreat 13 = .ok (.ifCond .eq 11, 3) := by decide +kernel
theorem d_Mo_retreat_16 : decode b_Mo_retreat 16 = .ok (.aload_n 0, 1) := by decide +kernel
theorem d_Mo_retreat_17 : decode b_Mo_retreat 17 = .ok (.iload_n 3, 1) := by decide +kernel
theorem d_Mo_retreat_18 : decode b_Mo_retreat 18 = .ok (.invokevirtual 78, 3) := by decide +kernel
theorem d_Mo_retreat_21 : decode b_Mo_retreat 21 = .ok (.ifCond .ne 7, 3) := by decide +kernel
theorem d_Mo_retreat_24 : decode b_Mo_retreat 24 = .ok (.iconst 1, 1) := by decide +kernel
theorem d_Mo_retreat_25 : decode b_Mo_retreat 25 = .ok (.goto 16, 3) := by decide +kernel
theorem d_Mo_retreat_28 : decode b_Mo_retreat 28 = .ok (.aload_n 0, 1) := by decide +kernel
theorem d_Mo_retreat_29 : decode b_Mo_retreat 29 = .ok (.getfield 75, 3) := by decide +kernel
theorem d_Mo_retreat_32 : decode b_Mo_retreat 32 = .ok (.iconst 2, 1) := by decide +kernel
theorem d_Mo_retreat_33 : decode b_Mo_retreat 33 = .ok (.if_icmp .eq 7, 3) := by decide +kernel
theorem d_Mo_retreat_36 : decode b_Mo_retreat 36 = .ok (.iconst 2, 1) := by decide +kernel
theorem d_Mo_retreat_37 : decode b_Mo_retreat 37 = .ok (.goto 4, 3) := by decide +kernel
theorem d_Mo_retreat_40 : decode b_Mo_retreat 40 = .ok (.iconst 0, 1) := by decide +kernel
theorem d_Mo_retreat_41 : decode b_Mo_retreat 41 = .ok (.putfield 68, 3) := by decide +kernel
theorem d_Mo_retreat_44 : decode b_Mo_retreat 44 = .ok (.aload_n 0, 1) := by decide +kernel
theorem d_Mo_retreat_45 : decode b_Mo_retreat 45 = .ok (.getfield 68, 3) := by decide +kernel
theorem d_Mo_retreat_48 : decode b_Mo_retreat 48 = .ok (.ifCond .eq 5, 3) := by decide +kernel
theorem d_Mo_retreat_51 : decode b_Mo_retreat 51 = .ok (.iconst 0, 1) := by decide +kernel
theorem d_Mo_retreat_52 : decode b_Mo_retreat 52 = .ok (.ireturn, 1) := by decide +kernel
theorem d_Mo_retreat_53 : decode b_Mo_retreat 53 = .ok (.aload_n 0, 1) := by decide +kernel
theorem d_Mo_retreat_54 : decode b_Mo_retreat 54 = .ok (.getfield 50, 3) := by decide +kernel
theorem d_Mo_retreat_57 : decode b_Mo_retreat 57 = .ok (.iload_n 2, 1) := by decide +kernel
theorem d_Mo_retreat_58 : decode b_Mo_retreat 58 = .ok (.iaload, 1) := by decide +kernel
theorem d_Mo_retreat_59 : decode b_Mo_retreat 59 = .ok (.ifCond .lt 15, 3) := by decide +kernel
theorem d_Mo_retreat_62 : decode b_Mo_retreat 62 = .ok (.aload_n 0, 1) := by decide +kernel
theorem d_Mo_retreat_63 : decode b_Mo_retreat 63 = .ok (.getfield 50, 3) := by decide +kernel
theorem d_Mo_retreat_66 : decode b_Mo_retreat 66 = .ok (.iload_n 2, 1) := by decide +kernel
theorem d_Mo_retreat_67 : decode b_Mo_retreat 67 = .ok (.iaload, 1) := by decide +kernel
theorem d_Mo_retreat_68 : decode b_Mo_retreat 68 = .ok (.iconst 2, 1) := by decide +kernel
theorem d_Mo_retreat_69 : decode b_Mo_retreat 69 = .ok (.idiv, 1) := by decide +kernel
theorem d_Mo_retreat_70 : decode b_Mo_retreat 70 = .ok (.iload_n 1, 1) := by decide +kernel
theorem d_Mo_retreat_71 : decode b_Mo_retreat 71 = .ok (.if_icmp .eq 5, 3) := by decide +kernel
theorem d_Mo_retreat_74 : decode b_Mo_retreat 74 = .ok (.iconst 1, 1) := by decide +kernel
theorem d_Mo_retreat_75 : decode b_Mo_retreat 75 = .ok (.ireturn, 1) := by decide +kernel
theorem d_Mo_retreat_76 : decode b_Mo_retreat 76 = .ok (.aload_n 0, 1) := by decide +kernel
theorem d_Mo_retreat_77 : decode b_Mo_retreat 77 = .ok (.iload_n 2, 1) := by decide +kernel
theorem d_Mo_retreat_78 : decode b_Mo_retreat 78 = .ok (.iload_n 3, 1) := by decide +kernel
theorem d_Mo_retreat_79 : decode b_Mo_retreat 79 = .ok (.invokevirtual 201, 3) := by decide +kernel
theorem d_Mo_retreat_82 : decode b_Mo_retreat 82 = .ok (.ifCond .ne 5, 3) := by decide +kernel
theorem d_Mo_retreat_85 : decode b_Mo_retreat 85 = .ok (.iconst 2, 1) := by decide +kernel
theorem d_Mo_retreat_86 : decode b_Mo_retreat 86 = .ok (.ireturn, 1) := by decide +kernel
theorem d_Mo_retreat_87 : decode b_Mo_retreat 87 = .ok (.aload_n 0, 1) := by decide +kernel
theorem d_Mo_retreat_88 : decode b_Mo_retreat 88 = .ok (.getfield 56, 3) := by decide +kernel
theorem d_Mo_retreat_91 : decode b_Mo_retreat 91 = .ok (.iload_n 2, 1) := by decide +kernel
theorem d_Mo_retreat_92 : decode b_Mo_retreat 92 = .ok (.iload_n 3, 1) := by decide +kernel
theorem d_Mo_retreat_93 : decode b_Mo_retreat 93 = .ok (.iastore, 1) := by decide +kernel
theorem d_Mo_retreat_94 : decode b_Mo_retreat 94 = .ok (.iconst 0, 1) := by decide +kernel
theorem d_Mo_retreat_95 : decode b_Mo_retreat 95 = .ok (.ireturn, 1) := by decide +kernel

set_option maxHeartbeats 4000000 in
set_option maxRecDepth 100000 in
theorem c_Mo_retreat_0 (l : Launch) (D : va_G) (cI cZ cJ cS : ClassId) (aT : Nat) (ceT : Cell) (sz : Nat) (g0 m_sea m_center m_home m_borders m_owner m_units m_kind m_toX m_toY m_results m_known m_reached m_way m_aside m_origin m_retreats m_contested m_moved m_past : Nat) (co mp mt msh : Int32) (pl a b : Int32)  : Met l y_Mo_retreat w_Mo_retreat ({ frames := 1, cells := 0, slots := 0, locals := 21 }) (tH D cI cZ cJ cS aT ceT [.ref g0, .int pl, .int a, .int b] sz [(g0, .inr (6, [.int co, .int 0, .ref m_sea, .ref m_center, .ref m_home, .ref m_borders, .int mp, .int mt, .ref m_owner, .ref m_units, .ref m_kind, .ref m_toX, .ref m_toY, .ref m_results, .ref m_known, .ref m_reached, .ref m_way, .ref m_aside, .ref m_origin, .ref m_retreats, .ref m_contested, .ref m_moved, .int msh, .ref m_past]))]) (va_Qi (fun (r : Int32) (_ : Unit) => r = 0) (fun _ t => tB D (va_A [(g0, .inr (6, [.int co, .int 0, .ref m_sea, .ref m_center, .ref m_home, .ref m_borders, .int mp, .int mt, .ref m_owner, .ref m_units, .ref m_kind, .ref m_toX, .ref m_toY, .ref m_results, .ref m_known, .ref m_reached, .ref m_way, .ref m_aside, .ref m_origin, .ref m_retreats, .ref m_contested, .ref m_moved, .int msh, .ref m_past]))] sz) [(g0, .inr (6, [.int 1, .int 0, .ref m_sea, .ref m_center, .ref m_home, .ref m_borders, .int mp, .int mt, .ref m_owner, .ref m_units, .ref m_kind, .ref m_toX, .ref m_toY, .ref m_results, .ref m_known, .ref m_reached, .ref m_way, .ref m_aside, .ref m_origin, .ref m_retreats, .ref m_contested, .ref m_moved, .int msh, .ref m_past]))] t) (va_A [(g0, .inr (6, [.int co, .int 0, .ref m_sea, .ref m_center, .ref m_home, .ref m_borders, .int mp, .int mt, .ref m_owner, .ref m_units, .ref m_kind, .ref m_toX, .ref m_toY, .ref m_results, .ref m_known, .ref m_reached, .ref m_way, .ref m_aside, .ref m_origin, .ref m_retreats, .ref m_contested, .ref m_moved, .int msh, .ref m_past]))] sz)) 0 0 (va_A [(g0, .inr (6, [.int co, .int 0, .ref m_sea, .ref m_center, .ref m_home, .ref m_borders, .int mp, .int mt, .ref m_owner, .ref m_units, .ref m_kind, .ref m_toX, .ref m_toY, .ref m_results, .ref m_known, .ref m_reached, .ref m_way, .ref m_aside, .ref m_origin, .ref m_retreats, .ref m_contested, .ref m_moved, .int msh, .ref m_past]))] sz) := by
  refine Met.ofW (cc := b_Mo_retreat) (maxL := 4) (ret := (some .int)) (by decide) rfl ?_
  intro p e s m args below meth c s₁ B hml hv
  obtain ⟨rfl, hsz, hP, hK, hD0, hX⟩ := hv
  have hx := B.exec
  have hb := B.bytes
  have hr := B.returns
  have hts0 := atoms_spec (ws := w_Mo_retreat) B.pre
  have hts : ∀ w ∈ TB, w.before _ s = true := fun w h => hts0 w (List.mem_cons_of_mem _ h)
  have hown : s.vm.findClass R_Mo = some m.cls := findClass_of_methodNamed B.named
  have hlocks := B.notSynchronized
  subst hsz
  have hXl := tx_lt hX
  have hXn := tx_far hP hX
  have hD := hD0.self (sz := s.heap.size)
  generalize hAe : va_A [(g0, .inr (6, [.int co, .int 0, .ref m_sea, .ref m_center, .ref m_home, .ref m_borders, .int mp, .int mt, .ref m_owner, .ref m_units, .ref m_kind, .ref m_toX, .ref m_toY, .ref m_results, .ref m_known, .ref m_reached, .ref m_way, .ref m_aside, .ref m_origin, .ref m_retreats, .ref m_contested, .ref m_moved, .int msh, .ref m_past]))] s.heap.size = A at hD hXn ⊢
  have hA : ∀ q : Nat, s.heap.size ≤ q → A q := fun q h => by rw [← hAe]; exact Or.inr h
  have hS : va_S A s.heap s.heap [] := va_S.rf
  have hXH : s.heap[aT]? = s.heap[aT]? := rfl
  have hl := lv_entry ([.ref g0, .int pl, .int a, .int b]) (n := 4) (Nat.le_of_ble_eq_true rfl)
  rw [lg_entry_eq]
  generalize (lg_sl ([.ref g0, .int pl, .int a, .int b]) ++ List.replicate (4 - (lg_sl ([.ref g0, .int pl, .int a, .int b])).length) Slot.unset).toArray = ls at hl ⊢
  have hl : lv_has ls 4 [(0, .ref g0), (1, .int pl), (2, .int a), (3, .int b)] := hl
  refine lv_aload_n hx hb d_Mo_retreat_0 rfl (lv_at hl 0 rfl) ?_
  refine lv_iload_n hx hb d_Mo_retreat_1 rfl (lv_at hl 1 rfl) ?_
  have hPc := hP.sub (ws' := []) [] rfl
  refine vp_callSi (va_Run.run (va_runS (As := [.int pl]) (rest := [.ref g0]) ⟨hx, hb, hml, hown, hts⟩ (c_Mo_isPlayer l D cI cZ cJ cS aT ceT  pl ) (va_cwS 1 hts (tb_3 wd_802 wd_803 wd_8 (tb_c wd_804)) rfl rfl rfl ⟨by decide, by decide, by decide +kernel⟩ ⟨Nat.le_of_ble_eq_true rfl, Nat.le_of_ble_eq_true rfl⟩) (tP_S hK hX (hS.2.1 aT hXl hXn) hPc) rfl rfl hl.1 rfl (lv_room (Nat.le_of_ble_eq_true rfl)) d_Mo_retreat_2 ⟨Nat.le_of_ble_eq_true rfl, Nat.le_of_ble_eq_true rfl⟩)) (fun r1 hr9 => ?_)
  rcases hr9 with ⟨rfl, hq2⟩ | ⟨rfl, hq2⟩
  · -- 2: true
    refine lv_if_eq (tgt := 24) hx hb d_Mo_retreat_5 (by decide) (fun h0 => absurd h0 (by decide)) (fun _ => ?_)
    refine lv_aload_n hx hb d_Mo_retreat_8 rfl (lv_at hl 0 rfl) ?_
    refine lv_iload_n hx hb d_Mo_retreat_9 rfl (lv_at hl 2 rfl) ?_
    have hPc := hP.sub (ws' := [(g0, .inr (6, [.int co, .int 0, .ref m_sea, .ref m_center, .ref m_home, .ref m_borders, .int mp, .int mt, .ref m_owner, .ref m_units, .ref m_kind, .ref m_toX, .ref m_toY, .ref m_results, .ref m_known, .ref m_reached, .ref m_way, .ref m_aside, .ref m_origin, .ref m_retreats, .ref m_contested, .ref m_moved, .int msh, .ref m_past]))]) [0] rfl
    refine vp_callSi (va_Run.run (va_runV (As := [.int a]) (rest := [.ref g0]) ⟨hx, hb, hml, hown, hts⟩ (c_Mo_isArea l D cI cZ cJ cS aT ceT  g0 m_sea m_center m_home m_borders m_owner m_units m_kind m_toX m_toY m_results m_known m_reached m_way m_aside m_origin m_retreats m_contested m_moved m_past co 0 mp mt msh a ) (cwV 1 hts (tb_4 wd_790 wd_792 wp_36 wd_8 (tb_c wd_793)) rfl rfl rfl ⟨rfl, by decide, by decide, by decide +kernel⟩ ⟨Nat.le_of_ble_eq_true rfl, Nat.le_of_ble_eq_true rfl⟩) (tP_V hK hX (hS.2.1 aT hXl hXn) hPc (q := 0) rfl rfl) rfl rfl hl.1 rfl (lv_room (Nat.le_of_ble_eq_true rfl)) d_Mo_retreat_10 ⟨Nat.le_of_ble_eq_true rfl, Nat.le_of_ble_eq_true rfl⟩)) (fun r4 hr9 => ?_)
    rcases hr9 with ⟨rfl, hq5⟩ | ⟨rfl, hq5⟩
    · exact absurd hq5 tn_no
    · -- 10: false
      refine lv_if_eq (tgt := 24) hx hb d_Mo_retreat_13 (by decide) (fun _ => ?_) (fun h0 => absurd (by decide) h0)
      refine lv_iconst (v := 1) hx hb d_Mo_retreat_24 (by decide) ?_
      refine lv_goto (tgt := 41) hx hb d_Mo_retreat_25 (by decide) ?_
      refine va_put (D := D) (ci := 6) (v := .int 1) (ty := .int) (C := R_Mo) (T := T_Mo) (N := 24) hx hb hts hin_Mo ty_Mo tyok_Mo nm_Mo hown hK hP hD hS 0 rfl rfl 0 (by decide) (hts _ wd_704) (fun _ h9 => h9) rfl (by decide +kernel) rfl rfl (Nat.le_of_ble_eq_true rfl) d_Mo_retreat_41 (fun H locs hP hD hS => ?_)
      have hP : va_P D vwCl [(g0, .inr (6, [.int 1, .int 0, .ref m_sea, .ref m_center, .ref m_home, .ref m_borders, .int mp, .int mt, .ref m_owner, .ref m_units, .ref m_kind, .ref m_toX, .ref m_toY, .ref m_results, .ref m_known, .ref m_reached, .ref m_way, .ref m_aside, .ref m_origin, .ref m_retreats, .ref m_contested, .ref m_moved, .int msh, .ref m_past]))] H := hP
      have hD : va_D A [(g0, .inr (6, [.int 1, .int 0, .ref m_sea, .ref m_center, .ref m_home, .ref m_borders, .int mp, .int mt, .ref m_owner, .ref m_units, .ref m_kind, .ref m_toX, .ref m_toY, .ref m_results, .ref m_known, .ref m_reached, .ref m_way, .ref m_aside, .ref m_origin, .ref m_retreats, .ref m_contested, .ref m_moved, .int msh, .ref m_past]))] := hD
      refine lv_aload_n hx hb d_Mo_retreat_44 rfl (lv_at hl 0 rfl) ?_
      refine va_get (D := D) (ci := 6) (v := .int 1) (C := R_Mo) (T := T_Mo) (N := 24) hx hb hts hin_Mo hown hK hP 0 rfl rfl 0 (by decide) (hts _ wd_704) (fun _ h9 => h9) rfl d_Mo_retreat_45 ?_
      refine lv_if_eq (tgt := 53) hx hb d_Mo_retreat_48 (by decide) (fun h0 => absurd h0 (by decide)) (fun _ => ?_)
      refine lv_iconst (v := 0) hx hb d_Mo_retreat_51 (by decide) ?_
      have hP9 := hP.sub (ws' := [(g0, .inr (6, [.int 1, .int 0, .ref m_sea, .ref m_center, .ref m_home, .ref m_borders, .int mp, .int mt, .ref m_owner, .ref m_units, .ref m_kind, .ref m_toX, .ref m_toY, .ref m_results, .ref m_known, .ref m_reached, .ref m_way, .ref m_aside, .ref m_origin, .ref m_retreats, .ref m_contested, .ref m_moved, .int msh, .ref m_past]))]) [0] rfl
      have hD9 := hD.sub (ws' := [(g0, .inr (6, [.int 1, .int 0, .ref m_sea, .ref m_center, .ref m_home, .ref m_borders, .int mp, .int mt, .ref m_owner, .ref m_units, .ref m_kind, .ref m_toX, .ref m_toY, .ref m_results, .ref m_known, .ref m_reached, .ref m_way, .ref m_aside, .ref m_origin, .ref m_retreats, .ref m_contested, .ref m_moved, .int msh, .ref m_past]))]) [0] (by decide) rfl
      exact W.iret (v := 0) hx hb hr (fun t ht hW => ⟨⟨0, (), rfl, rfl, by rw [ht]; exact hP9, hD9⟩, hS.F ht⟩) hS.2.2 d_Mo_retreat_52
  · -- 2: false
    refine lv_if_eq (tgt := 24) hx hb d_Mo_retreat_5 (by decide) (fun _ => ?_) (fun h0 => absurd (by decide) h0)
    refine lv_iconst (v := 1) hx hb d_Mo_retreat_24 (by decide) ?_
    refine lv_goto (tgt := 41) hx hb d_Mo_retreat_25 (by decide) ?_
    refine va_put (D := D) (ci := 6) (v := .int 1) (ty := .int) (C := R_Mo) (T := T_Mo) (N := 24) hx hb hts hin_Mo ty_Mo tyok_Mo nm_Mo hown hK hP hD hS 0 rfl rfl 0 (by decide) (hts _ wd_704) (fun _ h9 => h9) rfl (by decide +kernel) rfl rfl (Nat.le_of_ble_eq_true rfl) d_Mo_retreat_41 (fun H locs hP hD hS => ?_)
    have hP : va_P D vwCl [(g0, .inr (6, [.int 1, .int 0, .ref m_sea, .ref m_center, .ref m_home, .ref m_borders, .int mp, .int mt, .ref m_owner, .ref m_units, .ref m_kind, .ref m_toX, .ref m_toY, .ref m_results, .ref m_known, .ref m_reached, .ref m_way, .ref m_aside, .ref m_origin, .ref m_retreats, .ref m_contested, .ref m_moved, .int msh, .ref m_past]))] H := hP
    have hD : va_D A [(g0, .inr (6, [.int 1, .int 0, .ref m_sea, .ref m_center, .ref m_home, .ref m_borders, .int mp, .int mt, .ref m_owner, .ref m_units, .ref m_kind, .ref m_toX, .ref m_toY, .ref m_results, .ref m_known, .ref m_reached, .ref m_way, .ref m_aside, .ref m_origin, .ref m_retreats, .ref m_contested, .ref m_moved, .int msh, .ref m_past]))] := hD
    refine lv_aload_n hx hb d_Mo_retreat_44 rfl (lv_at hl 0 rfl) ?_
    refine va_get (D := D) (ci := 6) (v := .int 1) (C := R_Mo) (T := T_Mo) (N := 24) hx hb hts hin_Mo hown hK hP 0 rfl rfl 0 (by decide) (hts _ wd_704) (fun _ h9 => h9) rfl d_Mo_retreat_45 ?_
    refine lv_if_eq (tgt := 53) hx hb d_Mo_retreat_48 (by decide) (fun h0 => absurd h0 (by decide)) (fun _ => ?_)
    refine lv_iconst (v := 0) hx hb d_Mo_retreat_51 (by decide) ?_
    have hP9 := hP.sub (ws' := [(g0, .inr (6, [.int 1, .int 0, .ref m_sea, .ref m_center, .ref m_home, .ref m_borders, .int mp, .int mt, .ref m_owner, .ref m_units, .ref m_kind, .ref m_toX, .ref m_toY, .ref m_results, .ref m_known, .ref m_reached, .ref m_way, .ref m_aside, .ref m_origin, .ref m_retreats, .ref m_contested, .ref m_moved, .int msh, .ref m_past]))]) [0] rfl
    have hD9 := hD.sub (ws' := [(g0, .inr (6, [.int 1, .int 0, .ref m_sea, .ref m_center, .ref m_home, .ref m_borders, .int mp, .int mt, .ref m_owner, .ref m_units, .ref m_kind, .ref m_toX, .ref m_toY, .ref m_results, .ref m_known, .ref m_reached, .ref m_way, .ref m_aside, .ref m_origin, .ref m_retreats, .ref m_contested, .ref m_moved, .int msh, .ref m_past]))]) [0] (by decide) rfl
    exact W.iret (v := 0) hx hb hr (fun t ht hW => ⟨⟨0, (), rfl, rfl, by rw [ht]; exact hP9, hD9⟩, hS.F ht⟩) hS.2.2 d_Mo_retreat_52

theorem d_Mo_build_0 : decode b_Mo_build 0 = .ok (.aload_n 0, 1) := by decide +kernel
theorem d_Mo_build_1 : decode b_Mo_build 1 = .ok (.iload_n 1, 1) := by decide +kernel
theorem d_Mo_build_2 : decode b_Mo_build 2 = .ok (.invokestatic 89, 3) := by decide +kernel
theorem d_Mo_build_5 : decode b_Mo_build 5 = .ok (.ifCond .eq 20, 3) := by decide +kernel
theorem d_Mo_build_8 : decode b_Mo_build 8 = .ok (.aload_n 0, 1) := by decide +kernel
theorem d_Mo_build_9 : decode b_Mo_build 9 = .ok (.iload_n 2, 1) := by decide +kernel
theorem d_Mo_build_10 : decode b_Mo_build 10 = .ok (.invokevirtual 78, 3) := by decide +kernel
theorem d_Mo_build_13 : decode b_Mo_build 13 = .ok (.ifCond .eq 12, 3) := by decide +kernel
theorem d_Mo_build_16 : decode b_Mo_build 16 = .ok (.iload_n 3, 1) := by decide +kernel
theorem d_Mo_build_17 : decode b_Mo_build 17 = .ok (.ifCond .lt 8, 3) := by decide +kernel
theorem d_Mo_build_20 : decode b_Mo_build 20 = .ok (.iload_n 3, 1) := by decide +kernel
theorem d_Mo_build_21 : decode b_Mo_build 21 = .ok (.iconst 2, 1) := by decide +kernel
theorem d_Mo_build_22 : decode b_Mo_build 22 = .ok (.if_icmp .le 7, 3) := by decide +kernel
theorem d_Mo_build_25 : decode b_Mo_build 25 = .ok (.iconst 1, 1) := by decide +kernel
theorem d_Mo_build_26 : decode b_Mo_build 26 = .ok (.goto 16, 3) := by decide +kernel
theorem d_Mo_build_29 : decode b_Mo_build 29 = .ok (.aload_n 0, 1) := by decide +kernel
theorem d_Mo_build_30 : decode b_Mo_build 30 = .ok (.getfield 75, 3) := by decide +kernel
theorem d_Mo_build_33 : decode b_Mo_build 33 = .ok (.iconst 3, 1) := by decide +kernel
theorem d_Mo_build_34 : decode b_Mo_build 34 = .ok (.if_icmp .eq 7, 3) := by decide +kernel
theorem d_Mo_build_37 : decode b_Mo_build 37 = .ok (.iconst 2, 1) := by decide +kernel
theorem d_Mo_build_38 : decode b_Mo_build 38 = .ok (.goto 4, 3) := by decide +kernel
theorem d_Mo_build_41 : decode b_Mo_build 41 = .ok (.iconst 0, 1) := by decide +kernel
theorem d_Mo_build_42 : decode b_Mo_build 42 = .ok (.putfield 68, 3) := by decide +kernel
theorem d_Mo_build_45 : decode b_Mo_build 45 = .ok (.aload_n 0, 1) := by decide +kernel
theorem d_Mo_build_46 : decode b_Mo_build 46 = .ok (.getfield 68, 3) := by decide +kernel
theorem d_Mo_build_49 : decode b_Mo_build 49 = .ok (.ifCond .eq 5, 3) := by decide +kernel
theorem d_Mo_build_52 : decode b_Mo_build 52 = .ok (.iconst 0, 1) := by decide +kernel
theorem d_Mo_build_53 : decode b_Mo_build 53 = .ok (.ireturn, 1) := by decide +kernel
theorem d_Mo_build_54 : decode b_Mo_build 54 = .ok (.aload_n 0, 1) := by decide +kernel
theorem d_Mo_build_55 : decode b_Mo_build 55 = .ok (.iload_n 1, 1) := by decide +kernel
theorem d_Mo_build_56 : decode b_Mo_build 56 = .ok (.iconst 0, 1) := by decide +kernel
theorem d_Mo_build_57 : decode b_Mo_build 57 = .ok (.invokevirtual 195, 3) := by decide +kernel
theorem d_Mo_build_60 : decode b_Mo_build 60 = .ok (.aload_n 0, 1) := by decide +kernel
theorem d_Mo_build_61 : decode b_Mo_build 61 = .ok (.iload_n 1, 1) := by decide +kernel
theorem d_Mo_build_62 : decode b_Mo_build 62 = .ok (.iconst 1, 1) := by decide +kernel
theorem d_Mo_build_63 : decode b_Mo_build 63 = .ok (.invokevirtual 195, 3) := by decide +kernel
theorem d_Mo_build_66 : decode b_Mo_build 66 = .ok (.isub, 1) := by decide +kernel
theorem d_Mo_build_67 : decode b_Mo_build 67 = .ok (.istore 4, 2) := by decide +kernel
theorem d_Mo_build_69 : decode b_Mo_build 69 = .ok (.iload_n 3, 1) := by decide +kernel
theorem d_Mo_build_70 : decode b_Mo_build 70 = .ok (.iconst 2, 1) := by decide +kernel
theorem d_Mo_build_71 : decode b_Mo_build 71 = .ok (.if_icmp .ne 42, 3) := by decide +kernel
theorem d_Mo_build_74 : decode b_Mo_build 74 = .ok (.iload 4, 2) := by decide +kernel
theorem d_Mo_build_76 : decode b_Mo_build 76 = .ok (.ifCond .lt 5, 3) := by decide +kernel
theorem d_Mo_build_79 : decode b_Mo_build 79 = .ok (.iconst 1, 1) := by decide +kernel
theorem d_Mo_build_80 : decode b_Mo_build 80 = .ok (.ireturn, 1) := by decide +kernel
theorem d_Mo_build_81 : decode b_Mo_build 81 = .ok (.aload_n 0, 1) := by decide +kernel
theorem d_Mo_build_82 : decode b_Mo_build 82 = .ok (.getfield 26, 3) := by decide +kernel
theorem d_Mo_build_85 : decode b_Mo_build 85 = .ok (.iload_n 2, 1) := by decide +kernel
theorem d_Mo_build_86 : decode b_Mo_build 86 = .ok (.iaload, 1) := by decide +kernel
theorem d_Mo_build_87 : decode b_Mo_build 87 = .ok (.ifCond .lt 15, 3) := by decide +kernel
theorem d_Mo_build_90 : decode b_Mo_build 90 = .ok (.aload_n 0, 1) := by decide +kernel
theorem d_Mo_build_91 : decode b_Mo_build 91 = .ok (.getfield 26, 3) := by decide +kernel
theorem d_Mo_build_94 : decode b_Mo_build 94 = .ok (.iload_n 2, 1) := by decide +kernel
theorem d_Mo_build_95 : decode b_Mo_build 95 = .ok (.iaload, 1) := by decide +kernel
theorem d_Mo_build_96 : decode b_Mo_build 96 = .ok (.iconst 2, 1) := by decide +kernel
theorem d_Mo_build_97 : decode b_Mo_build 97 = .ok (.idiv, 1) := by decide +kernel
theorem d_Mo_build_98 : decode b_Mo_build 98 = .ok (.iload_n 1, 1) := by decide +kernel
theorem d_Mo_build_99 : decode b_Mo_build 99 = .ok (.if_icmp .eq 5, 3) := by decide +kernel
theorem d_Mo_build_102 : decode b_Mo_build 102 = .ok (.iconst 2, 1) := by decide +kernel
theorem d_Mo_build_103 : decode b_Mo_build 103 = .ok (.ireturn, 1) := by decide +kernel
theorem d_Mo_build_104 : decode b_Mo_build 104 = .ok (.aload_n 0, 1) := by decide +kernel
theorem d_Mo_build_105 : decode b_Mo_build 105 = .ok (.getfield 26, 3) := by decide +kernel
theorem d_Mo_build_108 : decode b_Mo_build 108 = .ok (.iload_n 2, 1) := by decide +kernel
theorem d_Mo_build_109 : decode b_Mo_build 109 = .ok (.iconst (-1), 1) := by decide +kernel
theorem d_Mo_build_110 : decode b_Mo_build 110 = .ok (.iastore, 1) := by decide +kernel
theorem d_Mo_build_111 : decode b_Mo_build 111 = .ok (.iconst 0, 1) := by decide +kernel
theorem d_Mo_build_112 : decode b_Mo_build 112 = .ok (.ireturn, 1) := by decide +kernel
theorem d_Mo_build_113 : decode b_Mo_build 113 = .ok (.iload 4, 2) := by decide +kernel
theorem d_Mo_build_115 : decode b_Mo_build 115 = .ok (.ifCond .gt 5, 3) := by decide +kernel
theorem d_Mo_build_118 : decode b_Mo_build 118 = .ok (.iconst 1, 1) := by decide +kernel
theorem d_Mo_build_119 : decode b_Mo_build 119 = .ok (.ireturn, 1) := by decide +kernel
theorem d_Mo_build_120 : decode b_Mo_build 120 = .ok (.aload_n 0, 1) := by decide +kernel
theorem d_Mo_build_121 : decode b_Mo_build 121 = .ok (.iload_n 1, 1) := by decide +kernel
theorem d_Mo_build_122 : decode b_Mo_build 122 = .ok (.iload_n 2, 1) := by decide +kernel
theorem d_Mo_build_123 : decode b_Mo_build 123 = .ok (.invokevirtual 198, 3) := by decide +kernel
theorem d_Mo_build_126 : decode b_Mo_build 126 = .ok (.ifCond .eq 12, 3) := by decide +kernel
theorem d_Mo_build_129 : decode b_Mo_build 129 = .ok (.aload_n 0, 1) := by decide +kernel
theorem d_Mo_build_130 : decode b_Mo_build 130 = .ok (.iload_n 2, 1) := by decide +kernel
theorem d_Mo_build_131 : decode b_Mo_build 131 = .ok (.iload_n 3, 1) := by decide +kernel
theorem d_Mo_build_132 : decode b_Mo_build 132 = .ok (.invokevirtual 92, 3) := by decide +kernel
theorem d_Mo_build_135 : decode b_Mo_build 135 = .ok (.ifCond .ne 5, 3) := by decide +kernel
theorem d_Mo_build_138 : decode b_Mo_build 138 = .ok (.iconst 2, 1) := by decide +kernel
theorem d_Mo_build_139 : decode b_Mo_build 139 = .ok (.ireturn, 1) := by decide +kernel
theorem d_Mo_build_140 : decode b_Mo_build 140 = .ok (.aload_n 0, 1) := by decide +kernel
theorem d_Mo_build_141 : decode b_Mo_build 141 = .ok (.getfield 26, 3) := by decide +kernel
theorem d_Mo_build_144 : decode b_Mo_build 144 = .ok (.iload_n 2, 1) := by decide +kernel
theorem d_Mo_build_145 : decode b_Mo_build 145 = .ok (.iconst 2, 1) := by decide +kernel
theorem d_Mo_build_146 : decode b_Mo_build 146 = .ok (.iload_n 1, 1) := by decide +kernel
theorem d_Mo_build_147 : decode b_Mo_build 147 = .ok (.imul, 1) := by decide +kernel
theorem d_Mo_build_148 : decode b_Mo_build 148 = .ok (.iload_n 3, 1) := by decide +kernel
theorem d_Mo_build_149 : decode b_Mo_build 149 = .ok (.iadd, 1) := by decide +kernel
theorem d_Mo_build_150 : decode b_Mo_build 150 = .ok (.iastore, 1) := by decide +kernel
theorem d_Mo_build_151 : decode b_Mo_build 151 = .ok (.iconst 0, 1) := by decide +kernel
theorem d_Mo_build_152 : decode b_Mo_build 152 = .ok (.ireturn, 1) := by decide +kernel

set_option maxHeartbeats 4000000 in
set_option maxRecDepth 100000 in
theorem c_Mo_build_0 (l : Launch) (D : va_G) (cI cZ cJ cS : ClassId) (aT : Nat) (ceT : Cell) (sz : Nat) (g0 m_sea m_center m_home m_borders m_owner m_units m_kind m_toX m_toY m_results m_known m_reached m_way m_aside m_origin m_retreats m_contested m_moved m_past : Nat) (co mp mt msh : Int32) (pl a b : Int32)  : Met l y_Mo_build w_Mo_build ({ frames := 1, cells := 0, slots := 0, locals := 21 }) (tH D cI cZ cJ cS aT ceT [.ref g0, .int pl, .int a, .int b] sz [(g0, .inr (6, [.int co, .int 0, .ref m_sea, .ref m_center, .ref m_home, .ref m_borders, .int mp, .int mt, .ref m_owner, .ref m_units, .ref m_kind, .ref m_toX, .ref m_toY, .ref m_results, .ref m_known, .ref m_reached, .ref m_way, .ref m_aside, .ref m_origin, .ref m_retreats, .ref m_contested, .ref m_moved, .int msh, .ref m_past]))]) (va_Qi (fun (r : Int32) (_ : Unit) => r = 0) (fun _ t => tB D (va_A [(g0, .inr (6, [.int co, .int 0, .ref m_sea, .ref m_center, .ref m_home, .ref m_borders, .int mp, .int mt, .ref m_owner, .ref m_units, .ref m_kind, .ref m_toX, .ref m_toY, .ref m_results, .ref m_known, .ref m_reached, .ref m_way, .ref m_aside, .ref m_origin, .ref m_retreats, .ref m_contested, .ref m_moved, .int msh, .ref m_past]))] sz) [(g0, .inr (6, [.int 1, .int 0, .ref m_sea, .ref m_center, .ref m_home, .ref m_borders, .int mp, .int mt, .ref m_owner, .ref m_units, .ref m_kind, .ref m_toX, .ref m_toY, .ref m_results, .ref m_known, .ref m_reached, .ref m_way, .ref m_aside, .ref m_origin, .ref m_retreats, .ref m_contested, .ref m_moved, .int msh, .ref m_past]))] t) (va_A [(g0, .inr (6, [.int co, .int 0, .ref m_sea, .ref m_center, .ref m_home, .ref m_borders, .int mp, .int mt, .ref m_owner, .ref m_units, .ref m_kind, .ref m_toX, .ref m_toY, .ref m_results, .ref m_known, .ref m_reached, .ref m_way, .ref m_aside, .ref m_origin, .ref m_retreats, .ref m_contested, .ref m_moved, .int msh, .ref m_past]))] sz)) 0 0 (va_A [(g0, .inr (6, [.int co, .int 0, .ref m_sea, .ref m_center, .ref m_home, .ref m_borders, .int mp, .int mt, .ref m_owner, .ref m_units, .ref m_kind, .ref m_toX, .ref m_toY, .ref m_results, .ref m_known, .ref m_reached, .ref m_way, .ref m_aside, .ref m_origin, .ref m_retreats, .ref m_contested, .ref m_moved, .int msh, .ref m_past]))] sz) := by
  refine Met.ofW (cc := b_Mo_build) (maxL := 5) (ret := (some .int)) (by decide) rfl ?_
  intro p e s m args below meth c s₁ B hml hv
  obtain ⟨rfl, hsz, hP, hK, hD0, hX⟩ := hv
  have hx := B.exec
  have hb := B.bytes
  have hr := B.returns
  have hts0 := atoms_spec (ws := w_Mo_build) B.pre
  have hts : ∀ w ∈ TB, w.before _ s = true := fun w h => hts0 w (List.mem_cons_of_mem _ h)
  have hown : s.vm.findClass R_Mo = some m.cls := findClass_of_methodNamed B.named
  have hlocks := B.notSynchronized
  subst hsz
  have hXl := tx_lt hX
  have hXn := tx_far hP hX
  have hD := hD0.self (sz := s.heap.size)
  generalize hAe : va_A [(g0, .inr (6, [.int co, .int 0, .ref m_sea, .ref m_center, .ref m_home, .ref m_borders, .int mp, .int mt, .ref m_owner, .ref m_units, .ref m_kind, .ref m_toX, .ref m_toY, .ref m_results, .ref m_known, .ref m_reached, .ref m_way, .ref m_aside, .ref m_origin, .ref m_retreats, .ref m_contested, .ref m_moved, .int msh, .ref m_past]))] s.heap.size = A at hD hXn ⊢
  have hA : ∀ q : Nat, s.heap.size ≤ q → A q := fun q h => by rw [← hAe]; exact Or.inr h
  have hS : va_S A s.heap s.heap [] := va_S.rf
  have hXH : s.heap[aT]? = s.heap[aT]? := rfl
  have hl := lv_entry ([.ref g0, .int pl, .int a, .int b]) (n := 5) (Nat.le_of_ble_eq_true rfl)
  rw [lg_entry_eq]
  generalize (lg_sl ([.ref g0, .int pl, .int a, .int b]) ++ List.replicate (5 - (lg_sl ([.ref g0, .int pl, .int a, .int b])).length) Slot.unset).toArray = ls at hl ⊢
  have hl : lv_has ls 5 [(0, .ref g0), (1, .int pl), (2, .int a), (3, .int b)] := hl
  refine lv_aload_n hx hb d_Mo_build_0 rfl (lv_at hl 0 rfl) ?_
  refine lv_iload_n hx hb d_Mo_build_1 rfl (lv_at hl 1 rfl) ?_
  have hPc := hP.sub (ws' := []) [] rfl
  refine vp_callSi (va_Run.run (va_runS (As := [.int pl]) (rest := [.ref g0]) ⟨hx, hb, hml, hown, hts⟩ (c_Mo_isPlayer l D cI cZ cJ cS aT ceT  pl ) (va_cwS 1 hts (tb_3 wd_802 wd_803 wd_8 (tb_c wd_804)) rfl rfl rfl ⟨by decide, by decide, by decide +kernel⟩ ⟨Nat.le_of_ble_eq_true rfl, Nat.le_of_ble_eq_true rfl⟩) (tP_S hK hX (hS.2.1 aT hXl hXn) hPc) rfl rfl hl.1 rfl (lv_room (Nat.le_of_ble_eq_true rfl)) d_Mo_build_2 ⟨Nat.le_of_ble_eq_true rfl, Nat.le_of_ble_eq_true rfl⟩)) (fun r1 hr9 => ?_)
  rcases hr9 with ⟨rfl, hq2⟩ | ⟨rfl, hq2⟩
  · -- 2: true
    refine lv_if_eq (tgt := 25) hx hb d_Mo_build_5 (by decide) (fun h0 => absurd h0 (by decide)) (fun _ => ?_)
    refine lv_aload_n hx hb d_Mo_build_8 rfl (lv_at hl 0 rfl) ?_
    refine lv_iload_n hx hb d_Mo_build_9 rfl (lv_at hl 2 rfl) ?_
    have hPc := hP.sub (ws' := [(g0, .inr (6, [.int co, .int 0, .ref m_sea, .ref m_center, .ref m_home, .ref m_borders, .int mp, .int mt, .ref m_owner, .ref m_units, .ref m_kind, .ref m_toX, .ref m_toY, .ref m_results, .ref m_known, .ref m_reached, .ref m_way, .ref m_aside, .ref m_origin, .ref m_retreats, .ref m_contested, .ref m_moved, .int msh, .ref m_past]))]) [0] rfl
    refine vp_callSi (va_Run.run (va_runV (As := [.int a]) (rest := [.ref g0]) ⟨hx, hb, hml, hown, hts⟩ (c_Mo_isArea l D cI cZ cJ cS aT ceT  g0 m_sea m_center m_home m_borders m_owner m_units m_kind m_toX m_toY m_results m_known m_reached m_way m_aside m_origin m_retreats m_contested m_moved m_past co 0 mp mt msh a ) (cwV 1 hts (tb_4 wd_790 wd_792 wp_36 wd_8 (tb_c wd_793)) rfl rfl rfl ⟨rfl, by decide, by decide, by decide +kernel⟩ ⟨Nat.le_of_ble_eq_true rfl, Nat.le_of_ble_eq_true rfl⟩) (tP_V hK hX (hS.2.1 aT hXl hXn) hPc (q := 0) rfl rfl) rfl rfl hl.1 rfl (lv_room (Nat.le_of_ble_eq_true rfl)) d_Mo_build_10 ⟨Nat.le_of_ble_eq_true rfl, Nat.le_of_ble_eq_true rfl⟩)) (fun r4 hr9 => ?_)
    rcases hr9 with ⟨rfl, hq5⟩ | ⟨rfl, hq5⟩
    · exact absurd hq5 tn_no
    · -- 10: false
      refine lv_if_eq (tgt := 25) hx hb d_Mo_build_13 (by decide) (fun _ => ?_) (fun h0 => absurd (by decide) h0)
      refine lv_iconst (v := 1) hx hb d_Mo_build_25 (by decide) ?_
      refine lv_goto (tgt := 42) hx hb d_Mo_build_26 (by decide) ?_
      refine va_put (D := D) (ci := 6) (v := .int 1) (ty := .int) (C := R_Mo) (T := T_Mo) (N := 24) hx hb hts hin_Mo ty_Mo tyok_Mo nm_Mo hown hK hP hD hS 0 rfl rfl 0 (by decide) (hts _ wd_704) (fun _ h9 => h9) rfl (by decide +kernel) rfl rfl (Nat.le_of_ble_eq_true rfl) d_Mo_build_42 (fun H locs hP hD hS => ?_)
      have hP : va_P D vwCl [(g0, .inr (6, [.int 1, .int 0, .ref m_sea, .ref m_center, .ref m_home, .ref m_borders, .int mp, .int mt, .ref m_owner, .ref m_units, .ref m_kind, .ref m_toX, .ref m_toY, .ref m_results, .ref m_known, .ref m_reached, .ref m_way, .ref m_aside, .ref m_origin, .ref m_retreats, .ref m_contested, .ref m_moved, .int msh, .ref m_past]))] H := hP
      have hD : va_D A [(g0, .inr (6, [.int 1, .int 0, .ref m_sea, .ref m_center, .ref m_home, .ref m_borders, .int mp, .int mt, .ref m_owner, .ref m_units, .ref m_kind, .ref m_toX, .ref m_toY, .ref m_results, .ref m_known, .ref m_reached, .ref m_way, .ref m_aside, .ref m_origin, .ref m_retreats, .ref m_contested, .ref m_moved, .int msh, .ref m_past]))] := hD
      refine lv_aload_n hx hb d_Mo_build_45 rfl (lv_at hl 0 rfl) ?_
      refine va_get (D := D) (ci := 6) (v := .int 1) (C := R_Mo) (T := T_Mo) (N := 24) hx hb hts hin_Mo hown hK hP 0 rfl rfl 0 (by decide) (hts _ wd_704) (fun _ h9 => h9) rfl d_Mo_build_46 ?_
      refine lv_if_eq (tgt := 54) hx hb d_Mo_build_49 (by decide) (fun h0 => absurd h0 (by decide)) (fun _ => ?_)
      refine lv_iconst (v := 0) hx hb d_Mo_build_52 (by decide) ?_
      have hP9 := hP.sub (ws' := [(g0, .inr (6, [.int 1, .int 0, .ref m_sea, .ref m_center, .ref m_home, .ref m_borders, .int mp, .int mt, .ref m_owner, .ref m_units, .ref m_kind, .ref m_toX, .ref m_toY, .ref m_results, .ref m_known, .ref m_reached, .ref m_way, .ref m_aside, .ref m_origin, .ref m_retreats, .ref m_contested, .ref m_moved, .int msh, .ref m_past]))]) [0] rfl
      have hD9 := hD.sub (ws' := [(g0, .inr (6, [.int 1, .int 0, .ref m_sea, .ref m_center, .ref m_home, .ref m_borders, .int mp, .int mt, .ref m_owner, .ref m_units, .ref m_kind, .ref m_toX, .ref m_toY, .ref m_results, .ref m_known, .ref m_reached, .ref m_way, .ref m_aside, .ref m_origin, .ref m_retreats, .ref m_contested, .ref m_moved, .int msh, .ref m_past]))]) [0] (by decide) rfl
      exact W.iret (v := 0) hx hb hr (fun t ht hW => ⟨⟨0, (), rfl, rfl, by rw [ht]; exact hP9, hD9⟩, hS.F ht⟩) hS.2.2 d_Mo_build_53
  · -- 2: false
    refine lv_if_eq (tgt := 25) hx hb d_Mo_build_5 (by decide) (fun _ => ?_) (fun h0 => absurd (by decide) h0)
    refine lv_iconst (v := 1) hx hb d_Mo_build_25 (by decide) ?_
    refine lv_goto (tgt := 42) hx hb d_Mo_build_26 (by decide) ?_
    refine va_put (D := D) (ci := 6) (v := .int 1) (ty := .int) (C := R_Mo) (T := T_Mo) (N := 24) hx hb hts hin_Mo ty_Mo tyok_Mo nm_Mo hown hK hP hD hS 0 rfl rfl 0 (by decide) (hts _ wd_704) (fun _ h9 => h9) rfl (by decide +kernel) rfl rfl (Nat.le_of_ble_eq_true rfl) d_Mo_build_42 (fun H locs hP hD hS => ?_)
    have hP : va_P D vwCl [(g0, .inr (6, [.int 1, .int 0, .ref m_sea, .ref m_center, .ref m_home, .ref m_borders, .int mp, .int mt, .ref m_owner, .ref m_units, .ref m_kind, .ref m_toX, .ref m_toY, .ref m_results, .ref m_known, .ref m_reached, .ref m_way, .ref m_aside, .ref m_origin, .ref m_retreats, .ref m_contested, .ref m_moved, .int msh, .ref m_past]))] H := hP
    have hD : va_D A [(g0, .inr (6, [.int 1, .int 0, .ref m_sea, .ref m_center, .ref m_home, .ref m_borders, .int mp, .int mt, .ref m_owner, .ref m_units, .ref m_kind, .ref m_toX, .ref m_toY, .ref m_results, .ref m_known, .ref m_reached, .ref m_way, .ref m_aside, .ref m_origin, .ref m_retreats, .ref m_contested, .ref m_moved, .int msh, .ref m_past]))] := hD
    refine lv_aload_n hx hb d_Mo_build_45 rfl (lv_at hl 0 rfl) ?_
    refine va_get (D := D) (ci := 6) (v := .int 1) (C := R_Mo) (T := T_Mo) (N := 24) hx hb hts hin_Mo hown hK hP 0 rfl rfl 0 (by decide) (hts _ wd_704) (fun _ h9 => h9) rfl d_Mo_build_46 ?_
    refine lv_if_eq (tgt := 54) hx hb d_Mo_build_49 (by decide) (fun h0 => absurd h0 (by decide)) (fun _ => ?_)
    refine lv_iconst (v := 0) hx hb d_Mo_build_52 (by decide) ?_
    have hP9 := hP.sub (ws' := [(g0, .inr (6, [.int 1, .int 0, .ref m_sea, .ref m_center, .ref m_home, .ref m_borders, .int mp, .int mt, .ref m_owner, .ref m_units, .ref m_kind, .ref m_toX, .ref m_toY, .ref m_results, .ref m_known, .ref m_reached, .ref m_way, .ref m_aside, .ref m_origin, .ref m_retreats, .ref m_contested, .ref m_moved, .int msh, .ref m_past]))]) [0] rfl
    have hD9 := hD.sub (ws' := [(g0, .inr (6, [.int 1, .int 0, .ref m_sea, .ref m_center, .ref m_home, .ref m_borders, .int mp, .int mt, .ref m_owner, .ref m_units, .ref m_kind, .ref m_toX, .ref m_toY, .ref m_results, .ref m_known, .ref m_reached, .ref m_way, .ref m_aside, .ref m_origin, .ref m_retreats, .ref m_contested, .ref m_moved, .int msh, .ref m_past]))]) [0] (by decide) rfl
    exact W.iret (v := 0) hx hb hr (fun t ht hW => ⟨⟨0, (), rfl, rfl, by rw [ht]; exact hP9, hD9⟩, hS.F ht⟩) hS.2.2 d_Mo_build_53

theorem d_Mo_finish_0 : decode b_Mo_finish 0 = .ok (.aload_n 0, 1) := by decide +kernel
theorem d_Mo_finish_1 : decode b_Mo_finish 1 = .ok (.aload_n 0, 1) := by decide +kernel
theorem d_Mo_finish_2 : decode b_Mo_finish 2 = .ok (.getfield 75, 3) := by decide +kernel
theorem d_Mo_finish_5 : decode b_Mo_finish 5 = .ok (.iconst 2, 1) := by decide +kernel
theorem d_Mo_finish_6 : decode b_Mo_finish 6 = .ok (.if_icmp .eq 11, 3) := by decide +kernel
theorem d_Mo_finish_9 : decode b_Mo_finish 9 = .ok (.aload_n 0, 1) := by decide +kernel
theorem d_Mo_finish_10 : decode b_Mo_finish 10 = .ok (.getfield 75, 3) := by decide +kernel
theorem d_Mo_finish_13 : decode b_Mo_finish 13 = .ok (.iconst 3, 1) := by decide +kernel
theorem d_Mo_finish_14 : decode b_Mo_finish 14 = .ok (.if_icmp .ne 7, 3) := by decide +kernel
theorem d_Mo_finish_17 : decode b_Mo_finish 17 = .ok (.iconst 0, 1) := by decide +kernel
theorem d_Mo_finish_18 : decode b_Mo_finish 18 = .ok (.goto 4, 3) := by decide +kernel
theorem d_Mo_finish_21 : decode b_Mo_finish 21 = .ok (.iconst 1, 1) := by decide +kernel
theorem d_Mo_finish_22 : decode b_Mo_finish 22 = .ok (.putfield 68, 3) := by decide +kernel
theorem d_Mo_finish_25 : decode b_Mo_finish 25 = .ok (.aload_n 0, 1) := by decide +kernel
theorem d_Mo_finish_26 : decode b_Mo_finish 26 = .ok (.getfield 68, 3) := by decide +kernel
theorem d_Mo_finish_29 : decode b_Mo_finish 29 = .ok (.ifCond .eq 5, 3) := by decide +kernel
theorem d_Mo_finish_32 : decode b_Mo_finish 32 = .ok (.iconst 0, 1) := by decide +kernel
theorem d_Mo_finish_33 : decode b_Mo_finish 33 = .ok (.ireturn, 1) := by decide +kernel
theorem d_Mo_finish_34 : decode b_Mo_finish 34 = .ok (.aload_n 0, 1) := by decide +kernel
theorem d_Mo_finish_35 : decode b_Mo_finish 35 = .ok (.getfield 75, 3) := by decide +kernel
theorem d_Mo_finish_38 : decode b_Mo_finish 38 = .ok (.iconst 2, 1) := by decide +kernel
theorem d_Mo_finish_39 : decode b_Mo_finish 39 = .ok (.if_icmp .ne 10, 3) := by decide +kernel
theorem d_Mo_finish_42 : decode b_Mo_finish 42 = .ok (.aload_n 0, 1) := by decide +kernel
theorem d_Mo_finish_43 : decode b_Mo_finish 43 = .ok (.invokevirtual 204, 3) := by decide +kernel
theorem d_Mo_finish_46 : decode b_Mo_finish 46 = .ok (.goto 7, 3) := by decide +kernel
theorem d_Mo_finish_49 : decode b_Mo_finish 49 = .ok (.aload_n 0, 1) := by decide +kernel
theorem d_Mo_finish_50 : decode b_Mo_finish 50 = .ok (.invokevirtual 207, 3) := by decide +kernel
theorem d_Mo_finish_53 : decode b_Mo_finish 53 = .ok (.aload_n 0, 1) := by decide +kernel
theorem d_Mo_finish_54 : decode b_Mo_finish 54 = .ok (.getfield 75, 3) := by decide +kernel
theorem d_Mo_finish_57 : decode b_Mo_finish 57 = .ok (.ireturn, 1) := by decide +kernel

set_option maxHeartbeats 4000000 in
set_option maxRecDepth 100000 in
theorem c_Mo_finish_1 (l : Launch) (D : va_G) (cI cZ cJ cS : ClassId) (aT : Nat) (ceT : Cell) (sz : Nat) (g0 m_sea m_center m_home m_borders m_owner m_units m_kind m_toX m_toY m_results m_known m_reached m_way m_aside m_origin m_retreats m_contested m_moved m_past : Nat) (co ar mt msh : Int32)  : Met l y_Mo_finish w_Mo_finish ({ frames := 1, cells := 0, slots := 0, locals := 21 }) (tH D cI cZ cJ cS aT ceT [.ref g0] sz [(g0, .inr (6, [.int co, .int ar, .ref m_sea, .ref m_center, .ref m_home, .ref m_borders, .int 0, .int mt, .ref m_owner, .ref m_units, .ref m_kind, .ref m_toX, .ref m_toY, .ref m_results, .ref m_known, .ref m_reached, .ref m_way, .ref m_aside, .ref m_origin, .ref m_retreats, .ref m_contested, .ref m_moved, .int msh, .ref m_past]))]) (va_Qi (fun (r : Int32) (_ : Unit) => r = 0) (fun _ t => tB D (va_A [(g0, .inr (6, [.int co, .int ar, .ref m_sea, .ref m_center, .ref m_home, .ref m_borders, .int 0, .int mt, .ref m_owner, .ref m_units, .ref m_kind, .ref m_toX, .ref m_toY, .ref m_results, .ref m_known, .ref m_reached, .ref m_way, .ref m_aside, .ref m_origin, .ref m_retreats, .ref m_contested, .ref m_moved, .int msh, .ref m_past]))] sz) [(g0, .inr (6, [.int 1, .int ar, .ref m_sea, .ref m_center, .ref m_home, .ref m_borders, .int 0, .int mt, .ref m_owner, .ref m_units, .ref m_kind, .ref m_toX, .ref m_toY, .ref m_results, .ref m_known, .ref m_reached, .ref m_way, .ref m_aside, .ref m_origin, .ref m_retreats, .ref m_contested, .ref m_moved, .int msh, .ref m_past]))] t) (va_A [(g0, .inr (6, [.int co, .int ar, .ref m_sea, .ref m_center, .ref m_home, .ref m_borders, .int 0, .int mt, .ref m_owner, .ref m_units, .ref m_kind, .ref m_toX, .ref m_toY, .ref m_results, .ref m_known, .ref m_reached, .ref m_way, .ref m_aside, .ref m_origin, .ref m_retreats, .ref m_contested, .ref m_moved, .int msh, .ref m_past]))] sz)) 0 0 (va_A [(g0, .inr (6, [.int co, .int ar, .ref m_sea, .ref m_center, .ref m_home, .ref m_borders, .int 0, .int mt, .ref m_owner, .ref m_units, .ref m_kind, .ref m_toX, .ref m_toY, .ref m_results, .ref m_known, .ref m_reached, .ref m_way, .ref m_aside, .ref m_origin, .ref m_retreats, .ref m_contested, .ref m_moved, .int msh, .ref m_past]))] sz) := by
  refine Met.ofW (cc := b_Mo_finish) (maxL := 1) (ret := (some .int)) (by decide) rfl ?_
  intro p e s m args below meth c s₁ B hml hv
  obtain ⟨rfl, hsz, hP, hK, hD0, hX⟩ := hv
  have hx := B.exec
  have hb := B.bytes
  have hr := B.returns
  have hts0 := atoms_spec (ws := w_Mo_finish) B.pre
  have hts : ∀ w ∈ TB, w.before _ s = true := fun w h => hts0 w (List.mem_cons_of_mem _ h)
  have hown : s.vm.findClass R_Mo = some m.cls := findClass_of_methodNamed B.named
  have hlocks := B.notSynchronized
  subst hsz
  have hXl := tx_lt hX
  have hXn := tx_far hP hX
  have hD := hD0.self (sz := s.heap.size)
  generalize hAe : va_A [(g0, .inr (6, [.int co, .int ar, .ref m_sea, .ref m_center, .ref m_home, .ref m_borders, .int 0, .int mt, .ref m_owner, .ref m_units, .ref m_kind, .ref m_toX, .ref m_toY, .ref m_results, .ref m_known, .ref m_reached, .ref m_way, .ref m_aside, .ref m_origin, .ref m_retreats, .ref m_contested, .ref m_moved, .int msh, .ref m_past]))] s.heap.size = A at hD hXn ⊢
  have hA : ∀ q : Nat, s.heap.size ≤ q → A q := fun q h => by rw [← hAe]; exact Or.inr h
  have hS : va_S A s.heap s.heap [] := va_S.rf
  have hXH : s.heap[aT]? = s.heap[aT]? := rfl
  have hl := lv_entry ([.ref g0]) (n := 1) (Nat.le_of_ble_eq_true rfl)
  rw [lg_entry_eq]
  generalize (lg_sl ([.ref g0]) ++ List.replicate (1 - (lg_sl ([.ref g0])).length) Slot.unset).toArray = ls at hl ⊢
  have hl : lv_has ls 1 [(0, .ref g0)] := hl
  refine lv_aload_n hx hb d_Mo_finish_0 rfl (lv_at hl 0 rfl) ?_
  refine lv_aload_n hx hb d_Mo_finish_1 rfl (lv_at hl 0 rfl) ?_
  refine va_get (D := D) (ci := 6) (v := .int 0) (C := R_Mo) (T := T_Mo) (N := 24) hx hb hts hin_Mo hown hK hP 0 rfl rfl 6 (by decide) (hts _ wd_710) (fun _ h9 => h9) rfl d_Mo_finish_2 ?_
  refine lv_iconst (v := 2) hx hb d_Mo_finish_5 (by decide) ?_
  refine lv_icmp_eq (tgt := 17) hx hb d_Mo_finish_6 (by decide) (fun h0 => absurd h0 (by decide)) (fun _ => ?_)
  refine lv_aload_n hx hb d_Mo_finish_9 rfl (lv_at hl 0 rfl) ?_
  refine va_get (D := D) (ci := 6) (v := .int 0) (C := R_Mo) (T := T_Mo) (N := 24) hx hb hts hin_Mo hown hK hP 0 rfl rfl 6 (by decide) (hts _ wd_710) (fun _ h9 => h9) rfl d_Mo_finish_10 ?_
  refine lv_iconst (v := 3) hx hb d_Mo_finish_13 (by decide) ?_
  refine lv_icmp_ne (tgt := 21) hx hb d_Mo_finish_14 (by decide) (fun _ => ?_) (fun h0 => absurd h0 (by decide))
  refine lv_iconst (v := 1) hx hb d_Mo_finish_21 (by decide) ?_
  refine va_put (D := D) (ci := 6) (v := .int 1) (ty := .int) (C := R_Mo) (T := T_Mo) (N := 24) hx hb hts hin_Mo ty_Mo tyok_Mo nm_Mo hown hK hP hD hS 0 rfl rfl 0 (by decide) (hts _ wd_704) (fun _ h9 => h9) rfl (by decide +kernel) rfl rfl (Nat.le_of_ble_eq_true rfl) d_Mo_finish_22 (fun H locs hP hD hS => ?_)
  have hP : va_P D vwCl [(g0, .inr (6, [.int 1, .int ar, .ref m_sea, .ref m_center, .ref m_home, .ref m_borders, .int 0, .int mt, .ref m_owner, .ref m_units, .ref m_kind, .ref m_toX, .ref m_toY, .ref m_results, .ref m_known, .ref m_reached, .ref m_way, .ref m_aside, .ref m_origin, .ref m_retreats, .ref m_contested, .ref m_moved, .int msh, .ref m_past]))] H := hP
  have hD : va_D A [(g0, .inr (6, [.int 1, .int ar, .ref m_sea, .ref m_center, .ref m_home, .ref m_borders, .int 0, .int mt, .ref m_owner, .ref m_units, .ref m_kind, .ref m_toX, .ref m_toY, .ref m_results, .ref m_known, .ref m_reached, .ref m_way, .ref m_aside, .ref m_origin, .ref m_retreats, .ref m_contested, .ref m_moved, .int msh, .ref m_past]))] := hD
  refine lv_aload_n hx hb d_Mo_finish_25 rfl (lv_at hl 0 rfl) ?_
  refine va_get (D := D) (ci := 6) (v := .int 1) (C := R_Mo) (T := T_Mo) (N := 24) hx hb hts hin_Mo hown hK hP 0 rfl rfl 0 (by decide) (hts _ wd_704) (fun _ h9 => h9) rfl d_Mo_finish_26 ?_
  refine lv_if_eq (tgt := 34) hx hb d_Mo_finish_29 (by decide) (fun h0 => absurd h0 (by decide)) (fun _ => ?_)
  refine lv_iconst (v := 0) hx hb d_Mo_finish_32 (by decide) ?_
  have hP9 := hP.sub (ws' := [(g0, .inr (6, [.int 1, .int ar, .ref m_sea, .ref m_center, .ref m_home, .ref m_borders, .int 0, .int mt, .ref m_owner, .ref m_units, .ref m_kind, .ref m_toX, .ref m_toY, .ref m_results, .ref m_known, .ref m_reached, .ref m_way, .ref m_aside, .ref m_origin, .ref m_retreats, .ref m_contested, .ref m_moved, .int msh, .ref m_past]))]) [0] rfl
  have hD9 := hD.sub (ws' := [(g0, .inr (6, [.int 1, .int ar, .ref m_sea, .ref m_center, .ref m_home, .ref m_borders, .int 0, .int mt, .ref m_owner, .ref m_units, .ref m_kind, .ref m_toX, .ref m_toY, .ref m_results, .ref m_known, .ref m_reached, .ref m_way, .ref m_aside, .ref m_origin, .ref m_retreats, .ref m_contested, .ref m_moved, .int msh, .ref m_past]))]) [0] (by decide) rfl
  exact W.iret (v := 0) hx hb hr (fun t ht hW => ⟨⟨0, (), rfl, rfl, by rw [ht]; exact hP9, hD9⟩, hS.F ht⟩) hS.2.2 d_Mo_finish_33

theorem d_Mo_phase_0 : decode b_Mo_phase 0 = .ok (.aload_n 0, 1) := by decide +kernel
theorem d_Mo_phase_1 : decode b_Mo_phase 1 = .ok (.iconst 0, 1) := by decide +kernel
theorem d_Mo_phase_2 : decode b_Mo_phase 2 = .ok (.putfield 68, 3) := by decide +kernel
theorem d_Mo_phase_5 : decode b_Mo_phase 5 = .ok (.aload_n 0, 1) := by decide +kernel
theorem d_Mo_phase_6 : decode b_Mo_phase 6 = .ok (.getfield 75, 3) := by decide +kernel
theorem d_Mo_phase_9 : decode b_Mo_phase 9 = .ok (.ireturn, 1) := by decide +kernel

set_option maxHeartbeats 4000000 in
set_option maxRecDepth 100000 in
theorem c_Mo_phase (l : Launch) (D : va_G) (cI cZ cJ cS : ClassId) (aT : Nat) (ceT : Cell) (sz : Nat) (g0 m_sea m_center m_home m_borders m_owner m_units m_kind m_toX m_toY m_results m_known m_reached m_way m_aside m_origin m_retreats m_contested m_moved m_past : Nat) (co ar mp mt msh : Int32)  : Met l y_Mo_phase w_Mo_phase ({ frames := 1, cells := 0, slots := 0, locals := 21 }) (tH D cI cZ cJ cS aT ceT [.ref g0] sz [(g0, .inr (6, [.int co, .int ar, .ref m_sea, .ref m_center, .ref m_home, .ref m_borders, .int mp, .int mt, .ref m_owner, .ref m_units, .ref m_kind, .ref m_toX, .ref m_toY, .ref m_results, .ref m_known, .ref m_reached, .ref m_way, .ref m_aside, .ref m_origin, .ref m_retreats, .ref m_contested, .ref m_moved, .int msh, .ref m_past]))]) (va_Qi (fun (r : Int32) (_ : Unit) => r = mp) (fun _ t => tB D (va_A [(g0, .inr (6, [.int co, .int ar, .ref m_sea, .ref m_center, .ref m_home, .ref m_borders, .int mp, .int mt, .ref m_owner, .ref m_units, .ref m_kind, .ref m_toX, .ref m_toY, .ref m_results, .ref m_known, .ref m_reached, .ref m_way, .ref m_aside, .ref m_origin, .ref m_retreats, .ref m_contested, .ref m_moved, .int msh, .ref m_past]))] sz) [(g0, .inr (6, [.int 0, .int ar, .ref m_sea, .ref m_center, .ref m_home, .ref m_borders, .int mp, .int mt, .ref m_owner, .ref m_units, .ref m_kind, .ref m_toX, .ref m_toY, .ref m_results, .ref m_known, .ref m_reached, .ref m_way, .ref m_aside, .ref m_origin, .ref m_retreats, .ref m_contested, .ref m_moved, .int msh, .ref m_past]))] t) (va_A [(g0, .inr (6, [.int co, .int ar, .ref m_sea, .ref m_center, .ref m_home, .ref m_borders, .int mp, .int mt, .ref m_owner, .ref m_units, .ref m_kind, .ref m_toX, .ref m_toY, .ref m_results, .ref m_known, .ref m_reached, .ref m_way, .ref m_aside, .ref m_origin, .ref m_retreats, .ref m_contested, .ref m_moved, .int msh, .ref m_past]))] sz)) 0 0 (va_A [(g0, .inr (6, [.int co, .int ar, .ref m_sea, .ref m_center, .ref m_home, .ref m_borders, .int mp, .int mt, .ref m_owner, .ref m_units, .ref m_kind, .ref m_toX, .ref m_toY, .ref m_results, .ref m_known, .ref m_reached, .ref m_way, .ref m_aside, .ref m_origin, .ref m_retreats, .ref m_contested, .ref m_moved, .int msh, .ref m_past]))] sz) := by
  refine Met.ofW (cc := b_Mo_phase) (maxL := 1) (ret := (some .int)) (by decide) rfl ?_
  intro p e s m args below meth c s₁ B hml hv
  obtain ⟨rfl, hsz, hP, hK, hD0, hX⟩ := hv
  have hx := B.exec
  have hb := B.bytes
  have hr := B.returns
  have hts0 := atoms_spec (ws := w_Mo_phase) B.pre
  have hts : ∀ w ∈ TB, w.before _ s = true := fun w h => hts0 w (List.mem_cons_of_mem _ h)
  have hown : s.vm.findClass R_Mo = some m.cls := findClass_of_methodNamed B.named
  have hlocks := B.notSynchronized
  subst hsz
  have hXl := tx_lt hX
  have hXn := tx_far hP hX
  have hD := hD0.self (sz := s.heap.size)
  generalize hAe : va_A [(g0, .inr (6, [.int co, .int ar, .ref m_sea, .ref m_center, .ref m_home, .ref m_borders, .int mp, .int mt, .ref m_owner, .ref m_units, .ref m_kind, .ref m_toX, .ref m_toY, .ref m_results, .ref m_known, .ref m_reached, .ref m_way, .ref m_aside, .ref m_origin, .ref m_retreats, .ref m_contested, .ref m_moved, .int msh, .ref m_past]))] s.heap.size = A at hD hXn ⊢
  have hA : ∀ q : Nat, s.heap.size ≤ q → A q := fun q h => by rw [← hAe]; exact Or.inr h
  have hS : va_S A s.heap s.heap [] := va_S.rf
  have hXH : s.heap[aT]? = s.heap[aT]? := rfl
  have hl := lv_entry ([.ref g0]) (n := 1) (Nat.le_of_ble_eq_true rfl)
  rw [lg_entry_eq]
  generalize (lg_sl ([.ref g0]) ++ List.replicate (1 - (lg_sl ([.ref g0])).length) Slot.unset).toArray = ls at hl ⊢
  have hl : lv_has ls 1 [(0, .ref g0)] := hl
  refine lv_aload_n hx hb d_Mo_phase_0 rfl (lv_at hl 0 rfl) ?_
  refine lv_iconst (v := 0) hx hb d_Mo_phase_1 (by decide) ?_
  refine va_put (D := D) (ci := 6) (v := .int 0) (ty := .int) (C := R_Mo) (T := T_Mo) (N := 24) hx hb hts hin_Mo ty_Mo tyok_Mo nm_Mo hown hK hP hD hS 0 rfl rfl 0 (by decide) (hts _ wd_704) (fun _ h9 => h9) rfl (by decide +kernel) rfl rfl (Nat.le_of_ble_eq_true rfl) d_Mo_phase_2 (fun H locs hP hD hS => ?_)
  have hP : va_P D vwCl [(g0, .inr (6, [.int 0, .int ar, .ref m_sea, .ref m_center, .ref m_home, .ref m_borders, .int mp, .int mt, .ref m_owner, .ref m_units, .ref m_kind, .ref m_toX, .ref m_toY, .ref m_results, .ref m_known, .ref m_reached, .ref m_way, .ref m_aside, .ref m_origin, .ref m_retreats, .ref m_contested, .ref m_moved, .int msh, .ref m_past]))] H := hP
  have hD : va_D A [(g0, .inr (6, [.int 0, .int ar, .ref m_sea, .ref m_center, .ref m_home, .ref m_borders, .int mp, .int mt, .ref m_owner, .ref m_units, .ref m_kind, .ref m_toX, .ref m_toY, .ref m_results, .ref m_known, .ref m_reached, .ref m_way, .ref m_aside, .ref m_origin, .ref m_retreats, .ref m_contested, .ref m_moved, .int msh, .ref m_past]))] := hD
  refine lv_aload_n hx hb d_Mo_phase_5 rfl (lv_at hl 0 rfl) ?_
  refine va_get (D := D) (ci := 6) (v := .int mp) (C := R_Mo) (T := T_Mo) (N := 24) hx hb hts hin_Mo hown hK hP 0 rfl rfl 6 (by decide) (hts _ wd_710) (fun _ h9 => h9) rfl d_Mo_phase_6 ?_
  have hP9 := hP.sub (ws' := [(g0, .inr (6, [.int 0, .int ar, .ref m_sea, .ref m_center, .ref m_home, .ref m_borders, .int mp, .int mt, .ref m_owner, .ref m_units, .ref m_kind, .ref m_toX, .ref m_toY, .ref m_results, .ref m_known, .ref m_reached, .ref m_way, .ref m_aside, .ref m_origin, .ref m_retreats, .ref m_contested, .ref m_moved, .int msh, .ref m_past]))]) [0] rfl
  have hD9 := hD.sub (ws' := [(g0, .inr (6, [.int 0, .int ar, .ref m_sea, .ref m_center, .ref m_home, .ref m_borders, .int mp, .int mt, .ref m_owner, .ref m_units, .ref m_kind, .ref m_toX, .ref m_toY, .ref m_results, .ref m_known, .ref m_reached, .ref m_way, .ref m_aside, .ref m_origin, .ref m_retreats, .ref m_contested, .ref m_moved, .int msh, .ref m_past]))]) [0] (by decide) rfl
  exact W.iret (v := mp) hx hb hr (fun t ht hW => ⟨⟨mp, (), rfl, rfl, by rw [ht]; exact hP9, hD9⟩, hS.F ht⟩) hS.2.2 d_Mo_phase_9

theorem d_Mo_turn_0 : decode b_Mo_turn 0 = .ok (.aload_n 0, 1) := by decide +kernel
theorem d_Mo_turn_1 : decode b_Mo_turn 1 = .ok (.iconst 0, 1) := by decide +kernel
theorem d_Mo_turn_2 : decode b_Mo_turn 2 = .ok (.putfield 68, 3) := by decide +kernel
theorem d_Mo_turn_5 : decode b_Mo_turn 5 = .ok (.aload_n 0, 1) := by decide +kernel
theorem d_Mo_turn_6 : decode b_Mo_turn 6 = .ok (.getfield 95, 3) := by decide +kernel
theorem d_Mo_turn_9 : decode b_Mo_turn 9 = .ok (.ireturn, 1) := by decide +kernel
theorem wd_711 : (Cond.fieldLink "SheetWarModel" (95 : Nat) "SheetWarModel" "turn" "I") ∈ TB := tb_t 711 (by decide +kernel) (by decide +kernel)
set_option maxHeartbeats 4000000 in
set_option maxRecDepth 100000 in
theorem c_Mo_turn (l : Launch) (D : va_G) (cI cZ cJ cS : ClassId) (aT : Nat) (ceT : Cell) (sz : Nat) (g0 m_sea m_center m_home m_borders m_owner m_units m_kind m_toX m_toY m_results m_known m_reached m_way m_aside m_origin m_retreats m_contested m_moved m_past : Nat) (co ar mp mt msh : Int32)  : Met l y_Mo_turn w_Mo_turn ({ frames := 1, cells := 0, slots := 0, locals := 21 }) (tH D cI cZ cJ cS aT ceT [.ref g0] sz [(g0, .inr (6, [.int co, .int ar, .ref m_sea, .ref m_center, .ref m_home, .ref m_borders, .int mp, .int mt, .ref m_owner, .ref m_units, .ref m_kind, .ref m_toX, .ref m_toY, .ref m_results, .ref m_known, .ref m_reached, .ref m_way, .ref m_aside, .ref m_origin, .ref m_retreats, .ref m_contested, .ref m_moved, .int msh, .ref m_past]))]) (va_Qi (fun (r : Int32) (_ : Unit) => r = mt) (fun _ t => tB D (va_A [(g0, .inr (6, [.int co, .int ar, .ref m_sea, .ref m_center, .ref m_home, .ref m_borders, .int mp, .int mt, .ref m_owner, .ref m_units, .ref m_kind, .ref m_toX, .ref m_toY, .ref m_results, .ref m_known, .ref m_reached, .ref m_way, .ref m_aside, .ref m_origin, .ref m_retreats, .ref m_contested, .ref m_moved, .int msh, .ref m_past]))] sz) [(g0, .inr (6, [.int 0, .int ar, .ref m_sea, .ref m_center, .ref m_home, .ref m_borders, .int mp, .int mt, .ref m_owner, .ref m_units, .ref m_kind, .ref m_toX, .ref m_toY, .ref m_results, .ref m_known, .ref m_reached, .ref m_way, .ref m_aside, .ref m_origin, .ref m_retreats, .ref m_contested, .ref m_moved, .int msh, .ref m_past]))] t) (va_A [(g0, .inr (6, [.int co, .int ar, .ref m_sea, .ref m_center, .ref m_home, .ref m_borders, .int mp, .int mt, .ref m_owner, .ref m_units, .ref m_kind, .ref m_toX, .ref m_toY, .ref m_results, .ref m_known, .ref m_reached, .ref m_way, .ref m_aside, .ref m_origin, .ref m_retreats, .ref m_contested, .ref m_moved, .int msh, .ref m_past]))] sz)) 0 0 (va_A [(g0, .inr (6, [.int co, .int ar, .ref m_sea, .ref m_center, .ref m_home, .ref m_borders, .int mp, .int mt, .ref m_owner, .ref m_units, .ref m_kind, .ref m_toX, .ref m_toY, .ref m_results, .ref m_known, .ref m_reached, .ref m_way, .ref m_aside, .ref m_origin, .ref m_retreats, .ref m_contested, .ref m_moved, .int msh, .ref m_past]))] sz) := by
  refine Met.ofW (cc := b_Mo_turn) (maxL := 1) (ret := (some .int)) (by decide) rfl ?_
  intro p e s m args below meth c s₁ B hml hv
  obtain ⟨rfl, hsz, hP, hK, hD0, hX⟩ := hv
  have hx := B.exec
  have hb := B.bytes
  have hr := B.returns
  have hts0 := atoms_spec (ws := w_Mo_turn) B.pre
  have hts : ∀ w ∈ TB, w.before _ s = true := fun w h => hts0 w (List.mem_cons_of_mem _ h)
  have hown : s.vm.findClass R_Mo = some m.cls := findClass_of_methodNamed B.named
  have hlocks := B.notSynchronized
  subst hsz
  have hXl := tx_lt hX
  have hXn := tx_far hP hX
  have hD := hD0.self (sz := s.heap.size)
  generalize hAe : va_A [(g0, .inr (6, [.int co, .int ar, .ref m_sea, .ref m_center, .ref m_home, .ref m_borders, .int mp, .int mt, .ref m_owner, .ref m_units, .ref m_kind, .ref m_toX, .ref m_toY, .ref m_results, .ref m_known, .ref m_reached, .ref m_way, .ref m_aside, .ref m_origin, .ref m_retreats, .ref m_contested, .ref m_moved, .int msh, .ref m_past]))] s.heap.size = A at hD hXn ⊢
  have hA : ∀ q : Nat, s.heap.size ≤ q → A q := fun q h => by rw [← hAe]; exact Or.inr h
  have hS : va_S A s.heap s.heap [] := va_S.rf
  have hXH : s.heap[aT]? = s.heap[aT]? := rfl
  have hl := lv_entry ([.ref g0]) (n := 1) (Nat.le_of_ble_eq_true rfl)
  rw [lg_entry_eq]
  generalize (lg_sl ([.ref g0]) ++ List.replicate (1 - (lg_sl ([.ref g0])).length) Slot.unset).toArray = ls at hl ⊢
  have hl : lv_has ls 1 [(0, .ref g0)] := hl
  refine lv_aload_n hx hb d_Mo_turn_0 rfl (lv_at hl 0 rfl) ?_
  refine lv_iconst (v := 0) hx hb d_Mo_turn_1 (by decide) ?_
  refine va_put (D := D) (ci := 6) (v := .int 0) (ty := .int) (C := R_Mo) (T := T_Mo) (N := 24) hx hb hts hin_Mo ty_Mo tyok_Mo nm_Mo hown hK hP hD hS 0 rfl rfl 0 (by decide) (hts _ wd_704) (fun _ h9 => h9) rfl (by decide +kernel) rfl rfl (Nat.le_of_ble_eq_true rfl) d_Mo_turn_2 (fun H locs hP hD hS => ?_)
  have hP : va_P D vwCl [(g0, .inr (6, [.int 0, .int ar, .ref m_sea, .ref m_center, .ref m_home, .ref m_borders, .int mp, .int mt, .ref m_owner, .ref m_units, .ref m_kind, .ref m_toX, .ref m_toY, .ref m_results, .ref m_known, .ref m_reached, .ref m_way, .ref m_aside, .ref m_origin, .ref m_retreats, .ref m_contested, .ref m_moved, .int msh, .ref m_past]))] H := hP
  have hD : va_D A [(g0, .inr (6, [.int 0, .int ar, .ref m_sea, .ref m_center, .ref m_home, .ref m_borders, .int mp, .int mt, .ref m_owner, .ref m_units, .ref m_kind, .ref m_toX, .ref m_toY, .ref m_results, .ref m_known, .ref m_reached, .ref m_way, .ref m_aside, .ref m_origin, .ref m_retreats, .ref m_contested, .ref m_moved, .int msh, .ref m_past]))] := hD
  refine lv_aload_n hx hb d_Mo_turn_5 rfl (lv_at hl 0 rfl) ?_
  refine va_get (D := D) (ci := 6) (v := .int mt) (C := R_Mo) (T := T_Mo) (N := 24) hx hb hts hin_Mo hown hK hP 0 rfl rfl 7 (by decide) (hts _ wd_711) (fun _ h9 => h9) rfl d_Mo_turn_6 ?_
  have hP9 := hP.sub (ws' := [(g0, .inr (6, [.int 0, .int ar, .ref m_sea, .ref m_center, .ref m_home, .ref m_borders, .int mp, .int mt, .ref m_owner, .ref m_units, .ref m_kind, .ref m_toX, .ref m_toY, .ref m_results, .ref m_known, .ref m_reached, .ref m_way, .ref m_aside, .ref m_origin, .ref m_retreats, .ref m_contested, .ref m_moved, .int msh, .ref m_past]))]) [0] rfl
  have hD9 := hD.sub (ws' := [(g0, .inr (6, [.int 0, .int ar, .ref m_sea, .ref m_center, .ref m_home, .ref m_borders, .int mp, .int mt, .ref m_owner, .ref m_units, .ref m_kind, .ref m_toX, .ref m_toY, .ref m_results, .ref m_known, .ref m_reached, .ref m_way, .ref m_aside, .ref m_origin, .ref m_retreats, .ref m_contested, .ref m_moved, .int msh, .ref m_past]))]) [0] (by decide) rfl
  exact W.iret (v := mt) hx hb hr (fun t ht hW => ⟨⟨mt, (), rfl, rfl, by rw [ht]; exact hP9, hD9⟩, hS.F ht⟩) hS.2.2 d_Mo_turn_9

theorem d_Mo_undo_0 : decode b_Mo_undo 0 = .ok (.aload_n 0, 1) := by decide +kernel
theorem d_Mo_undo_1 : decode b_Mo_undo 1 = .ok (.iconst 0, 1) := by decide +kernel
theorem d_Mo_undo_2 : decode b_Mo_undo 2 = .ok (.putfield 68, 3) := by decide +kernel
theorem d_Mo_undo_5 : decode b_Mo_undo 5 = .ok (.aload_n 0, 1) := by decide +kernel
theorem d_Mo_undo_6 : decode b_Mo_undo 6 = .ok (.getfield 174, 3) := by decide +kernel
theorem d_Mo_undo_9 : decode b_Mo_undo 9 = .ok (.ifCond .ne 5, 3) := by decide +kernel
theorem d_Mo_undo_12 : decode b_Mo_undo 12 = .ok (.iconst 0, 1) := by decide +kernel
theorem d_Mo_undo_13 : decode b_Mo_undo 13 = .ok (.ireturn, 1) := by decide +kernel
theorem d_Mo_undo_14 : decode b_Mo_undo 14 = .ok (.aload_n 0, 1) := by decide +kernel
theorem d_Mo_undo_15 : decode b_Mo_undo 15 = .ok (.dup, 1) := by decide +kernel
theorem d_Mo_undo_16 : decode b_Mo_undo 16 = .ok (.getfield 174, 3) := by decide +kernel
theorem d_Mo_undo_19 : decode b_Mo_undo 19 = .ok (.iconst 1, 1) := by decide +kernel
theorem d_Mo_undo_20 : decode b_Mo_undo 20 = .ok (.isub, 1) := by decide +kernel
theorem d_Mo_undo_21 : decode b_Mo_undo 21 = .ok (.putfield 174, 3) := by decide +kernel
theorem d_Mo_undo_24 : decode b_Mo_undo 24 = .ok (.bipush 73, 2) := by decide +kernel
theorem d_Mo_undo_26 : decode b_Mo_undo 26 = .ok (.aload_n 0, 1) := by decide +kernel
theorem d_Mo_undo_27 : decode b_Mo_undo 27 = .ok (.getfield 174, 3) := by decide +kernel
theorem d_Mo_undo_30 : decode b_Mo_undo 30 = .ok (.imul, 1) := by decide +kernel
theorem d_Mo_undo_31 : decode b_Mo_undo 31 = .ok (.istore_n 1, 1) := by decide +kernel
theorem d_Mo_undo_32 : decode b_Mo_undo 32 = .ok (.aload_n 0, 1) := by decide +kernel
theorem d_Mo_undo_33 : decode b_Mo_undo 33 = .ok (.aload_n 0, 1) := by decide +kernel
theorem d_Mo_undo_34 : decode b_Mo_undo 34 = .ok (.getfield 65, 3) := by decide +kernel
theorem d_Mo_undo_37 : decode b_Mo_undo 37 = .ok (.iload_n 1, 1) := by decide +kernel
theorem d_Mo_undo_38 : decode b_Mo_undo 38 = .ok (.iaload, 1) := by decide +kernel
theorem d_Mo_undo_39 : decode b_Mo_undo 39 = .ok (.putfield 95, 3) := by decide +kernel
theorem d_Mo_undo_42 : decode b_Mo_undo 42 = .ok (.aload_n 0, 1) := by decide +kernel
theorem d_Mo_undo_43 : decode b_Mo_undo 43 = .ok (.iconst 1, 1) := by decide +kernel
theorem d_Mo_undo_44 : decode b_Mo_undo 44 = .ok (.putfield 75, 3) := by decide +kernel
theorem d_Mo_undo_47 : decode b_Mo_undo 47 = .ok (.iconst 0, 1) := by decide +kernel
theorem d_Mo_undo_48 : decode b_Mo_undo 48 = .ok (.istore_n 2, 1) := by decide +kernel
theorem d_Mo_undo_49 : decode b_Mo_undo 49 = .ok (.iload_n 2, 1) := by decide +kernel
theorem d_Mo_undo_50 : decode b_Mo_undo 50 = .ok (.bipush 12, 2) := by decide +kernel
theorem d_Mo_undo_52 : decode b_Mo_undo 52 = .ok (.if_icmp .ge 117, 3) := by decide +kernel
theorem d_Mo_undo_55 : decode b_Mo_undo 55 = .ok (.aload_n 0, 1) := by decide +kernel
theorem d_Mo_undo_56 : decode b_Mo_undo 56 = .ok (.getfield 26, 3) := by decide +kernel
theorem d_Mo_undo_59 : decode b_Mo_undo 59 = .ok (.iload_n 2, 1) := by decide +kernel
theorem d_Mo_undo_60 : decode b_Mo_undo 60 = .ok (.aload_n 0, 1) := by decide +kernel
theorem d_Mo_undo_61 : decode b_Mo_undo 61 = .ok (.getfield 65, 3) := by decide +kernel
theorem d_Mo_undo_64 : decode b_Mo_undo 64 = .ok (.iload_n 1, 1) := by decide +kernel
theorem d_Mo_undo_65 : decode b_Mo_undo 65 = .ok (.iconst 1, 1) := by decide +kernel
theorem d_Mo_undo_66 : decode b_Mo_undo 66 = .ok (.iadd, 1) := by decide +kernel
theorem d_Mo_undo_67 : decode b_Mo_undo 67 = .ok (.iload_n 2, 1) := by decide +kernel
theorem d_Mo_undo_68 : decode b_Mo_undo 68 = .ok (.iadd, 1) := by decide +kernel
theorem d_Mo_undo_69 : decode b_Mo_undo 69 = .ok (.iaload, 1) := by decide +kernel
theorem d_Mo_undo_70 : decode b_Mo_undo 70 = .ok (.iastore, 1) := by decide +kernel
theorem d_Mo_undo_71 : decode b_Mo_undo 71 = .ok (.aload_n 0, 1) := by decide +kernel
theorem d_Mo_undo_72 : decode b_Mo_undo 72 = .ok (.getfield 23, 3) := by decide +kernel
theorem d_Mo_undo_75 : decode b_Mo_undo 75 = .ok (.iload_n 2, 1) := by decide +kernel
theorem d_Mo_undo_76 : decode b_Mo_undo 76 = .ok (.aload_n 0, 1) := by decide +kernel
theorem d_Mo_undo_77 : decode b_Mo_undo 77 = .ok (.getfield 65, 3) := by decide +kernel
theorem d_Mo_undo_80 : decode b_Mo_undo 80 = .ok (.iload_n 1, 1) := by decide +kernel
theorem d_Mo_undo_81 : decode b_Mo_undo 81 = .ok (.bipush 13, 2) := by decide +kernel
theorem d_Mo_undo_83 : decode b_Mo_undo 83 = .ok (.iadd, 1) := by decide +kernel
theorem d_Mo_undo_84 : decode b_Mo_undo 84 = .ok (.iload_n 2, 1) := by decide +kernel
theorem d_Mo_undo_85 : decode b_Mo_undo 85 = .ok (.iadd, 1) := by decide +kernel
theorem d_Mo_undo_86 : decode b_Mo_undo 86 = .ok (.iaload, 1) := by decide +kernel
theorem d_Mo_undo_87 : decode b_Mo_undo 87 = .ok (.iastore, 1) := by decide +kernel
theorem d_Mo_undo_88 : decode b_Mo_undo 88 = .ok (.aload_n 0, 1) := by decide +kernel
theorem d_Mo_undo_89 : decode b_Mo_undo 89 = .ok (.getfield 29, 3) := by decide +kernel
theorem d_Mo_undo_92 : decode b_Mo_undo 92 = .ok (.iload_n 2, 1) := by decide +kernel
theorem d_Mo_undo_93 : decode b_Mo_undo 93 = .ok (.aload_n 0, 1) := by decide +kernel
theorem d_Mo_undo_94 : decode b_Mo_undo 94 = .ok (.getfield 65, 3) := by decide +kernel
theorem d_Mo_undo_97 : decode b_Mo_undo 97 = .ok (.iload_n 1, 1) := by decide +kernel
theorem d_Mo_undo_98 : decode b_Mo_undo 98 = .ok (.bipush 25, 2) := by decide +kernel
theorem d_Mo_undo_100 : decode b_Mo_undo 100 = .ok (.iadd, 1) := by decide +kernel
theorem d_Mo_undo_101 : decode b_Mo_undo 101 = .ok (.iload_n 2, 1) := by decide +kernel
theorem d_Mo_undo_102 : decode b_Mo_undo 102 = .ok (.iadd, 1) := by decide +kernel
theorem d_Mo_undo_103 : decode b_Mo_undo 103 = .ok (.iaload, 1) := by decide +kernel
theorem d_Mo_undo_104 : decode b_Mo_undo 104 = .ok (.iastore, 1) := by decide +kernel
theorem d_Mo_undo_105 : decode b_Mo_undo 105 = .ok (.aload_n 0, 1) := by decide +kernel
theorem d_Mo_undo_106 : decode b_Mo_undo 106 = .ok (.getfield 32, 3) := by decide +kernel
theorem d_Mo_undo_109 : decode b_Mo_undo 109 = .ok (.iload_n 2, 1) := by decide +kernel
theorem d_Mo_undo_110 : decode b_Mo_undo 110 = .ok (.aload_n 0, 1) := by decide +kernel
theorem d_Mo_undo_111 : decode b_Mo_undo 111 = .ok (.getfield 65, 3) := by decide +kernel
theorem d_Mo_undo_114 : decode b_Mo_undo 114 = .ok (.iload_n 1, 1) := by decide +kernel
theorem d_Mo_undo_115 : decode b_Mo_undo 115 = .ok (.bipush 37, 2) := by decide +kernel
theorem d_Mo_undo_117 : decode b_Mo_undo 117 = .ok (.iadd, 1) := by decide +kernel
theorem d_Mo_undo_118 : decode b_Mo_undo 118 = .ok (.iload_n 2, 1) := by decide +kernel
theorem d_Mo_undo_119 : decode b_Mo_undo 119 = .ok (.iadd, 1) := by decide +kernel
theorem d_Mo_undo_120 : decode b_Mo_undo 120 = .ok (.iaload, 1) := by decide +kernel
theorem d_Mo_undo_121 : decode b_Mo_undo 121 = .ok (.iastore, 1) := by decide +kernel
theorem d_Mo_undo_122 : decode b_Mo_undo 122 = .ok (.aload_n 0, 1) := by decide +kernel
theorem d_Mo_undo_123 : decode b_Mo_undo 123 = .ok (.getfield 35, 3) := by decide +kernel
theorem d_Mo_undo_126 : decode b_Mo_undo 126 = .ok (.iload_n 2, 1) := by decide +kernel
theorem d_Mo_undo_127 : decode b_Mo_undo 127 = .ok (.aload_n 0, 1) := by decide +kernel
theorem d_Mo_undo_128 : decode b_Mo_undo 128 = .ok (.getfield 65, 3) := by decide +kernel
theorem d_Mo_undo_131 : decode b_Mo_undo 131 = .ok (.iload_n 1, 1) := by decide +kernel
theorem d_Mo_undo_132 : decode b_Mo_undo 132 = .ok (.bipush 49, 2) := by decide +kernel
theorem d_Mo_undo_134 : decode b_Mo_undo 134 = .ok (.iadd, 1) := by decide +kernel
theorem d_Mo_undo_135 : decode b_Mo_undo 135 = .ok (.iload_n 2, 1) := by decide +kernel
theorem d_Mo_undo_136 : decode b_Mo_undo 136 = .ok (.iadd, 1) := by decide +kernel
theorem d_Mo_undo_137 : decode b_Mo_undo 137 = .ok (.iaload, 1) := by decide +kernel
theorem d_Mo_undo_138 : decode b_Mo_undo 138 = .ok (.iastore, 1) := by decide +kernel
theorem d_Mo_undo_139 : decode b_Mo_undo 139 = .ok (.aload_n 0, 1) := by decide +kernel
theorem d_Mo_undo_140 : decode b_Mo_undo 140 = .ok (.getfield 38, 3) := by decide +kernel
theorem d_Mo_undo_143 : decode b_Mo_undo 143 = .ok (.iload_n 2, 1) := by decide +kernel
theorem d_Mo_undo_144 : decode b_Mo_undo 144 = .ok (.aload_n 0, 1) := by decide +kernel
theorem d_Mo_undo_145 : decode b_Mo_undo 145 = .ok (.getfield 65, 3) := by decide +kernel
theorem d_Mo_undo_148 : decode b_Mo_undo 148 = .ok (.iload_n 1, 1) := by decide +kernel
theorem d_Mo_undo_149 : decode b_Mo_undo 149 = .ok (.bipush 61, 2) := by decide +kernel
theorem d_Mo_undo_151 : decode b_Mo_undo 151 = .ok (.iadd, 1) := by decide +kernel
theorem d_Mo_undo_152 : decode b_Mo_undo 152 = .ok (.iload_n 2, 1) := by decide +kernel
theorem d_Mo_undo_153 : decode b_Mo_undo 153 = .ok (.iadd, 1) := by decide +kernel
theorem d_Mo_undo_154 : decode b_Mo_undo 154 = .ok (.iaload, 1) := by decide +kernel
theorem d_Mo_undo_155 : decode b_Mo_undo 155 = .ok (.iastore, 1) := by decide +kernel
theorem d_Mo_undo_156 : decode b_Mo_undo 156 = .ok (.aload_n 0, 1) := by decide +kernel
theorem d_Mo_undo_157 : decode b_Mo_undo 157 = .ok (.getfield 50, 3) := by decide +kernel
theorem d_Mo_undo_160 : decode b_Mo_undo 160 = .ok (.iload_n 2, 1) := by decide +kernel
theorem d_Mo_undo_161 : decode b_Mo_undo 161 = .ok (.iconst (-1), 1) := by decide +kernel
theorem d_Mo_undo_162 : decode b_Mo_undo 162 = .ok (.iastore, 1) := by decide +kernel
theorem d_Mo_undo_163 : decode b_Mo_undo 163 = .ok (.iinc 2 1, 3) := by decide +kernel
theorem d_Mo_undo_166 : decode b_Mo_undo 166 = .ok (.goto (-117), 3) := by decide +kernel
theorem d_Mo_undo_169 : decode b_Mo_undo 169 = .ok (.iconst 1, 1) := by decide +kernel
theorem d_Mo_undo_170 : decode b_Mo_undo 170 = .ok (.ireturn, 1) := by decide +kernel
theorem wd_726 : (Cond.fieldLink "SheetWarModel" (174 : Nat) "SheetWarModel" "sheets" "I") ∈ TB := tb_t 726 (by decide +kernel) (by decide +kernel)
set_option maxHeartbeats 4000000 in
set_option maxRecDepth 100000 in
theorem c_Mo_undo_0 (l : Launch) (D : va_G) (cI cZ cJ cS : ClassId) (aT : Nat) (ceT : Cell) (sz : Nat) (g0 m_sea m_center m_home m_borders m_owner m_units m_kind m_toX m_toY m_results m_known m_reached m_way m_aside m_origin m_retreats m_contested m_moved m_past : Nat) (co ar mp mt : Int32)  : Met l y_Mo_undo w_Mo_undo ({ frames := 1, cells := 0, slots := 0, locals := 21 }) (tH D cI cZ cJ cS aT ceT [.ref g0] sz [(g0, .inr (6, [.int co, .int ar, .ref m_sea, .ref m_center, .ref m_home, .ref m_borders, .int mp, .int mt, .ref m_owner, .ref m_units, .ref m_kind, .ref m_toX, .ref m_toY, .ref m_results, .ref m_known, .ref m_reached, .ref m_way, .ref m_aside, .ref m_origin, .ref m_retreats, .ref m_contested, .ref m_moved, .int 0, .ref m_past]))]) (va_Qi (fun (r : Int32) (_ : Unit) => r = 0) (fun _ t => tB D (va_A [(g0, .inr (6, [.int co, .int ar, .ref m_sea, .ref m_center, .ref m_home, .ref m_borders, .int mp, .int mt, .ref m_owner, .ref m_units, .ref m_kind, .ref m_toX, .ref m_toY, .ref m_results, .ref m_known, .ref m_reached, .ref m_way, .ref m_aside, .ref m_origin, .ref m_retreats, .ref m_contested, .ref m_moved, .int 0, .ref m_past]))] sz) [(g0, .inr (6, [.int 0, .int ar, .ref m_sea, .ref m_center, .ref m_home, .ref m_borders, .int mp, .int mt, .ref m_owner, .ref m_units, .ref m_kind, .ref m_toX, .ref m_toY, .ref m_results, .ref m_known, .ref m_reached, .ref m_way, .ref m_aside, .ref m_origin, .ref m_retreats, .ref m_contested, .ref m_moved, .int 0, .ref m_past]))] t) (va_A [(g0, .inr (6, [.int co, .int ar, .ref m_sea, .ref m_center, .ref m_home, .ref m_borders, .int mp, .int mt, .ref m_owner, .ref m_units, .ref m_kind, .ref m_toX, .ref m_toY, .ref m_results, .ref m_known, .ref m_reached, .ref m_way, .ref m_aside, .ref m_origin, .ref m_retreats, .ref m_contested, .ref m_moved, .int 0, .ref m_past]))] sz)) 0 0 (va_A [(g0, .inr (6, [.int co, .int ar, .ref m_sea, .ref m_center, .ref m_home, .ref m_borders, .int mp, .int mt, .ref m_owner, .ref m_units, .ref m_kind, .ref m_toX, .ref m_toY, .ref m_results, .ref m_known, .ref m_reached, .ref m_way, .ref m_aside, .ref m_origin, .ref m_retreats, .ref m_contested, .ref m_moved, .int 0, .ref m_past]))] sz) := by
  refine Met.ofW (cc := b_Mo_undo) (maxL := 3) (ret := (some .boolean)) (by decide) rfl ?_
  intro p e s m args below meth c s₁ B hml hv
  obtain ⟨rfl, hsz, hP, hK, hD0, hX⟩ := hv
  have hx := B.exec
  have hb := B.bytes
  have hr := B.returns
  have hts0 := atoms_spec (ws := w_Mo_undo) B.pre
  have hts : ∀ w ∈ TB, w.before _ s = true := fun w h => hts0 w (List.mem_cons_of_mem _ h)
  have hown : s.vm.findClass R_Mo = some m.cls := findClass_of_methodNamed B.named
  have hlocks := B.notSynchronized
  subst hsz
  have hXl := tx_lt hX
  have hXn := tx_far hP hX
  have hD := hD0.self (sz := s.heap.size)
  generalize hAe : va_A [(g0, .inr (6, [.int co, .int ar, .ref m_sea, .ref m_center, .ref m_home, .ref m_borders, .int mp, .int mt, .ref m_owner, .ref m_units, .ref m_kind, .ref m_toX, .ref m_toY, .ref m_results, .ref m_known, .ref m_reached, .ref m_way, .ref m_aside, .ref m_origin, .ref m_retreats, .ref m_contested, .ref m_moved, .int 0, .ref m_past]))] s.heap.size = A at hD hXn ⊢
  have hA : ∀ q : Nat, s.heap.size ≤ q → A q := fun q h => by rw [← hAe]; exact Or.inr h
  have hS : va_S A s.heap s.heap [] := va_S.rf
  have hXH : s.heap[aT]? = s.heap[aT]? := rfl
  have hl := lv_entry ([.ref g0]) (n := 3) (Nat.le_of_ble_eq_true rfl)
  rw [lg_entry_eq]
  generalize (lg_sl ([.ref g0]) ++ List.replicate (3 - (lg_sl ([.ref g0])).length) Slot.unset).toArray = ls at hl ⊢
  have hl : lv_has ls 3 [(0, .ref g0)] := hl
  refine lv_aload_n hx hb d_Mo_undo_0 rfl (lv_at hl 0 rfl) ?_
  refine lv_iconst (v := 0) hx hb d_Mo_undo_1 (by decide) ?_
  refine va_put (D := D) (ci := 6) (v := .int 0) (ty := .int) (C := R_Mo) (T := T_Mo) (N := 24) hx hb hts hin_Mo ty_Mo tyok_Mo nm_Mo hown hK hP hD hS 0 rfl rfl 0 (by decide) (hts _ wd_704) (fun _ h9 => h9) rfl (by decide +kernel) rfl rfl (Nat.le_of_ble_eq_true rfl) d_Mo_undo_2 (fun H locs hP hD hS => ?_)
  have hP : va_P D vwCl [(g0, .inr (6, [.int 0, .int ar, .ref m_sea, .ref m_center, .ref m_home, .ref m_borders, .int mp, .int mt, .ref m_owner, .ref m_units, .ref m_kind, .ref m_toX, .ref m_toY, .ref m_results, .ref m_known, .ref m_reached, .ref m_way, .ref m_aside, .ref m_origin, .ref m_retreats, .ref m_contested, .ref m_moved, .int 0, .ref m_past]))] H := hP
  have hD : va_D A [(g0, .inr (6, [.int 0, .int ar, .ref m_sea, .ref m_center, .ref m_home, .ref m_borders, .int mp, .int mt, .ref m_owner, .ref m_units, .ref m_kind, .ref m_toX, .ref m_toY, .ref m_results, .ref m_known, .ref m_reached, .ref m_way, .ref m_aside, .ref m_origin, .ref m_retreats, .ref m_contested, .ref m_moved, .int 0, .ref m_past]))] := hD
  refine lv_aload_n hx hb d_Mo_undo_5 rfl (lv_at hl 0 rfl) ?_
  refine va_get (D := D) (ci := 6) (v := .int 0) (C := R_Mo) (T := T_Mo) (N := 24) hx hb hts hin_Mo hown hK hP 0 rfl rfl 22 (by decide) (hts _ wd_726) (fun _ h9 => h9) rfl d_Mo_undo_6 ?_
  refine lv_if_ne (tgt := 14) hx hb d_Mo_undo_9 (by decide) (fun h0 => absurd (by decide) h0) (fun _ => ?_)
  refine lv_iconst (v := 0) hx hb d_Mo_undo_12 (by decide) ?_
  have hP9 := hP.sub (ws' := [(g0, .inr (6, [.int 0, .int ar, .ref m_sea, .ref m_center, .ref m_home, .ref m_borders, .int mp, .int mt, .ref m_owner, .ref m_units, .ref m_kind, .ref m_toX, .ref m_toY, .ref m_results, .ref m_known, .ref m_reached, .ref m_way, .ref m_aside, .ref m_origin, .ref m_retreats, .ref m_contested, .ref m_moved, .int 0, .ref m_past]))]) [0] rfl
  have hD9 := hD.sub (ws' := [(g0, .inr (6, [.int 0, .int ar, .ref m_sea, .ref m_center, .ref m_home, .ref m_borders, .int mp, .int mt, .ref m_owner, .ref m_units, .ref m_kind, .ref m_toX, .ref m_toY, .ref m_results, .ref m_known, .ref m_reached, .ref m_way, .ref m_aside, .ref m_origin, .ref m_retreats, .ref m_contested, .ref m_moved, .int 0, .ref m_past]))]) [0] (by decide) rfl
  exact W.zret (v := 0) hx hb hr (by decide) (fun t ht hW => ⟨⟨0, (), rfl, rfl, by rw [ht]; exact hP9, hD9⟩, hS.F ht⟩) hS.2.2 d_Mo_undo_13

theorem d_Mo_mayGo_0 : decode b_Mo_mayGo 0 = .ok (.aload_n 0, 1) := by decide +kernel
theorem d_Mo_mayGo_1 : decode b_Mo_mayGo 1 = .ok (.iconst 0, 1) := by decide +kernel
theorem d_Mo_mayGo_2 : decode b_Mo_mayGo 2 = .ok (.putfield 68, 3) := by decide +kernel
theorem d_Mo_mayGo_5 : decode b_Mo_mayGo 5 = .ok (.aload_n 0, 1) := by decide +kernel
theorem d_Mo_mayGo_6 : decode b_Mo_mayGo 6 = .ok (.iload_n 1, 1) := by decide +kernel
theorem d_Mo_mayGo_7 : decode b_Mo_mayGo 7 = .ok (.invokevirtual 78, 3) := by decide +kernel
theorem d_Mo_mayGo_10 : decode b_Mo_mayGo 10 = .ok (.ifCond .eq 33, 3) := by decide +kernel
theorem d_Mo_mayGo_13 : decode b_Mo_mayGo 13 = .ok (.aload_n 0, 1) := by decide +kernel
theorem d_Mo_mayGo_14 : decode b_Mo_mayGo 14 = .ok (.iload_n 2, 1) := by decide +kernel
theorem d_Mo_mayGo_15 : decode b_Mo_mayGo 15 = .ok (.invokevirtual 78, 3) := by decide +kernel
theorem d_Mo_mayGo_18 : decode b_Mo_mayGo 18 = .ok (.ifCond .eq 25, 3) := by decide +kernel
theorem d_Mo_mayGo_21 : decode b_Mo_mayGo 21 = .ok (.aload_n 0, 1) := by decide +kernel
theorem d_Mo_mayGo_22 : decode b_Mo_mayGo 22 = .ok (.getfield 50, 3) := by decide +kernel
theorem d_Mo_mayGo_25 : decode b_Mo_mayGo 25 = .ok (.iload_n 1, 1) := by decide +kernel
theorem d_Mo_mayGo_26 : decode b_Mo_mayGo 26 = .ok (.iaload, 1) := by decide +kernel
theorem d_Mo_mayGo_27 : decode b_Mo_mayGo 27 = .ok (.ifCond .lt 16, 3) := by decide +kernel
theorem d_Mo_mayGo_30 : decode b_Mo_mayGo 30 = .ok (.aload_n 0, 1) := by decide +kernel
theorem d_Mo_mayGo_31 : decode b_Mo_mayGo 31 = .ok (.iload_n 1, 1) := by decide +kernel
theorem d_Mo_mayGo_32 : decode b_Mo_mayGo 32 = .ok (.iload_n 2, 1) := by decide +kernel
theorem d_Mo_mayGo_33 : decode b_Mo_mayGo 33 = .ok (.invokevirtual 201, 3) := by decide +kernel
theorem d_Mo_mayGo_36 : decode b_Mo_mayGo 36 = .ok (.ifCond .eq 7, 3) := by decide +kernel
theorem d_Mo_mayGo_39 : decode b_Mo_mayGo 39 = .ok (.iconst 1, 1) := by decide +kernel
theorem d_Mo_mayGo_40 : decode b_Mo_mayGo 40 = .ok (.goto 4, 3) := by decide +kernel
theorem d_Mo_mayGo_43 : decode b_Mo_mayGo 43 = .ok (.iconst 0, 1) := by decide +kernel
theorem d_Mo_mayGo_44 : decode b_Mo_mayGo 44 = .ok (.ireturn, 1) := by decide +kernel

set_option maxHeartbeats 4000000 in
set_option maxRecDepth 100000 in
theorem c_Mo_mayGo_0 (l : Launch) (D : va_G) (cI cZ cJ cS : ClassId) (aT : Nat) (ceT : Cell) (sz : Nat) (g0 m_sea m_center m_home m_borders m_owner m_units m_kind m_toX m_toY m_results m_known m_reached m_way m_aside m_origin m_retreats m_contested m_moved m_past : Nat) (co mp mt msh : Int32) (a b : Int32)  : Met l y_Mo_mayGo w_Mo_mayGo ({ frames := 1, cells := 0, slots := 0, locals := 21 }) (tH D cI cZ cJ cS aT ceT [.ref g0, .int a, .int b] sz [(g0, .inr (6, [.int co, .int 0, .ref m_sea, .ref m_center, .ref m_home, .ref m_borders, .int mp, .int mt, .ref m_owner, .ref m_units, .ref m_kind, .ref m_toX, .ref m_toY, .ref m_results, .ref m_known, .ref m_reached, .ref m_way, .ref m_aside, .ref m_origin, .ref m_retreats, .ref m_contested, .ref m_moved, .int msh, .ref m_past]))]) (va_Qi (fun (r : Int32) (_ : Unit) => r = 0) (fun _ t => tB D (va_A [(g0, .inr (6, [.int co, .int 0, .ref m_sea, .ref m_center, .ref m_home, .ref m_borders, .int mp, .int mt, .ref m_owner, .ref m_units, .ref m_kind, .ref m_toX, .ref m_toY, .ref m_results, .ref m_known, .ref m_reached, .ref m_way, .ref m_aside, .ref m_origin, .ref m_retreats, .ref m_contested, .ref m_moved, .int msh, .ref m_past]))] sz) [(g0, .inr (6, [.int 0, .int 0, .ref m_sea, .ref m_center, .ref m_home, .ref m_borders, .int mp, .int mt, .ref m_owner, .ref m_units, .ref m_kind, .ref m_toX, .ref m_toY, .ref m_results, .ref m_known, .ref m_reached, .ref m_way, .ref m_aside, .ref m_origin, .ref m_retreats, .ref m_contested, .ref m_moved, .int msh, .ref m_past]))] t) (va_A [(g0, .inr (6, [.int co, .int 0, .ref m_sea, .ref m_center, .ref m_home, .ref m_borders, .int mp, .int mt, .ref m_owner, .ref m_units, .ref m_kind, .ref m_toX, .ref m_toY, .ref m_results, .ref m_known, .ref m_reached, .ref m_way, .ref m_aside, .ref m_origin, .ref m_retreats, .ref m_contested, .ref m_moved, .int msh, .ref m_past]))] sz)) 0 0 (va_A [(g0, .inr (6, [.int co, .int 0, .ref m_sea, .ref m_center, .ref m_home, .ref m_borders, .int mp, .int mt, .ref m_owner, .ref m_units, .ref m_kind, .ref m_toX, .ref m_toY, .ref m_results, .ref m_known, .ref m_reached, .ref m_way, .ref m_aside, .ref m_origin, .ref m_retreats, .ref m_contested, .ref m_moved, .int msh, .ref m_past]))] sz) := by
  refine Met.ofW (cc := b_Mo_mayGo) (maxL := 3) (ret := (some .boolean)) (by decide) rfl ?_
  intro p e s m args below meth c s₁ B hml hv
  obtain ⟨rfl, hsz, hP, hK, hD0, hX⟩ := hv
  have hx := B.exec
  have hb := B.bytes
  have hr := B.returns
  have hts0 := atoms_spec (ws := w_Mo_mayGo) B.pre
  have hts : ∀ w ∈ TB, w.before _ s = true := fun w h => hts0 w (List.mem_cons_of_mem _ h)
  have hown : s.vm.findClass R_Mo = some m.cls := findClass_of_methodNamed B.named
  have hlocks := B.notSynchronized
  subst hsz
  have hXl := tx_lt hX
  have hXn := tx_far hP hX
  have hD := hD0.self (sz := s.heap.size)
  generalize hAe : va_A [(g0, .inr (6, [.int co, .int 0, .ref m_sea, .ref m_center, .ref m_home, .ref m_borders, .int mp, .int mt, .ref m_owner, .ref m_units, .ref m_kind, .ref m_toX, .ref m_toY, .ref m_results, .ref m_known, .ref m_reached, .ref m_way, .ref m_aside, .ref m_origin, .ref m_retreats, .ref m_contested, .ref m_moved, .int msh, .ref m_past]))] s.heap.size = A at hD hXn ⊢
  have hA : ∀ q : Nat, s.heap.size ≤ q → A q := fun q h => by rw [← hAe]; exact Or.inr h
  have hS : va_S A s.heap s.heap [] := va_S.rf
  have hXH : s.heap[aT]? = s.heap[aT]? := rfl
  have hl := lv_entry ([.ref g0, .int a, .int b]) (n := 3) (Nat.le_of_ble_eq_true rfl)
  rw [lg_entry_eq]
  generalize (lg_sl ([.ref g0, .int a, .int b]) ++ List.replicate (3 - (lg_sl ([.ref g0, .int a, .int b])).length) Slot.unset).toArray = ls at hl ⊢
  have hl : lv_has ls 3 [(0, .ref g0), (1, .int a), (2, .int b)] := hl
  refine lv_aload_n hx hb d_Mo_mayGo_0 rfl (lv_at hl 0 rfl) ?_
  refine lv_iconst (v := 0) hx hb d_Mo_mayGo_1 (by decide) ?_
  refine va_put (D := D) (ci := 6) (v := .int 0) (ty := .int) (C := R_Mo) (T := T_Mo) (N := 24) hx hb hts hin_Mo ty_Mo tyok_Mo nm_Mo hown hK hP hD hS 0 rfl rfl 0 (by decide) (hts _ wd_704) (fun _ h9 => h9) rfl (by decide +kernel) rfl rfl (Nat.le_of_ble_eq_true rfl) d_Mo_mayGo_2 (fun H locs hP hD hS => ?_)
  have hP : va_P D vwCl [(g0, .inr (6, [.int 0, .int 0, .ref m_sea, .ref m_center, .ref m_home, .ref m_borders, .int mp, .int mt, .ref m_owner, .ref m_units, .ref m_kind, .ref m_toX, .ref m_toY, .ref m_results, .ref m_known, .ref m_reached, .ref m_way, .ref m_aside, .ref m_origin, .ref m_retreats, .ref m_contested, .ref m_moved, .int msh, .ref m_past]))] H := hP
  have hD : va_D A [(g0, .inr (6, [.int 0, .int 0, .ref m_sea, .ref m_center, .ref m_home, .ref m_borders, .int mp, .int mt, .ref m_owner, .ref m_units, .ref m_kind, .ref m_toX, .ref m_toY, .ref m_results, .ref m_known, .ref m_reached, .ref m_way, .ref m_aside, .ref m_origin, .ref m_retreats, .ref m_contested, .ref m_moved, .int msh, .ref m_past]))] := hD
  refine lv_aload_n hx hb d_Mo_mayGo_5 rfl (lv_at hl 0 rfl) ?_
  refine lv_iload_n hx hb d_Mo_mayGo_6 rfl (lv_at hl 1 rfl) ?_
  have hPc := hP.sub (ws' := [(g0, .inr (6, [.int 0, .int 0, .ref m_sea, .ref m_center, .ref m_home, .ref m_borders, .int mp, .int mt, .ref m_owner, .ref m_units, .ref m_kind, .ref m_toX, .ref m_toY, .ref m_results, .ref m_known, .ref m_reached, .ref m_way, .ref m_aside, .ref m_origin, .ref m_retreats, .ref m_contested, .ref m_moved, .int msh, .ref m_past]))]) [0] rfl
  refine vp_callSi (va_Run.run (va_runV (As := [.int a]) (rest := []) ⟨hx, hb, hml, hown, hts⟩ (c_Mo_isArea l D cI cZ cJ cS aT ceT  g0 m_sea m_center m_home m_borders m_owner m_units m_kind m_toX m_toY m_results m_known m_reached m_way m_aside m_origin m_retreats m_contested m_moved m_past 0 0 mp mt msh a ) (cwV 1 hts (tb_4 wd_790 wd_792 wp_36 wd_8 (tb_c wd_793)) rfl rfl rfl ⟨rfl, by decide, by decide, by decide +kernel⟩ ⟨Nat.le_of_ble_eq_true rfl, Nat.le_of_ble_eq_true rfl⟩) (tP_V hK hX (hS.2.1 aT hXl hXn) hPc (q := 0) rfl rfl) rfl rfl hl.1 rfl (lv_room (Nat.le_of_ble_eq_true rfl)) d_Mo_mayGo_7 ⟨Nat.le_of_ble_eq_true rfl, Nat.le_of_ble_eq_true rfl⟩)) (fun r1 hr9 => ?_)
  rcases hr9 with ⟨rfl, hq2⟩ | ⟨rfl, hq2⟩
  · exact absurd hq2 tn_no
  · -- 7: false
    refine lv_if_eq (tgt := 43) hx hb d_Mo_mayGo_10 (by decide) (fun _ => ?_) (fun h0 => absurd (by decide) h0)
    refine lv_iconst (v := 0) hx hb d_Mo_mayGo_43 (by decide) ?_
    have hP9 := hP.sub (ws' := [(g0, .inr (6, [.int 0, .int 0, .ref m_sea, .ref m_center, .ref m_home, .ref m_borders, .int mp, .int mt, .ref m_owner, .ref m_units, .ref m_kind, .ref m_toX, .ref m_toY, .ref m_results, .ref m_known, .ref m_reached, .ref m_way, .ref m_aside, .ref m_origin, .ref m_retreats, .ref m_contested, .ref m_moved, .int msh, .ref m_past]))]) [0] rfl
    have hD9 := hD.sub (ws' := [(g0, .inr (6, [.int 0, .int 0, .ref m_sea, .ref m_center, .ref m_home, .ref m_borders, .int mp, .int mt, .ref m_owner, .ref m_units, .ref m_kind, .ref m_toX, .ref m_toY, .ref m_results, .ref m_known, .ref m_reached, .ref m_way, .ref m_aside, .ref m_origin, .ref m_retreats, .ref m_contested, .ref m_moved, .int msh, .ref m_past]))]) [0] (by decide) rfl
    exact W.zret (v := 0) hx hb hr (by decide) (fun t ht hW => ⟨⟨0, (), rfl, rfl, by rw [ht]; exact hP9, hD9⟩, hS.F ht⟩) hS.2.2 d_Mo_mayGo_44

theorem d_Mo_told_0 : decode b_Mo_told 0 = .ok (.aload_n 0, 1) := by decide +kernel
theorem d_Mo_told_1 : decode b_Mo_told 1 = .ok (.iconst 0, 1) := by decide +kernel
theorem d_Mo_told_2 : decode b_Mo_told 2 = .ok (.putfield 68, 3) := by decide +kernel
theorem d_Mo_told_5 : decode b_Mo_told 5 = .ok (.aload_n 0, 1) := by decide +kernel
theorem d_Mo_told_6 : decode b_Mo_told 6 = .ok (.iload_n 1, 1) := by decide +kernel
theorem d_Mo_told_7 : decode b_Mo_told 7 = .ok (.invokevirtual 78, 3) := by decide +kernel
theorem d_Mo_told_10 : decode b_Mo_told 10 = .ok (.ifCond .eq 20, 3) := by decide +kernel
theorem d_Mo_told_13 : decode b_Mo_told 13 = .ok (.aload_n 0, 1) := by decide +kernel
theorem d_Mo_told_14 : decode b_Mo_told 14 = .ok (.getfield 26, 3) := by decide +kernel
theorem d_Mo_told_17 : decode b_Mo_told 17 = .ok (.iload_n 1, 1) := by decide +kernel
theorem d_Mo_told_18 : decode b_Mo_told 18 = .ok (.iaload, 1) := by decide +kernel
theorem d_Mo_told_19 : decode b_Mo_told 19 = .ok (.ifCond .lt 11, 3) := by decide +kernel
theorem d_Mo_told_22 : decode b_Mo_told 22 = .ok (.aload_n 0, 1) := by decide +kernel
theorem d_Mo_told_23 : decode b_Mo_told 23 = .ok (.getfield 75, 3) := by decide +kernel
theorem d_Mo_told_26 : decode b_Mo_told 26 = .ok (.iconst 1, 1) := by decide +kernel
theorem d_Mo_told_27 : decode b_Mo_told 27 = .ok (.if_icmp .eq 5, 3) := by decide +kernel
theorem d_Mo_told_30 : decode b_Mo_told 30 = .ok (.iconst (-1), 1) := by decide +kernel
theorem d_Mo_told_31 : decode b_Mo_told 31 = .ok (.ireturn, 1) := by decide +kernel
theorem d_Mo_told_32 : decode b_Mo_told 32 = .ok (.iload_n 2, 1) := by decide +kernel
theorem d_Mo_told_33 : decode b_Mo_told 33 = .ok (.ifCond .ne 12, 3) := by decide +kernel
theorem d_Mo_told_36 : decode b_Mo_told 36 = .ok (.aload_n 0, 1) := by decide +kernel
theorem d_Mo_told_37 : decode b_Mo_told 37 = .ok (.getfield 29, 3) := by decide +kernel
theorem d_Mo_told_40 : decode b_Mo_told 40 = .ok (.iload_n 1, 1) := by decide +kernel
theorem d_Mo_told_41 : decode b_Mo_told 41 = .ok (.iaload, 1) := by decide +kernel
theorem d_Mo_told_42 : decode b_Mo_told 42 = .ok (.goto 32, 3) := by decide +kernel
theorem d_Mo_told_45 : decode b_Mo_told 45 = .ok (.iload_n 2, 1) := by decide +kernel
theorem d_Mo_told_46 : decode b_Mo_told 46 = .ok (.iconst 1, 1) := by decide +kernel
theorem d_Mo_told_47 : decode b_Mo_told 47 = .ok (.if_icmp .ne 12, 3) := by decide +kernel
theorem d_Mo_told_50 : decode b_Mo_told 50 = .ok (.aload_n 0, 1) := by decide +kernel
theorem d_Mo_told_51 : decode b_Mo_told 51 = .ok (.getfield 32, 3) := by decide +kernel
theorem d_Mo_told_54 : decode b_Mo_told 54 = .ok (.iload_n 1, 1) := by decide +kernel
theorem d_Mo_told_55 : decode b_Mo_told 55 = .ok (.iaload, 1) := by decide +kernel
theorem d_Mo_told_56 : decode b_Mo_told 56 = .ok (.goto 18, 3) := by decide +kernel
theorem d_Mo_told_59 : decode b_Mo_told 59 = .ok (.iload_n 2, 1) := by decide +kernel
theorem d_Mo_told_60 : decode b_Mo_told 60 = .ok (.iconst 2, 1) := by decide +kernel
theorem d_Mo_told_61 : decode b_Mo_told 61 = .ok (.if_icmp .ne 12, 3) := by decide +kernel
theorem d_Mo_told_64 : decode b_Mo_told 64 = .ok (.aload_n 0, 1) := by decide +kernel
theorem d_Mo_told_65 : decode b_Mo_told 65 = .ok (.getfield 35, 3) := by decide +kernel
theorem d_Mo_told_68 : decode b_Mo_told 68 = .ok (.iload_n 1, 1) := by decide +kernel
theorem d_Mo_told_69 : decode b_Mo_told 69 = .ok (.iaload, 1) := by decide +kernel
theorem d_Mo_told_70 : decode b_Mo_told 70 = .ok (.goto 4, 3) := by decide +kernel
theorem d_Mo_told_73 : decode b_Mo_told 73 = .ok (.iconst (-1), 1) := by decide +kernel
theorem d_Mo_told_74 : decode b_Mo_told 74 = .ok (.ireturn, 1) := by decide +kernel

set_option maxHeartbeats 4000000 in
set_option maxRecDepth 100000 in
theorem c_Mo_told_0 (l : Launch) (D : va_G) (cI cZ cJ cS : ClassId) (aT : Nat) (ceT : Cell) (sz : Nat) (g0 m_sea m_center m_home m_borders m_owner m_units m_kind m_toX m_toY m_results m_known m_reached m_way m_aside m_origin m_retreats m_contested m_moved m_past : Nat) (co mp mt msh : Int32) (a b : Int32)  : Met l y_Mo_told w_Mo_told ({ frames := 1, cells := 0, slots := 0, locals := 21 }) (tH D cI cZ cJ cS aT ceT [.ref g0, .int a, .int b] sz [(g0, .inr (6, [.int co, .int 0, .ref m_sea, .ref m_center, .ref m_home, .ref m_borders, .int mp, .int mt, .ref m_owner, .ref m_units, .ref m_kind, .ref m_toX, .ref m_toY, .ref m_results, .ref m_known, .ref m_reached, .ref m_way, .ref m_aside, .ref m_origin, .ref m_retreats, .ref m_contested, .ref m_moved, .int msh, .ref m_past]))]) (va_Qi (fun (r : Int32) (_ : Unit) => r = (-1)) (fun _ t => tB D (va_A [(g0, .inr (6, [.int co, .int 0, .ref m_sea, .ref m_center, .ref m_home, .ref m_borders, .int mp, .int mt, .ref m_owner, .ref m_units, .ref m_kind, .ref m_toX, .ref m_toY, .ref m_results, .ref m_known, .ref m_reached, .ref m_way, .ref m_aside, .ref m_origin, .ref m_retreats, .ref m_contested, .ref m_moved, .int msh, .ref m_past]))] sz) [(g0, .inr (6, [.int 0, .int 0, .ref m_sea, .ref m_center, .ref m_home, .ref m_borders, .int mp, .int mt, .ref m_owner, .ref m_units, .ref m_kind, .ref m_toX, .ref m_toY, .ref m_results, .ref m_known, .ref m_reached, .ref m_way, .ref m_aside, .ref m_origin, .ref m_retreats, .ref m_contested, .ref m_moved, .int msh, .ref m_past]))] t) (va_A [(g0, .inr (6, [.int co, .int 0, .ref m_sea, .ref m_center, .ref m_home, .ref m_borders, .int mp, .int mt, .ref m_owner, .ref m_units, .ref m_kind, .ref m_toX, .ref m_toY, .ref m_results, .ref m_known, .ref m_reached, .ref m_way, .ref m_aside, .ref m_origin, .ref m_retreats, .ref m_contested, .ref m_moved, .int msh, .ref m_past]))] sz)) 0 0 (va_A [(g0, .inr (6, [.int co, .int 0, .ref m_sea, .ref m_center, .ref m_home, .ref m_borders, .int mp, .int mt, .ref m_owner, .ref m_units, .ref m_kind, .ref m_toX, .ref m_toY, .ref m_results, .ref m_known, .ref m_reached, .ref m_way, .ref m_aside, .ref m_origin, .ref m_retreats, .ref m_contested, .ref m_moved, .int msh, .ref m_past]))] sz) := by
  refine Met.ofW (cc := b_Mo_told) (maxL := 3) (ret := (some .int)) (by decide) rfl ?_
  intro p e s m args below meth c s₁ B hml hv
  obtain ⟨rfl, hsz, hP, hK, hD0, hX⟩ := hv
  have hx := B.exec
  have hb := B.bytes
  have hr := B.returns
  have hts0 := atoms_spec (ws := w_Mo_told) B.pre
  have hts : ∀ w ∈ TB, w.before _ s = true := fun w h => hts0 w (List.mem_cons_of_mem _ h)
  have hown : s.vm.findClass R_Mo = some m.cls := findClass_of_methodNamed B.named
  have hlocks := B.notSynchronized
  subst hsz
  have hXl := tx_lt hX
  have hXn := tx_far hP hX
  have hD := hD0.self (sz := s.heap.size)
  generalize hAe : va_A [(g0, .inr (6, [.int co, .int 0, .ref m_sea, .ref m_center, .ref m_home, .ref m_borders, .int mp, .int mt, .ref m_owner, .ref m_units, .ref m_kind, .ref m_toX, .ref m_toY, .ref m_results, .ref m_known, .ref m_reached, .ref m_way, .ref m_aside, .ref m_origin, .ref m_retreats, .ref m_contested, .ref m_moved, .int msh, .ref m_past]))] s.heap.size = A at hD hXn ⊢
  have hA : ∀ q : Nat, s.heap.size ≤ q → A q := fun q h => by rw [← hAe]; exact Or.inr h
  have hS : va_S A s.heap s.heap [] := va_S.rf
  have hXH : s.heap[aT]? = s.heap[aT]? := rfl
  have hl := lv_entry ([.ref g0, .int a, .int b]) (n := 3) (Nat.le_of_ble_eq_true rfl)
  rw [lg_entry_eq]
  generalize (lg_sl ([.ref g0, .int a, .int b]) ++ List.replicate (3 - (lg_sl ([.ref g0, .int a, .int b])).length) Slot.unset).toArray = ls at hl ⊢
  have hl : lv_has ls 3 [(0, .ref g0), (1, .int a), (2, .int b)] := hl
  refine lv_aload_n hx hb d_Mo_told_0 rfl (lv_at hl 0 rfl) ?_
  refine lv_iconst (v := 0) hx hb d_Mo_told_1 (by decide) ?_
  refine va_put (D := D) (ci := 6) (v := .int 0) (ty := .int) (C := R_Mo) (T := T_Mo) (N := 24) hx hb hts hin_Mo ty_Mo tyok_Mo nm_Mo hown hK hP hD hS 0 rfl rfl 0 (by decide) (hts _ wd_704) (fun _ h9 => h9) rfl (by decide +kernel) rfl rfl (Nat.le_of_ble_eq_true rfl) d_Mo_told_2 (fun H locs hP hD hS => ?_)
  have hP : va_P D vwCl [(g0, .inr (6, [.int 0, .int 0, .ref m_sea, .ref m_center, .ref m_home, .ref m_borders, .int mp, .int mt, .ref m_owner, .ref m_units, .ref m_kind, .ref m_toX, .ref m_toY, .ref m_results, .ref m_known, .ref m_reached, .ref m_way, .ref m_aside, .ref m_origin, .ref m_retreats, .ref m_contested, .ref m_moved, .int msh, .ref m_past]))] H := hP
  have hD : va_D A [(g0, .inr (6, [.int 0, .int 0, .ref m_sea, .ref m_center, .ref m_home, .ref m_borders, .int mp, .int mt, .ref m_owner, .ref m_units, .ref m_kind, .ref m_toX, .ref m_toY, .ref m_results, .ref m_known, .ref m_reached, .ref m_way, .ref m_aside, .ref m_origin, .ref m_retreats, .ref m_contested, .ref m_moved, .int msh, .ref m_past]))] := hD
  refine lv_aload_n hx hb d_Mo_told_5 rfl (lv_at hl 0 rfl) ?_
  refine lv_iload_n hx hb d_Mo_told_6 rfl (lv_at hl 1 rfl) ?_
  have hPc := hP.sub (ws' := [(g0, .inr (6, [.int 0, .int 0, .ref m_sea, .ref m_center, .ref m_home, .ref m_borders, .int mp, .int mt, .ref m_owner, .ref m_units, .ref m_kind, .ref m_toX, .ref m_toY, .ref m_results, .ref m_known, .ref m_reached, .ref m_way, .ref m_aside, .ref m_origin, .ref m_retreats, .ref m_contested, .ref m_moved, .int msh, .ref m_past]))]) [0] rfl
  refine vp_callSi (va_Run.run (va_runV (As := [.int a]) (rest := []) ⟨hx, hb, hml, hown, hts⟩ (c_Mo_isArea l D cI cZ cJ cS aT ceT  g0 m_sea m_center m_home m_borders m_owner m_units m_kind m_toX m_toY m_results m_known m_reached m_way m_aside m_origin m_retreats m_contested m_moved m_past 0 0 mp mt msh a ) (cwV 1 hts (tb_4 wd_790 wd_792 wp_36 wd_8 (tb_c wd_793)) rfl rfl rfl ⟨rfl, by decide, by decide, by decide +kernel⟩ ⟨Nat.le_of_ble_eq_true rfl, Nat.le_of_ble_eq_true rfl⟩) (tP_V hK hX (hS.2.1 aT hXl hXn) hPc (q := 0) rfl rfl) rfl rfl hl.1 rfl (lv_room (Nat.le_of_ble_eq_true rfl)) d_Mo_told_7 ⟨Nat.le_of_ble_eq_true rfl, Nat.le_of_ble_eq_true rfl⟩)) (fun r1 hr9 => ?_)
  rcases hr9 with ⟨rfl, hq2⟩ | ⟨rfl, hq2⟩
  · exact absurd hq2 tn_no
  · -- 7: false
    refine lv_if_eq (tgt := 30) hx hb d_Mo_told_10 (by decide) (fun _ => ?_) (fun h0 => absurd (by decide) h0)
    refine lv_iconst (v := (-1)) hx hb d_Mo_told_30 (by decide) ?_
    have hP9 := hP.sub (ws' := [(g0, .inr (6, [.int 0, .int 0, .ref m_sea, .ref m_center, .ref m_home, .ref m_borders, .int mp, .int mt, .ref m_owner, .ref m_units, .ref m_kind, .ref m_toX, .ref m_toY, .ref m_results, .ref m_known, .ref m_reached, .ref m_way, .ref m_aside, .ref m_origin, .ref m_retreats, .ref m_contested, .ref m_moved, .int msh, .ref m_past]))]) [0] rfl
    have hD9 := hD.sub (ws' := [(g0, .inr (6, [.int 0, .int 0, .ref m_sea, .ref m_center, .ref m_home, .ref m_borders, .int mp, .int mt, .ref m_owner, .ref m_units, .ref m_kind, .ref m_toX, .ref m_toY, .ref m_results, .ref m_known, .ref m_reached, .ref m_way, .ref m_aside, .ref m_origin, .ref m_retreats, .ref m_contested, .ref m_moved, .int msh, .ref m_past]))]) [0] (by decide) rfl
    exact W.iret (v := (-1)) hx hb hr (fun t ht hW => ⟨⟨(-1), (), rfl, rfl, by rw [ht]; exact hP9, hD9⟩, hS.F ht⟩) hS.2.2 d_Mo_told_31

theorem d_Mo_result_0 : decode b_Mo_result 0 = .ok (.aload_n 0, 1) := by decide +kernel
theorem d_Mo_result_1 : decode b_Mo_result 1 = .ok (.iconst 0, 1) := by decide +kernel
theorem d_Mo_result_2 : decode b_Mo_result 2 = .ok (.putfield 68, 3) := by decide +kernel
theorem d_Mo_result_5 : decode b_Mo_result 5 = .ok (.aload_n 0, 1) := by decide +kernel
theorem d_Mo_result_6 : decode b_Mo_result 6 = .ok (.iload_n 1, 1) := by decide +kernel
theorem d_Mo_result_7 : decode b_Mo_result 7 = .ok (.invokevirtual 78, 3) := by decide +kernel
theorem d_Mo_result_10 : decode b_Mo_result 10 = .ok (.ifCond .eq 12, 3) := by decide +kernel
theorem d_Mo_result_13 : decode b_Mo_result 13 = .ok (.aload_n 0, 1) := by decide +kernel
theorem d_Mo_result_14 : decode b_Mo_result 14 = .ok (.getfield 38, 3) := by decide +kernel
theorem d_Mo_result_17 : decode b_Mo_result 17 = .ok (.iload_n 1, 1) := by decide +kernel
theorem d_Mo_result_18 : decode b_Mo_result 18 = .ok (.iaload, 1) := by decide +kernel
theorem d_Mo_result_19 : decode b_Mo_result 19 = .ok (.goto 4, 3) := by decide +kernel
theorem d_Mo_result_22 : decode b_Mo_result 22 = .ok (.iconst 0, 1) := by decide +kernel
theorem d_Mo_result_23 : decode b_Mo_result 23 = .ok (.ireturn, 1) := by decide +kernel

set_option maxHeartbeats 4000000 in
set_option maxRecDepth 100000 in
theorem c_Mo_result (l : Launch) (D : va_G) (cI cZ cJ cS : ClassId) (aT : Nat) (ceT : Cell) (sz : Nat) (g0 m_sea m_center m_home m_borders m_owner m_units m_kind m_toX m_toY m_results m_known m_reached m_way m_aside m_origin m_retreats m_contested m_moved m_past : Nat) (co ar mp mt msh : Int32) (fu : Nat → Int32) (a : Int32) (hn : ar.toInt ≤ 12) : Met l y_Mo_result w_Mo_result ({ frames := 1, cells := 0, slots := 0, locals := 21 }) (tH D cI cZ cJ cS aT ceT [.ref g0, .int a] sz [(g0, .inr (6, [.int co, .int ar, .ref m_sea, .ref m_center, .ref m_home, .ref m_borders, .int mp, .int mt, .ref m_owner, .ref m_units, .ref m_kind, .ref m_toX, .ref m_toY, .ref m_results, .ref m_known, .ref m_reached, .ref m_way, .ref m_aside, .ref m_origin, .ref m_retreats, .ref m_contested, .ref m_moved, .int msh, .ref m_past])), (m_results, .inl (cI, 12, .inl fu))]) (va_Qi (fun (r : Int32) (_ : Unit) => r = if 0 ≤ a ∧ a < ar then fu a.toNatClampNeg else 0) (fun _ t => tB D (va_A [(g0, .inr (6, [.int co, .int ar, .ref m_sea, .ref m_center, .ref m_home, .ref m_borders, .int mp, .int mt, .ref m_owner, .ref m_units, .ref m_kind, .ref m_toX, .ref m_toY, .ref m_results, .ref m_known, .ref m_reached, .ref m_way, .ref m_aside, .ref m_origin, .ref m_retreats, .ref m_contested, .ref m_moved, .int msh, .ref m_past])), (m_results, .inl (cI, 12, .inl fu))] sz) [(g0, .inr (6, [.int 0, .int ar, .ref m_sea, .ref m_center, .ref m_home, .ref m_borders, .int mp, .int mt, .ref m_owner, .ref m_units, .ref m_kind, .ref m_toX, .ref m_toY, .ref m_results, .ref m_known, .ref m_reached, .ref m_way, .ref m_aside, .ref m_origin, .ref m_retreats, .ref m_contested, .ref m_moved, .int msh, .ref m_past])), (m_results, .inl (cI, 12, .inl fu))] t) (va_A [(g0, .inr (6, [.int co, .int ar, .ref m_sea, .ref m_center, .ref m_home, .ref m_borders, .int mp, .int mt, .ref m_owner, .ref m_units, .ref m_kind, .ref m_toX, .ref m_toY, .ref m_results, .ref m_known, .ref m_reached, .ref m_way, .ref m_aside, .ref m_origin, .ref m_retreats, .ref m_contested, .ref m_moved, .int msh, .ref m_past])), (m_results, .inl (cI, 12, .inl fu))] sz)) 0 0 (va_A [(g0, .inr (6, [.int co, .int ar, .ref m_sea, .ref m_center, .ref m_home, .ref m_borders, .int mp, .int mt, .ref m_owner, .ref m_units, .ref m_kind, .ref m_toX, .ref m_toY, .ref m_results, .ref m_known, .ref m_reached, .ref m_way, .ref m_aside, .ref m_origin, .ref m_retreats, .ref m_contested, .ref m_moved, .int msh, .ref m_past])), (m_results, .inl (cI, 12, .inl fu))] sz) := by
  refine Met.ofW (cc := b_Mo_result) (maxL := 2) (ret := (some .int)) (by decide) rfl ?_
  intro p e s m args below meth c s₁ B hml hv
  obtain ⟨rfl, hsz, hP, hK, hD0, hX⟩ := hv
  have hx := B.exec
  have hb := B.bytes
  have hr := B.returns
  have hts0 := atoms_spec (ws := w_Mo_result) B.pre
  have hts : ∀ w ∈ TB, w.before _ s = true := fun w h => hts0 w (List.mem_cons_of_mem _ h)
  have hown : s.vm.findClass R_Mo = some m.cls := findClass_of_methodNamed B.named
  have hlocks := B.notSynchronized
  subst hsz
  have hXl := tx_lt hX
  have hXn := tx_far hP hX
  have hD := hD0.self (sz := s.heap.size)
  generalize hAe : va_A [(g0, .inr (6, [.int co, .int ar, .ref m_sea, .ref m_center, .ref m_home, .ref m_borders, .int mp, .int mt, .ref m_owner, .ref m_units, .ref m_kind, .ref m_toX, .ref m_toY, .ref m_results, .ref m_known, .ref m_reached, .ref m_way, .ref m_aside, .ref m_origin, .ref m_retreats, .ref m_contested, .ref m_moved, .int msh, .ref m_past])), (m_results, .inl (cI, 12, .inl fu))] s.heap.size = A at hD hXn ⊢
  have hA : ∀ q : Nat, s.heap.size ≤ q → A q := fun q h => by rw [← hAe]; exact Or.inr h
  have hS : va_S A s.heap s.heap [] := va_S.rf
  have hXH : s.heap[aT]? = s.heap[aT]? := rfl
  have hl := lv_entry ([.ref g0, .int a]) (n := 2) (Nat.le_of_ble_eq_true rfl)
  rw [lg_entry_eq]
  generalize (lg_sl ([.ref g0, .int a]) ++ List.replicate (2 - (lg_sl ([.ref g0, .int a])).length) Slot.unset).toArray = ls at hl ⊢
  have hl : lv_has ls 2 [(0, .ref g0), (1, .int a)] := hl
  refine lv_aload_n hx hb d_Mo_result_0 rfl (lv_at hl 0 rfl) ?_
  refine lv_iconst (v := 0) hx hb d_Mo_result_1 (by decide) ?_
  refine va_put (D := D) (ci := 6) (v := .int 0) (ty := .int) (C := R_Mo) (T := T_Mo) (N := 24) hx hb hts hin_Mo ty_Mo tyok_Mo nm_Mo hown hK hP hD hS 0 rfl rfl 0 (by decide) (hts _ wd_704) (fun _ h9 => h9) rfl (by decide +kernel) rfl rfl (Nat.le_of_ble_eq_true rfl) d_Mo_result_2 (fun H locs hP hD hS => ?_)
  have hP : va_P D vwCl [(g0, .inr (6, [.int 0, .int ar, .ref m_sea, .ref m_center, .ref m_home, .ref m_borders, .int mp, .int mt, .ref m_owner, .ref m_units, .ref m_kind, .ref m_toX, .ref m_toY, .ref m_results, .ref m_known, .ref m_reached, .ref m_way, .ref m_aside, .ref m_origin, .ref m_retreats, .ref m_contested, .ref m_moved, .int msh, .ref m_past])), (m_results, .inl (cI, 12, .inl fu))] H := hP
  have hD : va_D A [(g0, .inr (6, [.int 0, .int ar, .ref m_sea, .ref m_center, .ref m_home, .ref m_borders, .int mp, .int mt, .ref m_owner, .ref m_units, .ref m_kind, .ref m_toX, .ref m_toY, .ref m_results, .ref m_known, .ref m_reached, .ref m_way, .ref m_aside, .ref m_origin, .ref m_retreats, .ref m_contested, .ref m_moved, .int msh, .ref m_past])), (m_results, .inl (cI, 12, .inl fu))] := hD
  refine lv_aload_n hx hb d_Mo_result_5 rfl (lv_at hl 0 rfl) ?_
  refine lv_iload_n hx hb d_Mo_result_6 rfl (lv_at hl 1 rfl) ?_
  have hPc := hP.sub (ws' := [(g0, .inr (6, [.int 0, .int ar, .ref m_sea, .ref m_center, .ref m_home, .ref m_borders, .int mp, .int mt, .ref m_owner, .ref m_units, .ref m_kind, .ref m_toX, .ref m_toY, .ref m_results, .ref m_known, .ref m_reached, .ref m_way, .ref m_aside, .ref m_origin, .ref m_retreats, .ref m_contested, .ref m_moved, .int msh, .ref m_past]))]) [0] rfl
  refine vp_callSi (va_Run.run (va_runV (As := [.int a]) (rest := []) ⟨hx, hb, hml, hown, hts⟩ (c_Mo_isArea l D cI cZ cJ cS aT ceT  g0 m_sea m_center m_home m_borders m_owner m_units m_kind m_toX m_toY m_results m_known m_reached m_way m_aside m_origin m_retreats m_contested m_moved m_past 0 ar mp mt msh a ) (cwV 1 hts (tb_4 wd_790 wd_792 wp_36 wd_8 (tb_c wd_793)) rfl rfl rfl ⟨rfl, by decide, by decide, by decide +kernel⟩ ⟨Nat.le_of_ble_eq_true rfl, Nat.le_of_ble_eq_true rfl⟩) (tP_V hK hX (hS.2.1 aT hXl hXn) hPc (q := 0) rfl rfl) rfl rfl hl.1 rfl (lv_room (Nat.le_of_ble_eq_true rfl)) d_Mo_result_7 ⟨Nat.le_of_ble_eq_true rfl, Nat.le_of_ble_eq_true rfl⟩)) (fun r1 hr9 => ?_)
  rcases hr9 with ⟨rfl, hq2⟩ | ⟨rfl, hq2⟩
  · -- 7: true
    refine lv_if_eq (tgt := 22) hx hb d_Mo_result_10 (by decide) (fun h0 => absurd h0 (by decide)) (fun _ => ?_)
    refine lv_aload_n hx hb d_Mo_result_13 rfl (lv_at hl 0 rfl) ?_
    refine va_get (D := D) (ci := 6) (v := .ref m_results) (C := R_Mo) (T := T_Mo) (N := 24) hx hb hts hin_Mo hown hK hP 0 rfl rfl 13 (by decide) (hts _ wd_717) (fun _ h9 => h9) rfl d_Mo_result_14 ?_
    refine lv_iload_n hx hb d_Mo_result_17 rfl (lv_at hl 1 rfl) ?_
    refine va_iald hx hb hK hP 1 0 rfl rfl (tn_in hn hq2) d_Mo_result_18 ?_
    refine lv_goto (tgt := 23) hx hb d_Mo_result_19 (by decide) ?_
    have hP9 := hP.sub (ws' := [(g0, .inr (6, [.int 0, .int ar, .ref m_sea, .ref m_center, .ref m_home, .ref m_borders, .int mp, .int mt, .ref m_owner, .ref m_units, .ref m_kind, .ref m_toX, .ref m_toY, .ref m_results, .ref m_known, .ref m_reached, .ref m_way, .ref m_aside, .ref m_origin, .ref m_retreats, .ref m_contested, .ref m_moved, .int msh, .ref m_past])), (m_results, .inl (cI, 12, .inl fu))]) [0, 1] rfl
    have hD9 := hD.sub (ws' := [(g0, .inr (6, [.int 0, .int ar, .ref m_sea, .ref m_center, .ref m_home, .ref m_borders, .int mp, .int mt, .ref m_owner, .ref m_units, .ref m_kind, .ref m_toX, .ref m_toY, .ref m_results, .ref m_known, .ref m_reached, .ref m_way, .ref m_aside, .ref m_origin, .ref m_retreats, .ref m_contested, .ref m_moved, .int msh, .ref m_past])), (m_results, .inl (cI, 12, .inl fu))]) [0, 1] (by decide) rfl
    exact W.iret (v := fu a.toNatClampNeg) hx hb hr (fun t ht hW => ⟨⟨fu a.toNatClampNeg, (), rfl, by rw [if_pos hq2], by rw [ht]; exact hP9, hD9⟩, hS.F ht⟩) hS.2.2 d_Mo_result_23
  · -- 7: false
    refine lv_if_eq (tgt := 22) hx hb d_Mo_result_10 (by decide) (fun _ => ?_) (fun h0 => absurd (by decide) h0)
    refine lv_iconst (v := 0) hx hb d_Mo_result_22 (by decide) ?_
    have hP9 := hP.sub (ws' := [(g0, .inr (6, [.int 0, .int ar, .ref m_sea, .ref m_center, .ref m_home, .ref m_borders, .int mp, .int mt, .ref m_owner, .ref m_units, .ref m_kind, .ref m_toX, .ref m_toY, .ref m_results, .ref m_known, .ref m_reached, .ref m_way, .ref m_aside, .ref m_origin, .ref m_retreats, .ref m_contested, .ref m_moved, .int msh, .ref m_past])), (m_results, .inl (cI, 12, .inl fu))]) [0, 1] rfl
    have hD9 := hD.sub (ws' := [(g0, .inr (6, [.int 0, .int ar, .ref m_sea, .ref m_center, .ref m_home, .ref m_borders, .int mp, .int mt, .ref m_owner, .ref m_units, .ref m_kind, .ref m_toX, .ref m_toY, .ref m_results, .ref m_known, .ref m_reached, .ref m_way, .ref m_aside, .ref m_origin, .ref m_retreats, .ref m_contested, .ref m_moved, .int msh, .ref m_past])), (m_results, .inl (cI, 12, .inl fu))]) [0, 1] (by decide) rfl
    exact W.iret (v := 0) hx hb hr (fun t ht hW => ⟨⟨0, (), rfl, by rw [if_neg hq2], by rw [ht]; exact hP9, hD9⟩, hS.F ht⟩) hS.2.2 d_Mo_result_23

theorem d_Mo_at_0 : decode b_Mo_at 0 = .ok (.aload_n 0, 1) := by decide +kernel
theorem d_Mo_at_1 : decode b_Mo_at 1 = .ok (.iconst 0, 1) := by decide +kernel
theorem d_Mo_at_2 : decode b_Mo_at 2 = .ok (.putfield 68, 3) := by decide +kernel
theorem d_Mo_at_5 : decode b_Mo_at 5 = .ok (.aload_n 0, 1) := by decide +kernel
theorem d_Mo_at_6 : decode b_Mo_at 6 = .ok (.iload_n 1, 1) := by decide +kernel
theorem d_Mo_at_7 : decode b_Mo_at 7 = .ok (.invokevirtual 78, 3) := by decide +kernel
theorem d_Mo_at_10 : decode b_Mo_at 10 = .ok (.ifCond .eq 12, 3) := by decide +kernel
theorem d_Mo_at_13 : decode b_Mo_at 13 = .ok (.aload_n 0, 1) := by decide +kernel
theorem d_Mo_at_14 : decode b_Mo_at 14 = .ok (.getfield 26, 3) := by decide +kernel
theorem d_Mo_at_17 : decode b_Mo_at 17 = .ok (.iload_n 1, 1) := by decide +kernel
theorem d_Mo_at_18 : decode b_Mo_at 18 = .ok (.iaload, 1) := by decide +kernel
theorem d_Mo_at_19 : decode b_Mo_at 19 = .ok (.goto 4, 3) := by decide +kernel
theorem d_Mo_at_22 : decode b_Mo_at 22 = .ok (.iconst (-1), 1) := by decide +kernel
theorem d_Mo_at_23 : decode b_Mo_at 23 = .ok (.ireturn, 1) := by decide +kernel

set_option maxHeartbeats 4000000 in
set_option maxRecDepth 100000 in
theorem c_Mo_at (l : Launch) (D : va_G) (cI cZ cJ cS : ClassId) (aT : Nat) (ceT : Cell) (sz : Nat) (g0 m_sea m_center m_home m_borders m_owner m_units m_kind m_toX m_toY m_results m_known m_reached m_way m_aside m_origin m_retreats m_contested m_moved m_past : Nat) (co ar mp mt msh : Int32) (fu : Nat → Int32) (a : Int32) (hn : ar.toInt ≤ 12) : Met l y_Mo_at w_Mo_at ({ frames := 1, cells := 0, slots := 0, locals := 21 }) (tH D cI cZ cJ cS aT ceT [.ref g0, .int a] sz [(g0, .inr (6, [.int co, .int ar, .ref m_sea, .ref m_center, .ref m_home, .ref m_borders, .int mp, .int mt, .ref m_owner, .ref m_units, .ref m_kind, .ref m_toX, .ref m_toY, .ref m_results, .ref m_known, .ref m_reached, .ref m_way, .ref m_aside, .ref m_origin, .ref m_retreats, .ref m_contested, .ref m_moved, .int msh, .ref m_past])), (m_units, .inl (cI, 12, .inl fu))]) (va_Qi (fun (r : Int32) (_ : Unit) => r = if 0 ≤ a ∧ a < ar then fu a.toNatClampNeg else -1) (fun _ t => tB D (va_A [(g0, .inr (6, [.int co, .int ar, .ref m_sea, .ref m_center, .ref m_home, .ref m_borders, .int mp, .int mt, .ref m_owner, .ref m_units, .ref m_kind, .ref m_toX, .ref m_toY, .ref m_results, .ref m_known, .ref m_reached, .ref m_way, .ref m_aside, .ref m_origin, .ref m_retreats, .ref m_contested, .ref m_moved, .int msh, .ref m_past])), (m_units, .inl (cI, 12, .inl fu))] sz) [(g0, .inr (6, [.int 0, .int ar, .ref m_sea, .ref m_center, .ref m_home, .ref m_borders, .int mp, .int mt, .ref m_owner, .ref m_units, .ref m_kind, .ref m_toX, .ref m_toY, .ref m_results, .ref m_known, .ref m_reached, .ref m_way, .ref m_aside, .ref m_origin, .ref m_retreats, .ref m_contested, .ref m_moved, .int msh, .ref m_past])), (m_units, .inl (cI, 12, .inl fu))] t) (va_A [(g0, .inr (6, [.int co, .int ar, .ref m_sea, .ref m_center, .ref m_home, .ref m_borders, .int mp, .int mt, .ref m_owner, .ref m_units, .ref m_kind, .ref m_toX, .ref m_toY, .ref m_results, .ref m_known, .ref m_reached, .ref m_way, .ref m_aside, .ref m_origin, .ref m_retreats, .ref m_contested, .ref m_moved, .int msh, .ref m_past])), (m_units, .inl (cI, 12, .inl fu))] sz)) 0 0 (va_A [(g0, .inr (6, [.int co, .int ar, .ref m_sea, .ref m_center, .ref m_home, .ref m_borders, .int mp, .int mt, .ref m_owner, .ref m_units, .ref m_kind, .ref m_toX, .ref m_toY, .ref m_results, .ref m_known, .ref m_reached, .ref m_way, .ref m_aside, .ref m_origin, .ref m_retreats, .ref m_contested, .ref m_moved, .int msh, .ref m_past])), (m_units, .inl (cI, 12, .inl fu))] sz) := by
  refine Met.ofW (cc := b_Mo_at) (maxL := 2) (ret := (some .int)) (by decide) rfl ?_
  intro p e s m args below meth c s₁ B hml hv
  obtain ⟨rfl, hsz, hP, hK, hD0, hX⟩ := hv
  have hx := B.exec
  have hb := B.bytes
  have hr := B.returns
  have hts0 := atoms_spec (ws := w_Mo_at) B.pre
  have hts : ∀ w ∈ TB, w.before _ s = true := fun w h => hts0 w (List.mem_cons_of_mem _ h)
  have hown : s.vm.findClass R_Mo = some m.cls := findClass_of_methodNamed B.named
  have hlocks := B.notSynchronized
  subst hsz
  have hXl := tx_lt hX
  have hXn := tx_far hP hX
  have hD := hD0.self (sz := s.heap.size)
  generalize hAe : va_A [(g0, .inr (6, [.int co, .int ar, .ref m_sea, .ref m_center, .ref m_home, .ref m_borders, .int mp, .int mt, .ref m_owner, .ref m_units, .ref m_kind, .ref m_toX, .ref m_toY, .ref m_results, .ref m_known, .ref m_reached, .ref m_way, .ref m_aside, .ref m_origin, .ref m_retreats, .ref m_contested, .ref m_moved, .int msh, .ref m_past])), (m_units, .inl (cI, 12, .inl fu))] s.heap.size = A at hD hXn ⊢
  have hA : ∀ q : Nat, s.heap.size ≤ q → A q := fun q h => by rw [← hAe]; exact Or.inr h
  have hS : va_S A s.heap s.heap [] := va_S.rf
  have hXH : s.heap[aT]? = s.heap[aT]? := rfl
  have hl := lv_entry ([.ref g0, .int a]) (n := 2) (Nat.le_of_ble_eq_true rfl)
  rw [lg_entry_eq]
  generalize (lg_sl ([.ref g0, .int a]) ++ List.replicate (2 - (lg_sl ([.ref g0, .int a])).length) Slot.unset).toArray = ls at hl ⊢
  have hl : lv_has ls 2 [(0, .ref g0), (1, .int a)] := hl
  refine lv_aload_n hx hb d_Mo_at_0 rfl (lv_at hl 0 rfl) ?_
  refine lv_iconst (v := 0) hx hb d_Mo_at_1 (by decide) ?_
  refine va_put (D := D) (ci := 6) (v := .int 0) (ty := .int) (C := R_Mo) (T := T_Mo) (N := 24) hx hb hts hin_Mo ty_Mo tyok_Mo nm_Mo hown hK hP hD hS 0 rfl rfl 0 (by decide) (hts _ wd_704) (fun _ h9 => h9) rfl (by decide +kernel) rfl rfl (Nat.le_of_ble_eq_true rfl) d_Mo_at_2 (fun H locs hP hD hS => ?_)
  have hP : va_P D vwCl [(g0, .inr (6, [.int 0, .int ar, .ref m_sea, .ref m_center, .ref m_home, .ref m_borders, .int mp, .int mt, .ref m_owner, .ref m_units, .ref m_kind, .ref m_toX, .ref m_toY, .ref m_results, .ref m_known, .ref m_reached, .ref m_way, .ref m_aside, .ref m_origin, .ref m_retreats, .ref m_contested, .ref m_moved, .int msh, .ref m_past])), (m_units, .inl (cI, 12, .inl fu))] H := hP
  have hD : va_D A [(g0, .inr (6, [.int 0, .int ar, .ref m_sea, .ref m_center, .ref m_home, .ref m_borders, .int mp, .int mt, .ref m_owner, .ref m_units, .ref m_kind, .ref m_toX, .ref m_toY, .ref m_results, .ref m_known, .ref m_reached, .ref m_way, .ref m_aside, .ref m_origin, .ref m_retreats, .ref m_contested, .ref m_moved, .int msh, .ref m_past])), (m_units, .inl (cI, 12, .inl fu))] := hD
  refine lv_aload_n hx hb d_Mo_at_5 rfl (lv_at hl 0 rfl) ?_
  refine lv_iload_n hx hb d_Mo_at_6 rfl (lv_at hl 1 rfl) ?_
  have hPc := hP.sub (ws' := [(g0, .inr (6, [.int 0, .int ar, .ref m_sea, .ref m_center, .ref m_home, .ref m_borders, .int mp, .int mt, .ref m_owner, .ref m_units, .ref m_kind, .ref m_toX, .ref m_toY, .ref m_results, .ref m_known, .ref m_reached, .ref m_way, .ref m_aside, .ref m_origin, .ref m_retreats, .ref m_contested, .ref m_moved, .int msh, .ref m_past]))]) [0] rfl
  refine vp_callSi (va_Run.run (va_runV (As := [.int a]) (rest := []) ⟨hx, hb, hml, hown, hts⟩ (c_Mo_isArea l D cI cZ cJ cS aT ceT  g0 m_sea m_center m_home m_borders m_owner m_units m_kind m_toX m_toY m_results m_known m_reached m_way m_aside m_origin m_retreats m_contested m_moved m_past 0 ar mp mt msh a ) (cwV 1 hts (tb_4 wd_790 wd_792 wp_36 wd_8 (tb_c wd_793)) rfl rfl rfl ⟨rfl, by decide, by decide, by decide +kernel⟩ ⟨Nat.le_of_ble_eq_true rfl, Nat.le_of_ble_eq_true rfl⟩) (tP_V hK hX (hS.2.1 aT hXl hXn) hPc (q := 0) rfl rfl) rfl rfl hl.1 rfl (lv_room (Nat.le_of_ble_eq_true rfl)) d_Mo_at_7 ⟨Nat.le_of_ble_eq_true rfl, Nat.le_of_ble_eq_true rfl⟩)) (fun r1 hr9 => ?_)
  rcases hr9 with ⟨rfl, hq2⟩ | ⟨rfl, hq2⟩
  · -- 7: true
    refine lv_if_eq (tgt := 22) hx hb d_Mo_at_10 (by decide) (fun h0 => absurd h0 (by decide)) (fun _ => ?_)
    refine lv_aload_n hx hb d_Mo_at_13 rfl (lv_at hl 0 rfl) ?_
    refine va_get (D := D) (ci := 6) (v := .ref m_units) (C := R_Mo) (T := T_Mo) (N := 24) hx hb hts hin_Mo hown hK hP 0 rfl rfl 9 (by decide) (hts _ wd_713) (fun _ h9 => h9) rfl d_Mo_at_14 ?_
    refine lv_iload_n hx hb d_Mo_at_17 rfl (lv_at hl 1 rfl) ?_
    refine va_iald hx hb hK hP 1 0 rfl rfl (tn_in hn hq2) d_Mo_at_18 ?_
    refine lv_goto (tgt := 23) hx hb d_Mo_at_19 (by decide) ?_
    have hP9 := hP.sub (ws' := [(g0, .inr (6, [.int 0, .int ar, .ref m_sea, .ref m_center, .ref m_home, .ref m_borders, .int mp, .int mt, .ref m_owner, .ref m_units, .ref m_kind, .ref m_toX, .ref m_toY, .ref m_results, .ref m_known, .ref m_reached, .ref m_way, .ref m_aside, .ref m_origin, .ref m_retreats, .ref m_contested, .ref m_moved, .int msh, .ref m_past])), (m_units, .inl (cI, 12, .inl fu))]) [0, 1] rfl
    have hD9 := hD.sub (ws' := [(g0, .inr (6, [.int 0, .int ar, .ref m_sea, .ref m_center, .ref m_home, .ref m_borders, .int mp, .int mt, .ref m_owner, .ref m_units, .ref m_kind, .ref m_toX, .ref m_toY, .ref m_results, .ref m_known, .ref m_reached, .ref m_way, .ref m_aside, .ref m_origin, .ref m_retreats, .ref m_contested, .ref m_moved, .int msh, .ref m_past])), (m_units, .inl (cI, 12, .inl fu))]) [0, 1] (by decide) rfl
    exact W.iret (v := fu a.toNatClampNeg) hx hb hr (fun t ht hW => ⟨⟨fu a.toNatClampNeg, (), rfl, by rw [if_pos hq2], by rw [ht]; exact hP9, hD9⟩, hS.F ht⟩) hS.2.2 d_Mo_at_23
  · -- 7: false
    refine lv_if_eq (tgt := 22) hx hb d_Mo_at_10 (by decide) (fun _ => ?_) (fun h0 => absurd (by decide) h0)
    refine lv_iconst (v := (-1)) hx hb d_Mo_at_22 (by decide) ?_
    have hP9 := hP.sub (ws' := [(g0, .inr (6, [.int 0, .int ar, .ref m_sea, .ref m_center, .ref m_home, .ref m_borders, .int mp, .int mt, .ref m_owner, .ref m_units, .ref m_kind, .ref m_toX, .ref m_toY, .ref m_results, .ref m_known, .ref m_reached, .ref m_way, .ref m_aside, .ref m_origin, .ref m_retreats, .ref m_contested, .ref m_moved, .int msh, .ref m_past])), (m_units, .inl (cI, 12, .inl fu))]) [0, 1] rfl
    have hD9 := hD.sub (ws' := [(g0, .inr (6, [.int 0, .int ar, .ref m_sea, .ref m_center, .ref m_home, .ref m_borders, .int mp, .int mt, .ref m_owner, .ref m_units, .ref m_kind, .ref m_toX, .ref m_toY, .ref m_results, .ref m_known, .ref m_reached, .ref m_way, .ref m_aside, .ref m_origin, .ref m_retreats, .ref m_contested, .ref m_moved, .int msh, .ref m_past])), (m_units, .inl (cI, 12, .inl fu))]) [0, 1] (by decide) rfl
    exact W.iret (v := (-1)) hx hb hr (fun t ht hW => ⟨⟨(-1), (), rfl, by rw [if_neg hq2], by rw [ht]; exact hP9, hD9⟩, hS.F ht⟩) hS.2.2 d_Mo_at_23

theorem d_Mo_displaced_0 : decode b_Mo_displaced 0 = .ok (.aload_n 0, 1) := by decide +kernel
theorem d_Mo_displaced_1 : decode b_Mo_displaced 1 = .ok (.iconst 0, 1) := by decide +kernel
theorem d_Mo_displaced_2 : decode b_Mo_displaced 2 = .ok (.putfield 68, 3) := by decide +kernel
theorem d_Mo_displaced_5 : decode b_Mo_displaced 5 = .ok (.aload_n 0, 1) := by decide +kernel
theorem d_Mo_displaced_6 : decode b_Mo_displaced 6 = .ok (.iload_n 1, 1) := by decide +kernel
theorem d_Mo_displaced_7 : decode b_Mo_displaced 7 = .ok (.invokevirtual 78, 3) := by decide +kernel
theorem d_Mo_displaced_10 : decode b_Mo_displaced 10 = .ok (.ifCond .eq 12, 3) := by decide +kernel
theorem d_Mo_displaced_13 : decode b_Mo_displaced 13 = .ok (.aload_n 0, 1) := by decide +kernel
theorem d_Mo_displaced_14 : decode b_Mo_displaced 14 = .ok (.getfield 50, 3) := by decide +kernel
theorem d_Mo_displaced_17 : decode b_Mo_displaced 17 = .ok (.iload_n 1, 1) := by decide +kernel
theorem d_Mo_displaced_18 : decode b_Mo_displaced 18 = .ok (.iaload, 1) := by decide +kernel
theorem d_Mo_displaced_19 : decode b_Mo_displaced 19 = .ok (.goto 4, 3) := by decide +kernel
theorem d_Mo_displaced_22 : decode b_Mo_displaced 22 = .ok (.iconst (-1), 1) := by decide +kernel
theorem d_Mo_displaced_23 : decode b_Mo_displaced 23 = .ok (.ireturn, 1) := by decide +kernel

set_option maxHeartbeats 4000000 in
set_option maxRecDepth 100000 in
theorem c_Mo_displaced (l : Launch) (D : va_G) (cI cZ cJ cS : ClassId) (aT : Nat) (ceT : Cell) (sz : Nat) (g0 m_sea m_center m_home m_borders m_owner m_units m_kind m_toX m_toY m_results m_known m_reached m_way m_aside m_origin m_retreats m_contested m_moved m_past : Nat) (co ar mp mt msh : Int32) (fu : Nat → Int32) (a : Int32) (hn : ar.toInt ≤ 12) : Met l y_Mo_displaced w_Mo_displaced ({ frames := 1, cells := 0, slots := 0, locals := 21 }) (tH D cI cZ cJ cS aT ceT [.ref g0, .int a] sz [(g0, .inr (6, [.int co, .int ar, .ref m_sea, .ref m_center, .ref m_home, .ref m_borders, .int mp, .int mt, .ref m_owner, .ref m_units, .ref m_kind, .ref m_toX, .ref m_toY, .ref m_results, .ref m_known, .ref m_reached, .ref m_way, .ref m_aside, .ref m_origin, .ref m_retreats, .ref m_contested, .ref m_moved, .int msh, .ref m_past])), (m_aside, .inl (cI, 12, .inl fu))]) (va_Qi (fun (r : Int32) (_ : Unit) => r = if 0 ≤ a ∧ a < ar then fu a.toNatClampNeg else -1) (fun _ t => tB D (va_A [(g0, .inr (6, [.int co, .int ar, .ref m_sea, .ref m_center, .ref m_home, .ref m_borders, .int mp, .int mt, .ref m_owner, .ref m_units, .ref m_kind, .ref m_toX, .ref m_toY, .ref m_results, .ref m_known, .ref m_reached, .ref m_way, .ref m_aside, .ref m_origin, .ref m_retreats, .ref m_contested, .ref m_moved, .int msh, .ref m_past])), (m_aside, .inl (cI, 12, .inl fu))] sz) [(g0, .inr (6, [.int 0, .int ar, .ref m_sea, .ref m_center, .ref m_home, .ref m_borders, .int mp, .int mt, .ref m_owner, .ref m_units, .ref m_kind, .ref m_toX, .ref m_toY, .ref m_results, .ref m_known, .ref m_reached, .ref m_way, .ref m_aside, .ref m_origin, .ref m_retreats, .ref m_contested, .ref m_moved, .int msh, .ref m_past])), (m_aside, .inl (cI, 12, .inl fu))] t) (va_A [(g0, .inr (6, [.int co, .int ar, .ref m_sea, .ref m_center, .ref m_home, .ref m_borders, .int mp, .int mt, .ref m_owner, .ref m_units, .ref m_kind, .ref m_toX, .ref m_toY, .ref m_results, .ref m_known, .ref m_reached, .ref m_way, .ref m_aside, .ref m_origin, .ref m_retreats, .ref m_contested, .ref m_moved, .int msh, .ref m_past])), (m_aside, .inl (cI, 12, .inl fu))] sz)) 0 0 (va_A [(g0, .inr (6, [.int co, .int ar, .ref m_sea, .ref m_center, .ref m_home, .ref m_borders, .int mp, .int mt, .ref m_owner, .ref m_units, .ref m_kind, .ref m_toX, .ref m_toY, .ref m_results, .ref m_known, .ref m_reached, .ref m_way, .ref m_aside, .ref m_origin, .ref m_retreats, .ref m_contested, .ref m_moved, .int msh, .ref m_past])), (m_aside, .inl (cI, 12, .inl fu))] sz) := by
  refine Met.ofW (cc := b_Mo_displaced) (maxL := 2) (ret := (some .int)) (by decide) rfl ?_
  intro p e s m args below meth c s₁ B hml hv
  obtain ⟨rfl, hsz, hP, hK, hD0, hX⟩ := hv
  have hx := B.exec
  have hb := B.bytes
  have hr := B.returns
  have hts0 := atoms_spec (ws := w_Mo_displaced) B.pre
  have hts : ∀ w ∈ TB, w.before _ s = true := fun w h => hts0 w (List.mem_cons_of_mem _ h)
  have hown : s.vm.findClass R_Mo = some m.cls := findClass_of_methodNamed B.named
  have hlocks := B.notSynchronized
  subst hsz
  have hXl := tx_lt hX
  have hXn := tx_far hP hX
  have hD := hD0.self (sz := s.heap.size)
  generalize hAe : va_A [(g0, .inr (6, [.int co, .int ar, .ref m_sea, .ref m_center, .ref m_home, .ref m_borders, .int mp, .int mt, .ref m_owner, .ref m_units, .ref m_kind, .ref m_toX, .ref m_toY, .ref m_results, .ref m_known, .ref m_reached, .ref m_way, .ref m_aside, .ref m_origin, .ref m_retreats, .ref m_contested, .ref m_moved, .int msh, .ref m_past])), (m_aside, .inl (cI, 12, .inl fu))] s.heap.size = A at hD hXn ⊢
  have hA : ∀ q : Nat, s.heap.size ≤ q → A q := fun q h => by rw [← hAe]; exact Or.inr h
  have hS : va_S A s.heap s.heap [] := va_S.rf
  have hXH : s.heap[aT]? = s.heap[aT]? := rfl
  have hl := lv_entry ([.ref g0, .int a]) (n := 2) (Nat.le_of_ble_eq_true rfl)
  rw [lg_entry_eq]
  generalize (lg_sl ([.ref g0, .int a]) ++ List.replicate (2 - (lg_sl ([.ref g0, .int a])).length) Slot.unset).toArray = ls at hl ⊢
  have hl : lv_has ls 2 [(0, .ref g0), (1, .int a)] := hl
  refine lv_aload_n hx hb d_Mo_displaced_0 rfl (lv_at hl 0 rfl) ?_
  refine lv_iconst (v := 0) hx hb d_Mo_displaced_1 (by decide) ?_
  refine va_put (D := D) (ci := 6) (v := .int 0) (ty := .int) (C := R_Mo) (T := T_Mo) (N := 24) hx hb hts hin_Mo ty_Mo tyok_Mo nm_Mo hown hK hP hD hS 0 rfl rfl 0 (by decide) (hts _ wd_704) (fun _ h9 => h9) rfl (by decide +kernel) rfl rfl (Nat.le_of_ble_eq_true rfl) d_Mo_displaced_2 (fun H locs hP hD hS => ?_)
  have hP : va_P D vwCl [(g0, .inr (6, [.int 0, .int ar, .ref m_sea, .ref m_center, .ref m_home, .ref m_borders, .int mp, .int mt, .ref m_owner, .ref m_units, .ref m_kind, .ref m_toX, .ref m_toY, .ref m_results, .ref m_known, .ref m_reached, .ref m_way, .ref m_aside, .ref m_origin, .ref m_retreats, .ref m_contested, .ref m_moved, .int msh, .ref m_past])), (m_aside, .inl (cI, 12, .inl fu))] H := hP
  have hD : va_D A [(g0, .inr (6, [.int 0, .int ar, .ref m_sea, .ref m_center, .ref m_home, .ref m_borders, .int mp, .int mt, .ref m_owner, .ref m_units, .ref m_kind, .ref m_toX, .ref m_toY, .ref m_results, .ref m_known, .ref m_reached, .ref m_way, .ref m_aside, .ref m_origin, .ref m_retreats, .ref m_contested, .ref m_moved, .int msh, .ref m_past])), (m_aside, .inl (cI, 12, .inl fu))] := hD
  refine lv_aload_n hx hb d_Mo_displaced_5 rfl (lv_at hl 0 rfl) ?_
  refine lv_iload_n hx hb d_Mo_displaced_6 rfl (lv_at hl 1 rfl) ?_
  have hPc := hP.sub (ws' := [(g0, .inr (6, [.int 0, .int ar, .ref m_sea, .ref m_center, .ref m_home, .ref m_borders, .int mp, .int mt, .ref m_owner, .ref m_units, .ref m_kind, .ref m_toX, .ref m_toY, .ref m_results, .ref m_known, .ref m_reached, .ref m_way, .ref m_aside, .ref m_origin, .ref m_retreats, .ref m_contested, .ref m_moved, .int msh, .ref m_past]))]) [0] rfl
  refine vp_callSi (va_Run.run (va_runV (As := [.int a]) (rest := []) ⟨hx, hb, hml, hown, hts⟩ (c_Mo_isArea l D cI cZ cJ cS aT ceT  g0 m_sea m_center m_home m_borders m_owner m_units m_kind m_toX m_toY m_results m_known m_reached m_way m_aside m_origin m_retreats m_contested m_moved m_past 0 ar mp mt msh a ) (cwV 1 hts (tb_4 wd_790 wd_792 wp_36 wd_8 (tb_c wd_793)) rfl rfl rfl ⟨rfl, by decide, by decide, by decide +kernel⟩ ⟨Nat.le_of_ble_eq_true rfl, Nat.le_of_ble_eq_true rfl⟩) (tP_V hK hX (hS.2.1 aT hXl hXn) hPc (q := 0) rfl rfl) rfl rfl hl.1 rfl (lv_room (Nat.le_of_ble_eq_true rfl)) d_Mo_displaced_7 ⟨Nat.le_of_ble_eq_true rfl, Nat.le_of_ble_eq_true rfl⟩)) (fun r1 hr9 => ?_)
  rcases hr9 with ⟨rfl, hq2⟩ | ⟨rfl, hq2⟩
  · -- 7: true
    refine lv_if_eq (tgt := 22) hx hb d_Mo_displaced_10 (by decide) (fun h0 => absurd h0 (by decide)) (fun _ => ?_)
    refine lv_aload_n hx hb d_Mo_displaced_13 rfl (lv_at hl 0 rfl) ?_
    refine va_get (D := D) (ci := 6) (v := .ref m_aside) (C := R_Mo) (T := T_Mo) (N := 24) hx hb hts hin_Mo hown hK hP 0 rfl rfl 17 (by decide) (hts _ wd_721) (fun _ h9 => h9) rfl d_Mo_displaced_14 ?_
    refine lv_iload_n hx hb d_Mo_displaced_17 rfl (lv_at hl 1 rfl) ?_
    refine va_iald hx hb hK hP 1 0 rfl rfl (tn_in hn hq2) d_Mo_displaced_18 ?_
    refine lv_goto (tgt := 23) hx hb d_Mo_displaced_19 (by decide) ?_
    have hP9 := hP.sub (ws' := [(g0, .inr (6, [.int 0, .int ar, .ref m_sea, .ref m_center, .ref m_home, .ref m_borders, .int mp, .int mt, .ref m_owner, .ref m_units, .ref m_kind, .ref m_toX, .ref m_toY, .ref m_results, .ref m_known, .ref m_reached, .ref m_way, .ref m_aside, .ref m_origin, .ref m_retreats, .ref m_contested, .ref m_moved, .int msh, .ref m_past])), (m_aside, .inl (cI, 12, .inl fu))]) [0, 1] rfl
    have hD9 := hD.sub (ws' := [(g0, .inr (6, [.int 0, .int ar, .ref m_sea, .ref m_center, .ref m_home, .ref m_borders, .int mp, .int mt, .ref m_owner, .ref m_units, .ref m_kind, .ref m_toX, .ref m_toY, .ref m_results, .ref m_known, .ref m_reached, .ref m_way, .ref m_aside, .ref m_origin, .ref m_retreats, .ref m_contested, .ref m_moved, .int msh, .ref m_past])), (m_aside, .inl (cI, 12, .inl fu))]) [0, 1] (by decide) rfl
    exact W.iret (v := fu a.toNatClampNeg) hx hb hr (fun t ht hW => ⟨⟨fu a.toNatClampNeg, (), rfl, by rw [if_pos hq2], by rw [ht]; exact hP9, hD9⟩, hS.F ht⟩) hS.2.2 d_Mo_displaced_23
  · -- 7: false
    refine lv_if_eq (tgt := 22) hx hb d_Mo_displaced_10 (by decide) (fun _ => ?_) (fun h0 => absurd (by decide) h0)
    refine lv_iconst (v := (-1)) hx hb d_Mo_displaced_22 (by decide) ?_
    have hP9 := hP.sub (ws' := [(g0, .inr (6, [.int 0, .int ar, .ref m_sea, .ref m_center, .ref m_home, .ref m_borders, .int mp, .int mt, .ref m_owner, .ref m_units, .ref m_kind, .ref m_toX, .ref m_toY, .ref m_results, .ref m_known, .ref m_reached, .ref m_way, .ref m_aside, .ref m_origin, .ref m_retreats, .ref m_contested, .ref m_moved, .int msh, .ref m_past])), (m_aside, .inl (cI, 12, .inl fu))]) [0, 1] rfl
    have hD9 := hD.sub (ws' := [(g0, .inr (6, [.int 0, .int ar, .ref m_sea, .ref m_center, .ref m_home, .ref m_borders, .int mp, .int mt, .ref m_owner, .ref m_units, .ref m_kind, .ref m_toX, .ref m_toY, .ref m_results, .ref m_known, .ref m_reached, .ref m_way, .ref m_aside, .ref m_origin, .ref m_retreats, .ref m_contested, .ref m_moved, .int msh, .ref m_past])), (m_aside, .inl (cI, 12, .inl fu))]) [0, 1] (by decide) rfl
    exact W.iret (v := (-1)) hx hb hr (fun t ht hW => ⟨⟨(-1), (), rfl, by rw [if_neg hq2], by rw [ht]; exact hP9, hD9⟩, hS.F ht⟩) hS.2.2 d_Mo_displaced_23

theorem d_Mo_owner_0 : decode b_Mo_owner 0 = .ok (.aload_n 0, 1) := by decide +kernel
theorem d_Mo_owner_1 : decode b_Mo_owner 1 = .ok (.iconst 0, 1) := by decide +kernel
theorem d_Mo_owner_2 : decode b_Mo_owner 2 = .ok (.putfield 68, 3) := by decide +kernel
theorem d_Mo_owner_5 : decode b_Mo_owner 5 = .ok (.aload_n 0, 1) := by decide +kernel
theorem d_Mo_owner_6 : decode b_Mo_owner 6 = .ok (.iload_n 1, 1) := by decide +kernel
theorem d_Mo_owner_7 : decode b_Mo_owner 7 = .ok (.invokevirtual 78, 3) := by decide +kernel
theorem d_Mo_owner_10 : decode b_Mo_owner 10 = .ok (.ifCond .eq 12, 3) := by decide +kernel
theorem d_Mo_owner_13 : decode b_Mo_owner 13 = .ok (.aload_n 0, 1) := by decide +kernel
theorem d_Mo_owner_14 : decode b_Mo_owner 14 = .ok (.getfield 23, 3) := by decide +kernel
theorem d_Mo_owner_17 : decode b_Mo_owner 17 = .ok (.iload_n 1, 1) := by decide +kernel
theorem d_Mo_owner_18 : decode b_Mo_owner 18 = .ok (.iaload, 1) := by decide +kernel
theorem d_Mo_owner_19 : decode b_Mo_owner 19 = .ok (.goto 4, 3) := by decide +kernel
theorem d_Mo_owner_22 : decode b_Mo_owner 22 = .ok (.iconst (-1), 1) := by decide +kernel
theorem d_Mo_owner_23 : decode b_Mo_owner 23 = .ok (.ireturn, 1) := by decide +kernel

set_option maxHeartbeats 4000000 in
set_option maxRecDepth 100000 in
theorem c_Mo_owner (l : Launch) (D : va_G) (cI cZ cJ cS : ClassId) (aT : Nat) (ceT : Cell) (sz : Nat) (g0 m_sea m_center m_home m_borders m_owner m_units m_kind m_toX m_toY m_results m_known m_reached m_way m_aside m_origin m_retreats m_contested m_moved m_past : Nat) (co ar mp mt msh : Int32) (fu : Nat → Int32) (a : Int32) (hn : ar.toInt ≤ 12) : Met l y_Mo_owner w_Mo_owner ({ frames := 1, cells := 0, slots := 0, locals := 21 }) (tH D cI cZ cJ cS aT ceT [.ref g0, .int a] sz [(g0, .inr (6, [.int co, .int ar, .ref m_sea, .ref m_center, .ref m_home, .ref m_borders, .int mp, .int mt, .ref m_owner, .ref m_units, .ref m_kind, .ref m_toX, .ref m_toY, .ref m_results, .ref m_known, .ref m_reached, .ref m_way, .ref m_aside, .ref m_origin, .ref m_retreats, .ref m_contested, .ref m_moved, .int msh, .ref m_past])), (m_owner, .inl (cI, 12, .inl fu))]) (va_Qi (fun (r : Int32) (_ : Unit) => r = if 0 ≤ a ∧ a < ar then fu a.toNatClampNeg else -1) (fun _ t => tB D (va_A [(g0, .inr (6, [.int co, .int ar, .ref m_sea, .ref m_center, .ref m_home, .ref m_borders, .int mp, .int mt, .ref m_owner, .ref m_units, .ref m_kind, .ref m_toX, .ref m_toY, .ref m_results, .ref m_known, .ref m_reached, .ref m_way, .ref m_aside, .ref m_origin, .ref m_retreats, .ref m_contested, .ref m_moved, .int msh, .ref m_past])), (m_owner, .inl (cI, 12, .inl fu))] sz) [(g0, .inr (6, [.int 0, .int ar, .ref m_sea, .ref m_center, .ref m_home, .ref m_borders, .int mp, .int mt, .ref m_owner, .ref m_units, .ref m_kind, .ref m_toX, .ref m_toY, .ref m_results, .ref m_known, .ref m_reached, .ref m_way, .ref m_aside, .ref m_origin, .ref m_retreats, .ref m_contested, .ref m_moved, .int msh, .ref m_past])), (m_owner, .inl (cI, 12, .inl fu))] t) (va_A [(g0, .inr (6, [.int co, .int ar, .ref m_sea, .ref m_center, .ref m_home, .ref m_borders, .int mp, .int mt, .ref m_owner, .ref m_units, .ref m_kind, .ref m_toX, .ref m_toY, .ref m_results, .ref m_known, .ref m_reached, .ref m_way, .ref m_aside, .ref m_origin, .ref m_retreats, .ref m_contested, .ref m_moved, .int msh, .ref m_past])), (m_owner, .inl (cI, 12, .inl fu))] sz)) 0 0 (va_A [(g0, .inr (6, [.int co, .int ar, .ref m_sea, .ref m_center, .ref m_home, .ref m_borders, .int mp, .int mt, .ref m_owner, .ref m_units, .ref m_kind, .ref m_toX, .ref m_toY, .ref m_results, .ref m_known, .ref m_reached, .ref m_way, .ref m_aside, .ref m_origin, .ref m_retreats, .ref m_contested, .ref m_moved, .int msh, .ref m_past])), (m_owner, .inl (cI, 12, .inl fu))] sz) := by
  refine Met.ofW (cc := b_Mo_owner) (maxL := 2) (ret := (some .int)) (by decide) rfl ?_
  intro p e s m args below meth c s₁ B hml hv
  obtain ⟨rfl, hsz, hP, hK, hD0, hX⟩ := hv
  have hx := B.exec
  have hb := B.bytes
  have hr := B.returns
  have hts0 := atoms_spec (ws := w_Mo_owner) B.pre
  have hts : ∀ w ∈ TB, w.before _ s = true := fun w h => hts0 w (List.mem_cons_of_mem _ h)
  have hown : s.vm.findClass R_Mo = some m.cls := findClass_of_methodNamed B.named
  have hlocks := B.notSynchronized
  subst hsz
  have hXl := tx_lt hX
  have hXn := tx_far hP hX
  have hD := hD0.self (sz := s.heap.size)
  generalize hAe : va_A [(g0, .inr (6, [.int co, .int ar, .ref m_sea, .ref m_center, .ref m_home, .ref m_borders, .int mp, .int mt, .ref m_owner, .ref m_units, .ref m_kind, .ref m_toX, .ref m_toY, .ref m_results, .ref m_known, .ref m_reached, .ref m_way, .ref m_aside, .ref m_origin, .ref m_retreats, .ref m_contested, .ref m_moved, .int msh, .ref m_past])), (m_owner, .inl (cI, 12, .inl fu))] s.heap.size = A at hD hXn ⊢
  have hA : ∀ q : Nat, s.heap.size ≤ q → A q := fun q h => by rw [← hAe]; exact Or.inr h
  have hS : va_S A s.heap s.heap [] := va_S.rf
  have hXH : s.heap[aT]? = s.heap[aT]? := rfl
  have hl := lv_entry ([.ref g0, .int a]) (n := 2) (Nat.le_of_ble_eq_true rfl)
  rw [lg_entry_eq]
  generalize (lg_sl ([.ref g0, .int a]) ++ List.replicate (2 - (lg_sl ([.ref g0, .int a])).length) Slot.unset).toArray = ls at hl ⊢
  have hl : lv_has ls 2 [(0, .ref g0), (1, .int a)] := hl
  refine lv_aload_n hx hb d_Mo_owner_0 rfl (lv_at hl 0 rfl) ?_
  refine lv_iconst (v := 0) hx hb d_Mo_owner_1 (by decide) ?_
  refine va_put (D := D) (ci := 6) (v := .int 0) (ty := .int) (C := R_Mo) (T := T_Mo) (N := 24) hx hb hts hin_Mo ty_Mo tyok_Mo nm_Mo hown hK hP hD hS 0 rfl rfl 0 (by decide) (hts _ wd_704) (fun _ h9 => h9) rfl (by decide +kernel) rfl rfl (Nat.le_of_ble_eq_true rfl) d_Mo_owner_2 (fun H locs hP hD hS => ?_)
  have hP : va_P D vwCl [(g0, .inr (6, [.int 0, .int ar, .ref m_sea, .ref m_center, .ref m_home, .ref m_borders, .int mp, .int mt, .ref m_owner, .ref m_units, .ref m_kind, .ref m_toX, .ref m_toY, .ref m_results, .ref m_known, .ref m_reached, .ref m_way, .ref m_aside, .ref m_origin, .ref m_retreats, .ref m_contested, .ref m_moved, .int msh, .ref m_past])), (m_owner, .inl (cI, 12, .inl fu))] H := hP
  have hD : va_D A [(g0, .inr (6, [.int 0, .int ar, .ref m_sea, .ref m_center, .ref m_home, .ref m_borders, .int mp, .int mt, .ref m_owner, .ref m_units, .ref m_kind, .ref m_toX, .ref m_toY, .ref m_results, .ref m_known, .ref m_reached, .ref m_way, .ref m_aside, .ref m_origin, .ref m_retreats, .ref m_contested, .ref m_moved, .int msh, .ref m_past])), (m_owner, .inl (cI, 12, .inl fu))] := hD
  refine lv_aload_n hx hb d_Mo_owner_5 rfl (lv_at hl 0 rfl) ?_
  refine lv_iload_n hx hb d_Mo_owner_6 rfl (lv_at hl 1 rfl) ?_
  have hPc := hP.sub (ws' := [(g0, .inr (6, [.int 0, .int ar, .ref m_sea, .ref m_center, .ref m_home, .ref m_borders, .int mp, .int mt, .ref m_owner, .ref m_units, .ref m_kind, .ref m_toX, .ref m_toY, .ref m_results, .ref m_known, .ref m_reached, .ref m_way, .ref m_aside, .ref m_origin, .ref m_retreats, .ref m_contested, .ref m_moved, .int msh, .ref m_past]))]) [0] rfl
  refine vp_callSi (va_Run.run (va_runV (As := [.int a]) (rest := []) ⟨hx, hb, hml, hown, hts⟩ (c_Mo_isArea l D cI cZ cJ cS aT ceT  g0 m_sea m_center m_home m_borders m_owner m_units m_kind m_toX m_toY m_results m_known m_reached m_way m_aside m_origin m_retreats m_contested m_moved m_past 0 ar mp mt msh a ) (cwV 1 hts (tb_4 wd_790 wd_792 wp_36 wd_8 (tb_c wd_793)) rfl rfl rfl ⟨rfl, by decide, by decide, by decide +kernel⟩ ⟨Nat.le_of_ble_eq_true rfl, Nat.le_of_ble_eq_true rfl⟩) (tP_V hK hX (hS.2.1 aT hXl hXn) hPc (q := 0) rfl rfl) rfl rfl hl.1 rfl (lv_room (Nat.le_of_ble_eq_true rfl)) d_Mo_owner_7 ⟨Nat.le_of_ble_eq_true rfl, Nat.le_of_ble_eq_true rfl⟩)) (fun r1 hr9 => ?_)
  rcases hr9 with ⟨rfl, hq2⟩ | ⟨rfl, hq2⟩
  · -- 7: true
    refine lv_if_eq (tgt := 22) hx hb d_Mo_owner_10 (by decide) (fun h0 => absurd h0 (by decide)) (fun _ => ?_)
    refine lv_aload_n hx hb d_Mo_owner_13 rfl (lv_at hl 0 rfl) ?_
    refine va_get (D := D) (ci := 6) (v := .ref m_owner) (C := R_Mo) (T := T_Mo) (N := 24) hx hb hts hin_Mo hown hK hP 0 rfl rfl 8 (by decide) (hts _ wd_712) (fun _ h9 => h9) rfl d_Mo_owner_14 ?_
    refine lv_iload_n hx hb d_Mo_owner_17 rfl (lv_at hl 1 rfl) ?_
    refine va_iald hx hb hK hP 1 0 rfl rfl (tn_in hn hq2) d_Mo_owner_18 ?_
    refine lv_goto (tgt := 23) hx hb d_Mo_owner_19 (by decide) ?_
    have hP9 := hP.sub (ws' := [(g0, .inr (6, [.int 0, .int ar, .ref m_sea, .ref m_center, .ref m_home, .ref m_borders, .int mp, .int mt, .ref m_owner, .ref m_units, .ref m_kind, .ref m_toX, .ref m_toY, .ref m_results, .ref m_known, .ref m_reached, .ref m_way, .ref m_aside, .ref m_origin, .ref m_retreats, .ref m_contested, .ref m_moved, .int msh, .ref m_past])), (m_owner, .inl (cI, 12, .inl fu))]) [0, 1] rfl
    have hD9 := hD.sub (ws' := [(g0, .inr (6, [.int 0, .int ar, .ref m_sea, .ref m_center, .ref m_home, .ref m_borders, .int mp, .int mt, .ref m_owner, .ref m_units, .ref m_kind, .ref m_toX, .ref m_toY, .ref m_results, .ref m_known, .ref m_reached, .ref m_way, .ref m_aside, .ref m_origin, .ref m_retreats, .ref m_contested, .ref m_moved, .int msh, .ref m_past])), (m_owner, .inl (cI, 12, .inl fu))]) [0, 1] (by decide) rfl
    exact W.iret (v := fu a.toNatClampNeg) hx hb hr (fun t ht hW => ⟨⟨fu a.toNatClampNeg, (), rfl, by rw [if_pos hq2], by rw [ht]; exact hP9, hD9⟩, hS.F ht⟩) hS.2.2 d_Mo_owner_23
  · -- 7: false
    refine lv_if_eq (tgt := 22) hx hb d_Mo_owner_10 (by decide) (fun _ => ?_) (fun h0 => absurd (by decide) h0)
    refine lv_iconst (v := (-1)) hx hb d_Mo_owner_22 (by decide) ?_
    have hP9 := hP.sub (ws' := [(g0, .inr (6, [.int 0, .int ar, .ref m_sea, .ref m_center, .ref m_home, .ref m_borders, .int mp, .int mt, .ref m_owner, .ref m_units, .ref m_kind, .ref m_toX, .ref m_toY, .ref m_results, .ref m_known, .ref m_reached, .ref m_way, .ref m_aside, .ref m_origin, .ref m_retreats, .ref m_contested, .ref m_moved, .int msh, .ref m_past])), (m_owner, .inl (cI, 12, .inl fu))]) [0, 1] rfl
    have hD9 := hD.sub (ws' := [(g0, .inr (6, [.int 0, .int ar, .ref m_sea, .ref m_center, .ref m_home, .ref m_borders, .int mp, .int mt, .ref m_owner, .ref m_units, .ref m_kind, .ref m_toX, .ref m_toY, .ref m_results, .ref m_known, .ref m_reached, .ref m_way, .ref m_aside, .ref m_origin, .ref m_retreats, .ref m_contested, .ref m_moved, .int msh, .ref m_past])), (m_owner, .inl (cI, 12, .inl fu))]) [0, 1] (by decide) rfl
    exact W.iret (v := (-1)) hx hb hr (fun t ht hW => ⟨⟨(-1), (), rfl, by rw [if_neg hq2], by rw [ht]; exact hP9, hD9⟩, hS.F ht⟩) hS.2.2 d_Mo_owner_23

theorem d_Mo_counted_0 : decode b_Mo_counted 0 = .ok (.iconst 0, 1) := by decide +kernel
theorem d_Mo_counted_1 : decode b_Mo_counted 1 = .ok (.istore_n 3, 1) := by decide +kernel
theorem d_Mo_counted_2 : decode b_Mo_counted 2 = .ok (.iconst 0, 1) := by decide +kernel
theorem d_Mo_counted_3 : decode b_Mo_counted 3 = .ok (.istore 4, 2) := by decide +kernel
theorem d_Mo_counted_5 : decode b_Mo_counted 5 = .ok (.iload 4, 2) := by decide +kernel
theorem d_Mo_counted_7 : decode b_Mo_counted 7 = .ok (.aload_n 0, 1) := by decide +kernel
theorem d_Mo_counted_8 : decode b_Mo_counted 8 = .ok (.getfield 72, 3) := by decide +kernel
theorem d_Mo_counted_11 : decode b_Mo_counted 11 = .ok (.if_icmp .ge 73, 3) := by decide +kernel
theorem d_Mo_counted_14 : decode b_Mo_counted 14 = .ok (.iload_n 3, 1) := by decide +kernel
theorem d_Mo_counted_15 : decode b_Mo_counted 15 = .ok (.iload_n 2, 1) := by decide +kernel
theorem d_Mo_counted_16 : decode b_Mo_counted 16 = .ok (.ifCond .eq 34, 3) := by decide +kernel
theorem d_Mo_counted_19 : decode b_Mo_counted 19 = .ok (.aload_n 0, 1) := by decide +kernel
theorem d_Mo_counted_20 : decode b_Mo_counted 20 = .ok (.getfield 26, 3) := by decide +kernel
theorem d_Mo_counted_23 : decode b_Mo_counted 23 = .ok (.iload 4, 2) := by decide +kernel
theorem d_Mo_counted_25 : decode b_Mo_counted 25 = .ok (.iaload, 1) := by decide +kernel
theorem d_Mo_counted_26 : decode b_Mo_counted 26 = .ok (.ifCond .lt 20, 3) := by decide +kernel
theorem d_Mo_counted_29 : decode b_Mo_counted 29 = .ok (.aload_n 0, 1) := by decide +kernel
theorem d_Mo_counted_30 : decode b_Mo_counted 30 = .ok (.getfield 26, 3) := by decide +kernel
theorem d_Mo_counted_33 : decode b_Mo_counted 33 = .ok (.iload 4, 2) := by decide +kernel
theorem d_Mo_counted_35 : decode b_Mo_counted 35 = .ok (.iaload, 1) := by decide +kernel
theorem d_Mo_counted_36 : decode b_Mo_counted 36 = .ok (.iconst 2, 1) := by decide +kernel
theorem d_Mo_counted_37 : decode b_Mo_counted 37 = .ok (.idiv, 1) := by decide +kernel
theorem d_Mo_counted_38 : decode b_Mo_counted 38 = .ok (.iload_n 1, 1) := by decide +kernel
theorem d_Mo_counted_39 : decode b_Mo_counted 39 = .ok (.if_icmp .ne 7, 3) := by decide +kernel
theorem d_Mo_counted_42 : decode b_Mo_counted 42 = .ok (.iconst 1, 1) := by decide +kernel
theorem d_Mo_counted_43 : decode b_Mo_counted 43 = .ok (.goto 33, 3) := by decide +kernel
theorem d_Mo_counted_46 : decode b_Mo_counted 46 = .ok (.iconst 0, 1) := by decide +kernel
theorem d_Mo_counted_47 : decode b_Mo_counted 47 = .ok (.goto 29, 3) := by decide +kernel
theorem d_Mo_counted_50 : decode b_Mo_counted 50 = .ok (.aload_n 0, 1) := by decide +kernel
theorem d_Mo_counted_51 : decode b_Mo_counted 51 = .ok (.getfield 13, 3) := by decide +kernel
theorem d_Mo_counted_54 : decode b_Mo_counted 54 = .ok (.iload 4, 2) := by decide +kernel
theorem d_Mo_counted_56 : decode b_Mo_counted 56 = .ok (.baload, 1) := by decide +kernel
theorem d_Mo_counted_57 : decode b_Mo_counted 57 = .ok (.ifCond .eq 18, 3) := by decide +kernel
theorem d_Mo_counted_60 : decode b_Mo_counted 60 = .ok (.aload_n 0, 1) := by decide +kernel
theorem d_Mo_counted_61 : decode b_Mo_counted 61 = .ok (.getfield 23, 3) := by decide +kernel
theorem d_Mo_counted_64 : decode b_Mo_counted 64 = .ok (.iload 4, 2) := by decide +kernel
theorem d_Mo_counted_66 : decode b_Mo_counted 66 = .ok (.iaload, 1) := by decide +kernel
theorem d_Mo_counted_67 : decode b_Mo_counted 67 = .ok (.iload_n 1, 1) := by decide +kernel
theorem d_Mo_counted_68 : decode b_Mo_counted 68 = .ok (.if_icmp .ne 7, 3) := by decide +kernel
theorem d_Mo_counted_71 : decode b_Mo_counted 71 = .ok (.iconst 1, 1) := by decide +kernel
theorem d_Mo_counted_72 : decode b_Mo_counted 72 = .ok (.goto 4, 3) := by decide +kernel
theorem d_Mo_counted_75 : decode b_Mo_counted 75 = .ok (.iconst 0, 1) := by decide +kernel
theorem d_Mo_counted_76 : decode b_Mo_counted 76 = .ok (.iadd, 1) := by decide +kernel
theorem d_Mo_counted_77 : decode b_Mo_counted 77 = .ok (.istore_n 3, 1) := by decide +kernel
theorem d_Mo_counted_78 : decode b_Mo_counted 78 = .ok (.iinc 4 1, 3) := by decide +kernel
theorem d_Mo_counted_81 : decode b_Mo_counted 81 = .ok (.goto (-76), 3) := by decide +kernel
theorem d_Mo_counted_84 : decode b_Mo_counted 84 = .ok (.iload_n 3, 1) := by decide +kernel
theorem d_Mo_counted_85 : decode b_Mo_counted 85 = .ok (.ireturn, 1) := by decide +kernel

set_option maxHeartbeats 4000000 in
set_option maxRecDepth 100000 in
theorem c_Mo_counted_0 (l : Launch) (D : va_G) (cI cZ cJ cS : ClassId) (aT : Nat) (ceT : Cell) (g0 m_sea m_center m_home m_borders m_owner m_units m_kind m_toX m_toY m_results m_known m_reached m_way m_aside m_origin m_retreats m_contested m_moved m_past : Nat) (co mp mt msh : Int32) (pl w : Int32)  : Met l y_Mo_counted w_Mo_counted ({ frames := 0, cells := 0, slots := 0, locals := 0 }) (tP D cI cZ cJ cS aT ceT [.ref g0, .int pl, .int w] [(g0, .inr (6, [.int co, .int 0, .ref m_sea, .ref m_center, .ref m_home, .ref m_borders, .int mp, .int mt, .ref m_owner, .ref m_units, .ref m_kind, .ref m_toX, .ref m_toY, .ref m_results, .ref m_known, .ref m_reached, .ref m_way, .ref m_aside, .ref m_origin, .ref m_retreats, .ref m_contested, .ref m_moved, .int msh, .ref m_past]))]) (vp_Si (fun r => r = 0)) 0 0 (fun _ => False) := by
  refine Met.ofW (cc := b_Mo_counted) (maxL := 5) (ret := (some .int)) (by decide) rfl ?_
  intro p e s m args below meth c s₁ B hml hv
  obtain ⟨rfl, hP, hK, hX⟩ := hv
  have hx := B.exec
  have hb := B.bytes
  have hr := B.returns
  have hts0 := atoms_spec (ws := w_Mo_counted) B.pre
  have hts : ∀ w ∈ TB, w.before _ s = true := fun w h => hts0 w (List.mem_cons_of_mem _ h)
  have hown : s.vm.findClass R_Mo = some m.cls := findClass_of_methodNamed B.named
  have hlocks := B.notSynchronized
  have hXH : s.heap[aT]? = s.heap[aT]? := rfl
  have hl := lv_entry ([.ref g0, .int pl, .int w]) (n := 5) (Nat.le_of_ble_eq_true rfl)
  rw [lg_entry_eq]
  generalize (lg_sl ([.ref g0, .int pl, .int w]) ++ List.replicate (5 - (lg_sl ([.ref g0, .int pl, .int w])).length) Slot.unset).toArray = ls at hl ⊢
  have hl : lv_has ls 5 [(0, .ref g0), (1, .int pl), (2, .int w)] := hl
  refine lv_iconst (v := 0) hx hb d_Mo_counted_0 (by decide) ?_
  refine lv_istore_n (lv' := [(3, .int 0), (0, .ref g0), (1, .int pl), (2, .int w)]) hx hb d_Mo_counted_1 rfl hl (by decide) rfl (fun ls hl => ?_)
  refine lv_iconst (v := 0) hx hb d_Mo_counted_2 (by decide) ?_
  refine lv_istore (lv' := [(4, .int 0), (3, .int 0), (0, .ref g0), (1, .int pl), (2, .int w)]) hx hb d_Mo_counted_3 hl (by decide) rfl (fun ls hl => ?_)
  refine lv_iload hx hb d_Mo_counted_5 (lv_at hl 0 rfl) ?_
  refine lv_aload_n hx hb d_Mo_counted_7 rfl (lv_at hl 2 rfl) ?_
  refine va_get (D := D) (ci := 6) (v := .int 0) (C := R_Mo) (T := T_Mo) (N := 24) hx hb hts hin_Mo hown hK hP 0 rfl rfl 1 (by decide) (hts _ wd_705) (fun _ h9 => h9) rfl d_Mo_counted_8 ?_
  refine lv_icmp_ge (tgt := 84) hx hb d_Mo_counted_11 (by decide) (fun _ => ?_) (fun h0 => absurd (by decide) h0)
  refine lv_iload_n hx hb d_Mo_counted_84 rfl (lv_at hl 1 rfl) ?_
  exact W.iret (v := 0) hx hb hr (fun t ht hW => ⟨0, rfl, rfl, ht⟩) (fun q hq => by cases hq) d_Mo_counted_85

theorem d_Mo_count_0 : decode b_Mo_count 0 = .ok (.aload_n 0, 1) := by decide +kernel
theorem d_Mo_count_1 : decode b_Mo_count 1 = .ok (.iconst 0, 1) := by decide +kernel
theorem d_Mo_count_2 : decode b_Mo_count 2 = .ok (.putfield 68, 3) := by decide +kernel
theorem d_Mo_count_5 : decode b_Mo_count 5 = .ok (.iload_n 1, 1) := by decide +kernel
theorem d_Mo_count_6 : decode b_Mo_count 6 = .ok (.invokestatic 89, 3) := by decide +kernel
theorem d_Mo_count_9 : decode b_Mo_count 9 = .ok (.ifCond .eq 30, 3) := by decide +kernel
theorem d_Mo_count_12 : decode b_Mo_count 12 = .ok (.iload_n 2, 1) := by decide +kernel
theorem d_Mo_count_13 : decode b_Mo_count 13 = .ok (.ifCond .eq 8, 3) := by decide +kernel
theorem d_Mo_count_16 : decode b_Mo_count 16 = .ok (.iload_n 2, 1) := by decide +kernel
theorem d_Mo_count_17 : decode b_Mo_count 17 = .ok (.iconst 1, 1) := by decide +kernel
theorem d_Mo_count_18 : decode b_Mo_count 18 = .ok (.if_icmp .ne 21, 3) := by decide +kernel
theorem d_Mo_count_21 : decode b_Mo_count 21 = .ok (.aload_n 0, 1) := by decide +kernel
theorem d_Mo_count_22 : decode b_Mo_count 22 = .ok (.iload_n 1, 1) := by decide +kernel
theorem d_Mo_count_23 : decode b_Mo_count 23 = .ok (.iload_n 2, 1) := by decide +kernel
theorem d_Mo_count_24 : decode b_Mo_count 24 = .ok (.iconst 1, 1) := by decide +kernel
theorem d_Mo_count_25 : decode b_Mo_count 25 = .ok (.if_icmp .ne 7, 3) := by decide +kernel
theorem d_Mo_count_28 : decode b_Mo_count 28 = .ok (.iconst 1, 1) := by decide +kernel
theorem d_Mo_count_29 : decode b_Mo_count 29 = .ok (.goto 4, 3) := by decide +kernel
theorem d_Mo_count_32 : decode b_Mo_count 32 = .ok (.iconst 0, 1) := by decide +kernel
theorem d_Mo_count_33 : decode b_Mo_count 33 = .ok (.invokevirtual 195, 3) := by decide +kernel
theorem d_Mo_count_36 : decode b_Mo_count 36 = .ok (.goto 4, 3) := by decide +kernel
theorem d_Mo_count_39 : decode b_Mo_count 39 = .ok (.iconst 0, 1) := by decide +kernel
theorem d_Mo_count_40 : decode b_Mo_count 40 = .ok (.ireturn, 1) := by decide +kernel
theorem wd_944 : (Cond.code ({ cls := "SheetWarModel", name := "counted", desc := "(IZ)I" } : MethodName) prog_8_method_42_code (5 : Nat) (Option.some FieldType.int)) ∈ TB := tb_t 944 (by decide +kernel) (by decide +kernel)
theorem wd_941 : (Cond.methodLink "SheetWarModel" (195 : Nat) ({ cls := "SheetWarModel", name := "counted", desc := "(IZ)I" } : MethodName)) ∈ TB := tb_t 941 (by decide +kernel) (by decide +kernel)
theorem wd_943 : (Cond.instanceMethod ({ cls := "SheetWarModel", name := "counted", desc := "(IZ)I" } : MethodName)) ∈ TB := tb_t 943 (by decide +kernel) (by decide +kernel)
theorem wp_69 : Cond.selects "SheetWarModel" ⟨"SheetWarModel", "counted", "(IZ)I"⟩ ⟨"SheetWarModel", "counted", "(IZ)I"⟩ ∈ TB := tb_p 69 (by decide +kernel) (by decide +kernel)
set_option maxHeartbeats 4000000 in
set_option maxRecDepth 100000 in
theorem c_Mo_count_0 (l : Launch) (D : va_G) (cI cZ cJ cS : ClassId) (aT : Nat) (ceT : Cell) (sz : Nat) (g0 m_sea m_center m_home m_borders m_owner m_units m_kind m_toX m_toY m_results m_known m_reached m_way m_aside m_origin m_retreats m_contested m_moved m_past : Nat) (co mp mt msh : Int32) (pl w : Int32)  : Met l y_Mo_count w_Mo_count ({ frames := 1, cells := 0, slots := 0, locals := 24 }) (tH D cI cZ cJ cS aT ceT [.ref g0, .int pl, .int w] sz [(g0, .inr (6, [.int co, .int 0, .ref m_sea, .ref m_center, .ref m_home, .ref m_borders, .int mp, .int mt, .ref m_owner, .ref m_units, .ref m_kind, .ref m_toX, .ref m_toY, .ref m_results, .ref m_known, .ref m_reached, .ref m_way, .ref m_aside, .ref m_origin, .ref m_retreats, .ref m_contested, .ref m_moved, .int msh, .ref m_past]))]) (va_Qi (fun (r : Int32) (_ : Unit) => r = 0) (fun _ t => tB D (va_A [(g0, .inr (6, [.int co, .int 0, .ref m_sea, .ref m_center, .ref m_home, .ref m_borders, .int mp, .int mt, .ref m_owner, .ref m_units, .ref m_kind, .ref m_toX, .ref m_toY, .ref m_results, .ref m_known, .ref m_reached, .ref m_way, .ref m_aside, .ref m_origin, .ref m_retreats, .ref m_contested, .ref m_moved, .int msh, .ref m_past]))] sz) [(g0, .inr (6, [.int 0, .int 0, .ref m_sea, .ref m_center, .ref m_home, .ref m_borders, .int mp, .int mt, .ref m_owner, .ref m_units, .ref m_kind, .ref m_toX, .ref m_toY, .ref m_results, .ref m_known, .ref m_reached, .ref m_way, .ref m_aside, .ref m_origin, .ref m_retreats, .ref m_contested, .ref m_moved, .int msh, .ref m_past]))] t) (va_A [(g0, .inr (6, [.int co, .int 0, .ref m_sea, .ref m_center, .ref m_home, .ref m_borders, .int mp, .int mt, .ref m_owner, .ref m_units, .ref m_kind, .ref m_toX, .ref m_toY, .ref m_results, .ref m_known, .ref m_reached, .ref m_way, .ref m_aside, .ref m_origin, .ref m_retreats, .ref m_contested, .ref m_moved, .int msh, .ref m_past]))] sz)) 0 0 (va_A [(g0, .inr (6, [.int co, .int 0, .ref m_sea, .ref m_center, .ref m_home, .ref m_borders, .int mp, .int mt, .ref m_owner, .ref m_units, .ref m_kind, .ref m_toX, .ref m_toY, .ref m_results, .ref m_known, .ref m_reached, .ref m_way, .ref m_aside, .ref m_origin, .ref m_retreats, .ref m_contested, .ref m_moved, .int msh, .ref m_past]))] sz) := by
  refine Met.ofW (cc := b_Mo_count) (maxL := 3) (ret := (some .int)) (by decide) rfl ?_
  intro p e s m args below meth c s₁ B hml hv
  obtain ⟨rfl, hsz, hP, hK, hD0, hX⟩ := hv
  have hx := B.exec
  have hb := B.bytes
  have hr := B.returns
  have hts0 := atoms_spec (ws := w_Mo_count) B.pre
  have hts : ∀ w ∈ TB, w.before _ s = true := fun w h => hts0 w (List.mem_cons_of_mem _ h)
  have hown : s.vm.findClass R_Mo = some m.cls := findClass_of_methodNamed B.named
  have hlocks := B.notSynchronized
  subst hsz
  have hXl := tx_lt hX
  have hXn := tx_far hP hX
  have hD := hD0.self (sz := s.heap.size)
  generalize hAe : va_A [(g0, .inr (6, [.int co, .int 0, .ref m_sea, .ref m_center, .ref m_home, .ref m_borders, .int mp, .int mt, .ref m_owner, .ref m_units, .ref m_kind, .ref m_toX, .ref m_toY, .ref m_results, .ref m_known, .ref m_reached, .ref m_way, .ref m_aside, .ref m_origin, .ref m_retreats, .ref m_contested, .ref m_moved, .int msh, .ref m_past]))] s.heap.size = A at hD hXn ⊢
  have hA : ∀ q : Nat, s.heap.size ≤ q → A q := fun q h => by rw [← hAe]; exact Or.inr h
  have hS : va_S A s.heap s.heap [] := va_S.rf
  have hXH : s.heap[aT]? = s.heap[aT]? := rfl
  have hl := lv_entry ([.ref g0, .int pl, .int w]) (n := 3) (Nat.le_of_ble_eq_true rfl)
  rw [lg_entry_eq]
  generalize (lg_sl ([.ref g0, .int pl, .int w]) ++ List.replicate (3 - (lg_sl ([.ref g0, .int pl, .int w])).length) Slot.unset).toArray = ls at hl ⊢
  have hl : lv_has ls 3 [(0, .ref g0), (1, .int pl), (2, .int w)] := hl
  refine lv_aload_n hx hb d_Mo_count_0 rfl (lv_at hl 0 rfl) ?_
  refine lv_iconst (v := 0) hx hb d_Mo_count_1 (by decide) ?_
  refine va_put (D := D) (ci := 6) (v := .int 0) (ty := .int) (C := R_Mo) (T := T_Mo) (N := 24) hx hb hts hin_Mo ty_Mo tyok_Mo nm_Mo hown hK hP hD hS 0 rfl rfl 0 (by decide) (hts _ wd_704) (fun _ h9 => h9) rfl (by decide +kernel) rfl rfl (Nat.le_of_ble_eq_true rfl) d_Mo_count_2 (fun H locs hP hD hS => ?_)
  have hP : va_P D vwCl [(g0, .inr (6, [.int 0, .int 0, .ref m_sea, .ref m_center, .ref m_home, .ref m_borders, .int mp, .int mt, .ref m_owner, .ref m_units, .ref m_kind, .ref m_toX, .ref m_toY, .ref m_results, .ref m_known, .ref m_reached, .ref m_way, .ref m_aside, .ref m_origin, .ref m_retreats, .ref m_contested, .ref m_moved, .int msh, .ref m_past]))] H := hP
  have hD : va_D A [(g0, .inr (6, [.int 0, .int 0, .ref m_sea, .ref m_center, .ref m_home, .ref m_borders, .int mp, .int mt, .ref m_owner, .ref m_units, .ref m_kind, .ref m_toX, .ref m_toY, .ref m_results, .ref m_known, .ref m_reached, .ref m_way, .ref m_aside, .ref m_origin, .ref m_retreats, .ref m_contested, .ref m_moved, .int msh, .ref m_past]))] := hD
  refine lv_iload_n hx hb d_Mo_count_5 rfl (lv_at hl 1 rfl) ?_
  have hPc := hP.sub (ws' := []) [] rfl
  refine vp_callSi (va_Run.run (va_runS (As := [.int pl]) (rest := []) ⟨hx, hb, hml, hown, hts⟩ (c_Mo_isPlayer l D cI cZ cJ cS aT ceT  pl ) (va_cwS 1 hts (tb_3 wd_802 wd_803 wd_8 (tb_c wd_804)) rfl rfl rfl ⟨by decide, by decide, by decide +kernel⟩ ⟨Nat.le_of_ble_eq_true rfl, Nat.le_of_ble_eq_true rfl⟩) (tP_S hK hX (hS.2.1 aT hXl hXn) hPc) rfl rfl hl.1 rfl (lv_room (Nat.le_of_ble_eq_true rfl)) d_Mo_count_6 ⟨Nat.le_of_ble_eq_true rfl, Nat.le_of_ble_eq_true rfl⟩)) (fun r1 hr9 => ?_)
  rcases hr9 with ⟨rfl, hq2⟩ | ⟨rfl, hq2⟩
  · -- 6: true
    refine lv_if_eq (tgt := 39) hx hb d_Mo_count_9 (by decide) (fun h0 => absurd h0 (by decide)) (fun _ => ?_)
    refine lv_iload_n hx hb d_Mo_count_12 rfl (lv_at hl 2 rfl) ?_
    refine lv_if_eq (tgt := 21) hx hb d_Mo_count_13 (by decide) (fun hc4 => ?_) (fun hc4 => ?_)
    · -- 13 taken
      refine lv_aload_n hx hb d_Mo_count_21 rfl (lv_at hl 0 rfl) ?_
      refine lv_iload_n hx hb d_Mo_count_22 rfl (lv_at hl 1 rfl) ?_
      refine lv_iload_n hx hb d_Mo_count_23 rfl (lv_at hl 2 rfl) ?_
      refine lv_iconst (v := 1) hx hb d_Mo_count_24 (by decide) ?_
      refine lv_icmp_ne (tgt := 32) hx hb d_Mo_count_25 (by decide) (fun hc5 => ?_) (fun hc5 => ?_)
      · -- 25 taken
        refine lv_iconst (v := 0) hx hb d_Mo_count_32 (by decide) ?_
        have hPc := hP.sub (ws' := [(g0, .inr (6, [.int 0, .int 0, .ref m_sea, .ref m_center, .ref m_home, .ref m_borders, .int mp, .int mt, .ref m_owner, .ref m_units, .ref m_kind, .ref m_toX, .ref m_toY, .ref m_results, .ref m_known, .ref m_reached, .ref m_way, .ref m_aside, .ref m_origin, .ref m_retreats, .ref m_contested, .ref m_moved, .int msh, .ref m_past]))]) [0] rfl
        refine vp_callSi (va_Run.run (va_runV (As := [.int pl, .int 0]) (rest := []) ⟨hx, hb, hml, hown, hts⟩ (c_Mo_counted_0 l D cI cZ cJ cS aT ceT  g0 m_sea m_center m_home m_borders m_owner m_units m_kind m_toX m_toY m_results m_known m_reached m_way m_aside m_origin m_retreats m_contested m_moved m_past 0 mp mt msh pl 0 ) (cwV 2 hts (tb_4 wd_941 wd_943 wp_69 wd_8 (tb_c wd_944)) rfl rfl rfl ⟨rfl, by decide, by decide, by decide +kernel⟩ ⟨Nat.le_of_ble_eq_true rfl, Nat.le_of_ble_eq_true rfl⟩) (tP_V hK hX (hS.2.1 aT hXl hXn) hPc (q := 0) rfl rfl) rfl rfl hl.1 rfl (lv_room (Nat.le_of_ble_eq_true rfl)) d_Mo_count_33 ⟨Nat.le_of_ble_eq_true rfl, Nat.le_of_ble_eq_true rfl⟩)) (fun r6 hr9 => ?_)
        rw [hr9]
        refine lv_goto (tgt := 40) hx hb d_Mo_count_36 (by decide) ?_
        have hP9 := hP.sub (ws' := [(g0, .inr (6, [.int 0, .int 0, .ref m_sea, .ref m_center, .ref m_home, .ref m_borders, .int mp, .int mt, .ref m_owner, .ref m_units, .ref m_kind, .ref m_toX, .ref m_toY, .ref m_results, .ref m_known, .ref m_reached, .ref m_way, .ref m_aside, .ref m_origin, .ref m_retreats, .ref m_contested, .ref m_moved, .int msh, .ref m_past]))]) [0] rfl
        have hD9 := hD.sub (ws' := [(g0, .inr (6, [.int 0, .int 0, .ref m_sea, .ref m_center, .ref m_home, .ref m_borders, .int mp, .int mt, .ref m_owner, .ref m_units, .ref m_kind, .ref m_toX, .ref m_toY, .ref m_results, .ref m_known, .ref m_reached, .ref m_way, .ref m_aside, .ref m_origin, .ref m_retreats, .ref m_contested, .ref m_moved, .int msh, .ref m_past]))]) [0] (by decide) rfl
        exact W.iret (v := 0) hx hb hr (fun t ht hW => ⟨⟨0, (), rfl, rfl, by rw [ht]; exact hP9, hD9⟩, hS.F ht⟩) hS.2.2 d_Mo_count_40
      · -- 25 not taken
        refine lv_iconst (v := 1) hx hb d_Mo_count_28 (by decide) ?_
        refine lv_goto (tgt := 33) hx hb d_Mo_count_29 (by decide) ?_
        have hPc := hP.sub (ws' := [(g0, .inr (6, [.int 0, .int 0, .ref m_sea, .ref m_center, .ref m_home, .ref m_borders, .int mp, .int mt, .ref m_owner, .ref m_units, .ref m_kind, .ref m_toX, .ref m_toY, .ref m_results, .ref m_known, .ref m_reached, .ref m_way, .ref m_aside, .ref m_origin, .ref m_retreats, .ref m_contested, .ref m_moved, .int msh, .ref m_past]))]) [0] rfl
        refine vp_callSi (va_Run.run (va_runV (As := [.int pl, .int 1]) (rest := []) ⟨hx, hb, hml, hown, hts⟩ (c_Mo_counted_0 l D cI cZ cJ cS aT ceT  g0 m_sea m_center m_home m_borders m_owner m_units m_kind m_toX m_toY m_results m_known m_reached m_way m_aside m_origin m_retreats m_contested m_moved m_past 0 mp mt msh pl 1 ) (cwV 2 hts (tb_4 wd_941 wd_943 wp_69 wd_8 (tb_c wd_944)) rfl rfl rfl ⟨rfl, by decide, by decide, by decide +kernel⟩ ⟨Nat.le_of_ble_eq_true rfl, Nat.le_of_ble_eq_true rfl⟩) (tP_V hK hX (hS.2.1 aT hXl hXn) hPc (q := 0) rfl rfl) rfl rfl hl.1 rfl (lv_room (Nat.le_of_ble_eq_true rfl)) d_Mo_count_33 ⟨Nat.le_of_ble_eq_true rfl, Nat.le_of_ble_eq_true rfl⟩)) (fun r7 hr9 => ?_)
        rw [hr9]
        refine lv_goto (tgt := 40) hx hb d_Mo_count_36 (by decide) ?_
        have hP9 := hP.sub (ws' := [(g0, .inr (6, [.int 0, .int 0, .ref m_sea, .ref m_center, .ref m_home, .ref m_borders, .int mp, .int mt, .ref m_owner, .ref m_units, .ref m_kind, .ref m_toX, .ref m_toY, .ref m_results, .ref m_known, .ref m_reached, .ref m_way, .ref m_aside, .ref m_origin, .ref m_retreats, .ref m_contested, .ref m_moved, .int msh, .ref m_past]))]) [0] rfl
        have hD9 := hD.sub (ws' := [(g0, .inr (6, [.int 0, .int 0, .ref m_sea, .ref m_center, .ref m_home, .ref m_borders, .int mp, .int mt, .ref m_owner, .ref m_units, .ref m_kind, .ref m_toX, .ref m_toY, .ref m_results, .ref m_known, .ref m_reached, .ref m_way, .ref m_aside, .ref m_origin, .ref m_retreats, .ref m_contested, .ref m_moved, .int msh, .ref m_past]))]) [0] (by decide) rfl
        exact W.iret (v := 0) hx hb hr (fun t ht hW => ⟨⟨0, (), rfl, rfl, by rw [ht]; exact hP9, hD9⟩, hS.F ht⟩) hS.2.2 d_Mo_count_40
    · -- 13 not taken
      refine lv_iload_n hx hb d_Mo_count_16 rfl (lv_at hl 2 rfl) ?_
      refine lv_iconst (v := 1) hx hb d_Mo_count_17 (by decide) ?_
      refine lv_icmp_ne (tgt := 39) hx hb d_Mo_count_18 (by decide) (fun hc8 => ?_) (fun hc8 => ?_)
      · -- 18 taken
        refine lv_iconst (v := 0) hx hb d_Mo_count_39 (by decide) ?_
        have hP9 := hP.sub (ws' := [(g0, .inr (6, [.int 0, .int 0, .ref m_sea, .ref m_center, .ref m_home, .ref m_borders, .int mp, .int mt, .ref m_owner, .ref m_units, .ref m_kind, .ref m_toX, .ref m_toY, .ref m_results, .ref m_known, .ref m_reached, .ref m_way, .ref m_aside, .ref m_origin, .ref m_retreats, .ref m_contested, .ref m_moved, .int msh, .ref m_past]))]) [0] rfl
        have hD9 := hD.sub (ws' := [(g0, .inr (6, [.int 0, .int 0, .ref m_sea, .ref m_center, .ref m_home, .ref m_borders, .int mp, .int mt, .ref m_owner, .ref m_units, .ref m_kind, .ref m_toX, .ref m_toY, .ref m_results, .ref m_known, .ref m_reached, .ref m_way, .ref m_aside, .ref m_origin, .ref m_retreats, .ref m_contested, .ref m_moved, .int msh, .ref m_past]))]) [0] (by decide) rfl
        exact W.iret (v := 0) hx hb hr (fun t ht hW => ⟨⟨0, (), rfl, rfl, by rw [ht]; exact hP9, hD9⟩, hS.F ht⟩) hS.2.2 d_Mo_count_40
      · -- 18 not taken
        refine lv_aload_n hx hb d_Mo_count_21 rfl (lv_at hl 0 rfl) ?_
        refine lv_iload_n hx hb d_Mo_count_22 rfl (lv_at hl 1 rfl) ?_
        refine lv_iload_n hx hb d_Mo_count_23 rfl (lv_at hl 2 rfl) ?_
        refine lv_iconst (v := 1) hx hb d_Mo_count_24 (by decide) ?_
        refine lv_icmp_ne (tgt := 32) hx hb d_Mo_count_25 (by decide) (fun h0 => absurd hc8 h0) (fun _ => ?_)
        refine lv_iconst (v := 1) hx hb d_Mo_count_28 (by decide) ?_
        refine lv_goto (tgt := 33) hx hb d_Mo_count_29 (by decide) ?_
        have hPc := hP.sub (ws' := [(g0, .inr (6, [.int 0, .int 0, .ref m_sea, .ref m_center, .ref m_home, .ref m_borders, .int mp, .int mt, .ref m_owner, .ref m_units, .ref m_kind, .ref m_toX, .ref m_toY, .ref m_results, .ref m_known, .ref m_reached, .ref m_way, .ref m_aside, .ref m_origin, .ref m_retreats, .ref m_contested, .ref m_moved, .int msh, .ref m_past]))]) [0] rfl
        refine vp_callSi (va_Run.run (va_runV (As := [.int pl, .int 1]) (rest := []) ⟨hx, hb, hml, hown, hts⟩ (c_Mo_counted_0 l D cI cZ cJ cS aT ceT  g0 m_sea m_center m_home m_borders m_owner m_units m_kind m_toX m_toY m_results m_known m_reached m_way m_aside m_origin m_retreats m_contested m_moved m_past 0 mp mt msh pl 1 ) (cwV 2 hts (tb_4 wd_941 wd_943 wp_69 wd_8 (tb_c wd_944)) rfl rfl rfl ⟨rfl, by decide, by decide, by decide +kernel⟩ ⟨Nat.le_of_ble_eq_true rfl, Nat.le_of_ble_eq_true rfl⟩) (tP_V hK hX (hS.2.1 aT hXl hXn) hPc (q := 0) rfl rfl) rfl rfl hl.1 rfl (lv_room (Nat.le_of_ble_eq_true rfl)) d_Mo_count_33 ⟨Nat.le_of_ble_eq_true rfl, Nat.le_of_ble_eq_true rfl⟩)) (fun r10 hr9 => ?_)
        rw [hr9]
        refine lv_goto (tgt := 40) hx hb d_Mo_count_36 (by decide) ?_
        have hP9 := hP.sub (ws' := [(g0, .inr (6, [.int 0, .int 0, .ref m_sea, .ref m_center, .ref m_home, .ref m_borders, .int mp, .int mt, .ref m_owner, .ref m_units, .ref m_kind, .ref m_toX, .ref m_toY, .ref m_results, .ref m_known, .ref m_reached, .ref m_way, .ref m_aside, .ref m_origin, .ref m_retreats, .ref m_contested, .ref m_moved, .int msh, .ref m_past]))]) [0] rfl
        have hD9 := hD.sub (ws' := [(g0, .inr (6, [.int 0, .int 0, .ref m_sea, .ref m_center, .ref m_home, .ref m_borders, .int mp, .int mt, .ref m_owner, .ref m_units, .ref m_kind, .ref m_toX, .ref m_toY, .ref m_results, .ref m_known, .ref m_reached, .ref m_way, .ref m_aside, .ref m_origin, .ref m_retreats, .ref m_contested, .ref m_moved, .int msh, .ref m_past]))]) [0] (by decide) rfl
        exact W.iret (v := 0) hx hb hr (fun t ht hW => ⟨⟨0, (), rfl, rfl, by rw [ht]; exact hP9, hD9⟩, hS.F ht⟩) hS.2.2 d_Mo_count_40
  · -- 6: false
    refine lv_if_eq (tgt := 39) hx hb d_Mo_count_9 (by decide) (fun _ => ?_) (fun h0 => absurd (by decide) h0)
    refine lv_iconst (v := 0) hx hb d_Mo_count_39 (by decide) ?_
    have hP9 := hP.sub (ws' := [(g0, .inr (6, [.int 0, .int 0, .ref m_sea, .ref m_center, .ref m_home, .ref m_borders, .int mp, .int mt, .ref m_owner, .ref m_units, .ref m_kind, .ref m_toX, .ref m_toY, .ref m_results, .ref m_known, .ref m_reached, .ref m_way, .ref m_aside, .ref m_origin, .ref m_retreats, .ref m_contested, .ref m_moved, .int msh, .ref m_past]))]) [0] rfl
    have hD9 := hD.sub (ws' := [(g0, .inr (6, [.int 0, .int 0, .ref m_sea, .ref m_center, .ref m_home, .ref m_borders, .int mp, .int mt, .ref m_owner, .ref m_units, .ref m_kind, .ref m_toX, .ref m_toY, .ref m_results, .ref m_known, .ref m_reached, .ref m_way, .ref m_aside, .ref m_origin, .ref m_retreats, .ref m_contested, .ref m_moved, .int msh, .ref m_past]))]) [0] (by decide) rfl
    exact W.iret (v := 0) hx hb hr (fun t ht hW => ⟨⟨0, (), rfl, rfl, by rw [ht]; exact hP9, hD9⟩, hS.F ht⟩) hS.2.2 d_Mo_count_40
