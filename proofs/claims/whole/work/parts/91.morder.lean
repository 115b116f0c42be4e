def hmR (Bo S : Nat → Bool) (fu : Nat → Int32) (a x : Nat) : Bool := !decide (x = a) && (cGo Bo S (fu a) a x || (decide (fu a - fu a / 2 * 2 = 0) && !S x))
def hsU (Bo S : Nat → Bool) (fu : Nat → Int32) (a x y : Nat) : Bool := !decide (x = a) && !decide (y = a) && cGo Bo S (fu a) a y && !decide (fu x < 0)
def hcR (S : Nat → Bool) (fu : Nat → Int32) (a x y : Nat) : Bool := decide (fu a - fu a / 2 * 2 = 1) && S a && !decide (fu x < 0) && decide (fu x - fu x / 2 * 2 = 0) && !S y && !decide (x = y)

theorem d_Mo_canHave_0 : decode b_Mo_canHave 0 = .ok (.aload_n 0, 1) := by decide +kernel
theorem d_Mo_canHave_1 : decode b_Mo_canHave 1 = .ok (.getfield 26, 3) := by decide +kernel
theorem d_Mo_canHave_4 : decode b_Mo_canHave 4 = .ok (.iload_n 1, 1) := by decide +kernel
theorem d_Mo_canHave_5 : decode b_Mo_canHave 5 = .ok (.iaload, 1) := by decide +kernel
theorem d_Mo_canHave_6 : decode b_Mo_canHave 6 = .ok (.istore 5, 2) := by decide +kernel
theorem d_Mo_canHave_8 : decode b_Mo_canHave 8 = .ok (.iload_n 2, 1) := by decide +kernel
theorem d_Mo_canHave_9 : decode b_Mo_canHave 9 = .ok (.tableswitch 162 1 3 #[27, 65, 103], 27) := by decide +kernel
theorem d_Mo_canHave_36 : decode b_Mo_canHave 36 = .ok (.iload_n 3, 1) := by decide +kernel
theorem d_Mo_canHave_37 : decode b_Mo_canHave 37 = .ok (.iload_n 1, 1) := by decide +kernel
theorem d_Mo_canHave_38 : decode b_Mo_canHave 38 = .ok (.if_icmp .eq 34, 3) := by decide +kernel
theorem d_Mo_canHave_41 : decode b_Mo_canHave 41 = .ok (.aload_n 0, 1) := by decide +kernel
theorem d_Mo_canHave_42 : decode b_Mo_canHave 42 = .ok (.iload 5, 2) := by decide +kernel
theorem d_Mo_canHave_44 : decode b_Mo_canHave 44 = .ok (.iload_n 1, 1) := by decide +kernel
theorem d_Mo_canHave_45 : decode b_Mo_canHave 45 = .ok (.iload_n 3, 1) := by decide +kernel
theorem d_Mo_canHave_46 : decode b_Mo_canHave 46 = .ok (.invokevirtual 101, 3) := by decide +kernel
theorem d_Mo_canHave_49 : decode b_Mo_canHave 49 = .ok (.ifCond .ne 19, 3) := by decide +kernel
theorem d_Mo_canHave_52 : decode b_Mo_canHave 52 = .ok (.iload 5, 2) := by decide +kernel
theorem d_Mo_canHave_54 : decode b_Mo_canHave 54 = .ok (.iconst 2, 1) := by decide +kernel
theorem d_Mo_canHave_55 : decode b_Mo_canHave 55 = .ok (.irem, 1) := by decide +kernel
theorem d_Mo_canHave_56 : decode b_Mo_canHave 56 = .ok (.ifCond .ne 16, 3) := by decide +kernel
theorem d_Mo_canHave_59 : decode b_Mo_canHave 59 = .ok (.aload_n 0, 1) := by decide +kernel
theorem d_Mo_canHave_60 : decode b_Mo_canHave 60 = .ok (.getfield 7, 3) := by decide +kernel
theorem d_Mo_canHave_63 : decode b_Mo_canHave 63 = .ok (.iload_n 3, 1) := by decide +kernel
theorem d_Mo_canHave_64 : decode b_Mo_canHave 64 = .ok (.baload, 1) := by decide +kernel
theorem d_Mo_canHave_65 : decode b_Mo_canHave 65 = .ok (.ifCond .ne 7, 3) := by decide +kernel
theorem d_Mo_canHave_68 : decode b_Mo_canHave 68 = .ok (.iconst 1, 1) := by decide +kernel
theorem d_Mo_canHave_69 : decode b_Mo_canHave 69 = .ok (.goto 4, 3) := by decide +kernel
theorem d_Mo_canHave_72 : decode b_Mo_canHave 72 = .ok (.iconst 0, 1) := by decide +kernel
theorem d_Mo_canHave_73 : decode b_Mo_canHave 73 = .ok (.ireturn, 1) := by decide +kernel
theorem d_Mo_canHave_74 : decode b_Mo_canHave 74 = .ok (.iload_n 3, 1) := by decide +kernel
theorem d_Mo_canHave_75 : decode b_Mo_canHave 75 = .ok (.iload_n 1, 1) := by decide +kernel
theorem d_Mo_canHave_76 : decode b_Mo_canHave 76 = .ok (.if_icmp .eq 34, 3) := by decide +kernel
theorem d_Mo_canHave_79 : decode b_Mo_canHave 79 = .ok (.iload 4, 2) := by decide +kernel
theorem d_Mo_canHave_81 : decode b_Mo_canHave 81 = .ok (.iload_n 1, 1) := by decide +kernel
theorem d_Mo_canHave_82 : decode b_Mo_canHave 82 = .ok (.if_icmp .eq 28, 3) := by decide +kernel
theorem d_Mo_canHave_85 : decode b_Mo_canHave 85 = .ok (.aload_n 0, 1) := by decide +kernel
theorem d_Mo_canHave_86 : decode b_Mo_canHave 86 = .ok (.iload 5, 2) := by decide +kernel
theorem d_Mo_canHave_88 : decode b_Mo_canHave 88 = .ok (.iload_n 1, 1) := by decide +kernel
theorem d_Mo_canHave_89 : decode b_Mo_canHave 89 = .ok (.iload 4, 2) := by decide +kernel
theorem d_Mo_canHave_91 : decode b_Mo_canHave 91 = .ok (.invokevirtual 101, 3) := by decide +kernel
theorem d_Mo_canHave_94 : decode b_Mo_canHave 94 = .ok (.ifCond .eq 16, 3) := by decide +kernel
theorem d_Mo_canHave_97 : decode b_Mo_canHave 97 = .ok (.aload_n 0, 1) := by decide +kernel
theorem d_Mo_canHave_98 : decode b_Mo_canHave 98 = .ok (.getfield 26, 3) := by decide +kernel
theorem d_Mo_canHave_101 : decode b_Mo_canHave 101 = .ok (.iload_n 3, 1) := by decide +kernel
theorem d_Mo_canHave_102 : decode b_Mo_canHave 102 = .ok (.iaload, 1) := by decide +kernel
theorem d_Mo_canHave_103 : decode b_Mo_canHave 103 = .ok (.ifCond .lt 7, 3) := by decide +kernel
theorem d_Mo_canHave_106 : decode b_Mo_canHave 106 = .ok (.iconst 1, 1) := by decide +kernel
theorem d_Mo_canHave_107 : decode b_Mo_canHave 107 = .ok (.goto 4, 3) := by decide +kernel
theorem d_Mo_canHave_110 : decode b_Mo_canHave 110 = .ok (.iconst 0, 1) := by decide +kernel
theorem d_Mo_canHave_111 : decode b_Mo_canHave 111 = .ok (.ireturn, 1) := by decide +kernel
theorem d_Mo_canHave_112 : decode b_Mo_canHave 112 = .ok (.iload 5, 2) := by decide +kernel
theorem d_Mo_canHave_114 : decode b_Mo_canHave 114 = .ok (.iconst 2, 1) := by decide +kernel
theorem d_Mo_canHave_115 : decode b_Mo_canHave 115 = .ok (.irem, 1) := by decide +kernel
theorem d_Mo_canHave_116 : decode b_Mo_canHave 116 = .ok (.iconst 1, 1) := by decide +kernel
theorem d_Mo_canHave_117 : decode b_Mo_canHave 117 = .ok (.if_icmp .ne 52, 3) := by decide +kernel
theorem d_Mo_canHave_120 : decode b_Mo_canHave 120 = .ok (.aload_n 0, 1) := by decide +kernel
theorem d_Mo_canHave_121 : decode b_Mo_canHave 121 = .ok (.getfield 7, 3) := by decide +kernel
theorem d_Mo_canHave_124 : decode b_Mo_canHave 124 = .ok (.iload_n 1, 1) := by decide +kernel
theorem d_Mo_canHave_125 : decode b_Mo_canHave 125 = .ok (.baload, 1) := by decide +kernel
theorem d_Mo_canHave_126 : decode b_Mo_canHave 126 = .ok (.ifCond .eq 43, 3) := by decide +kernel
theorem d_Mo_canHave_129 : decode b_Mo_canHave 129 = .ok (.aload_n 0, 1) := by decide +kernel
theorem d_Mo_canHave_130 : decode b_Mo_canHave 130 = .ok (.getfield 26, 3) := by decide +kernel
theorem d_Mo_canHave_133 : decode b_Mo_canHave 133 = .ok (.iload_n 3, 1) := by decide +kernel
theorem d_Mo_canHave_134 : decode b_Mo_canHave 134 = .ok (.iaload, 1) := by decide +kernel
theorem d_Mo_canHave_135 : decode b_Mo_canHave 135 = .ok (.ifCond .lt 34, 3) := by decide +kernel
theorem d_Mo_canHave_138 : decode b_Mo_canHave 138 = .ok (.aload_n 0, 1) := by decide +kernel
theorem d_Mo_canHave_139 : decode b_Mo_canHave 139 = .ok (.getfield 26, 3) := by decide +kernel
theorem d_Mo_canHave_142 : decode b_Mo_canHave 142 = .ok (.iload_n 3, 1) := by decide +kernel
theorem d_Mo_canHave_143 : decode b_Mo_canHave 143 = .ok (.iaload, 1) := by decide +kernel
theorem d_Mo_canHave_144 : decode b_Mo_canHave 144 = .ok (.iconst 2, 1) := by decide +kernel
theorem d_Mo_canHave_145 : decode b_Mo_canHave 145 = .ok (.irem, 1) := by decide +kernel
theorem d_Mo_canHave_146 : decode b_Mo_canHave 146 = .ok (.ifCond .ne 23, 3) := by decide +kernel
theorem d_Mo_canHave_149 : decode b_Mo_canHave 149 = .ok (.aload_n 0, 1) := by decide +kernel
theorem d_Mo_canHave_150 : decode b_Mo_canHave 150 = .ok (.getfield 7, 3) := by decide +kernel
theorem d_Mo_canHave_153 : decode b_Mo_canHave 153 = .ok (.iload 4, 2) := by decide +kernel
theorem d_Mo_canHave_155 : decode b_Mo_canHave 155 = .ok (.baload, 1) := by decide +kernel
theorem d_Mo_canHave_156 : decode b_Mo_canHave 156 = .ok (.ifCond .ne 13, 3) := by decide +kernel
theorem d_Mo_canHave_159 : decode b_Mo_canHave 159 = .ok (.iload_n 3, 1) := by decide +kernel
theorem d_Mo_canHave_160 : decode b_Mo_canHave 160 = .ok (.iload 4, 2) := by decide +kernel
theorem d_Mo_canHave_162 : decode b_Mo_canHave 162 = .ok (.if_icmp .eq 7, 3) := by decide +kernel
theorem d_Mo_canHave_165 : decode b_Mo_canHave 165 = .ok (.iconst 1, 1) := by decide +kernel
theorem d_Mo_canHave_166 : decode b_Mo_canHave 166 = .ok (.goto 4, 3) := by decide +kernel
theorem d_Mo_canHave_169 : decode b_Mo_canHave 169 = .ok (.iconst 0, 1) := by decide +kernel
theorem d_Mo_canHave_170 : decode b_Mo_canHave 170 = .ok (.ireturn, 1) := by decide +kernel
theorem d_Mo_canHave_171 : decode b_Mo_canHave 171 = .ok (.iconst 1, 1) := by decide +kernel
theorem d_Mo_canHave_172 : decode b_Mo_canHave 172 = .ok (.ireturn, 1) := by decide +kernel

set_option maxHeartbeats 4000000 in
set_option maxRecDepth 100000 in
theorem c_Mo_canHave0 (l : Launch) (D : va_G) (cI cZ cJ cS : ClassId) (aT : Nat) (ceT : Cell) (g0 m_sea m_center m_home m_borders m_owner m_units m_kind m_toX m_toY m_results m_known m_reached m_way m_aside m_origin m_retreats m_contested m_moved m_past : Nat) (n : Nat) (co mp mt msh : Int32) (S : Nat → Bool) (Bo : Nat → Bool) (fu : Nat → Int32) (a : Nat) (x y : Int32)  (h_a : a < 12)  : Met l y_Mo_canHave w_Mo_canHave ({ frames := 2, cells := 0, slots := 0, locals := 45 }) (tP D cI cZ cJ cS aT ceT [.ref g0, .int (nI a), .int 0, .int x, .int y] [(g0, .inr (6, [.int co, .int (nI n), .ref m_sea, .ref m_center, .ref m_home, .ref m_borders, .int mp, .int mt, .ref m_owner, .ref m_units, .ref m_kind, .ref m_toX, .ref m_toY, .ref m_results, .ref m_known, .ref m_reached, .ref m_way, .ref m_aside, .ref m_origin, .ref m_retreats, .ref m_contested, .ref m_moved, .int msh, .ref m_past])), (m_sea, .inl (cZ, 12, .inl (fun j => bI (S j)))), (m_borders, .inl (cZ, 144, .inl (fun j => bI (Bo j)))), (m_units, .inl (cI, 12, .inl fu))]) (vp_Si (fun r => r = bI true)) 0 0 (fun _ => False) := by
  refine Met.ofW (cc := b_Mo_canHave) (maxL := 6) (ret := (some .boolean)) (by decide) rfl ?_
  intro p e s m args below meth c s₁ B hml hv
  obtain ⟨rfl, hP, hK, hX⟩ := hv
  have hx := B.exec
  have hb := B.bytes
  have hr := B.returns
  have hts0 := atoms_spec (ws := w_Mo_canHave) B.pre
  have hts : ∀ w ∈ TB, w.before _ s = true := fun w h => hts0 w (List.mem_cons_of_mem _ h)
  have hown : s.vm.findClass R_Mo = some m.cls := findClass_of_methodNamed B.named
  have hlocks := B.notSynchronized
  have hXH : s.heap[aT]? = s.heap[aT]? := rfl
  have hl := lv_entry ([.ref g0, .int (nI a), .int 0, .int x, .int y]) (n := 6) (Nat.le_of_ble_eq_true rfl)
  rw [lg_entry_eq]
  generalize (lg_sl ([.ref g0, .int (nI a), .int 0, .int x, .int y]) ++ List.replicate (6 - (lg_sl ([.ref g0, .int (nI a), .int 0, .int x, .int y])).length) Slot.unset).toArray = ls at hl ⊢
  have hl : lv_has ls 6 [(0, .ref g0), (1, .int (nI a)), (2, .int 0), (3, .int x), (4, .int y)] := hl
  refine lv_aload_n hx hb d_Mo_canHave_0 rfl (lv_at hl 0 rfl) ?_
  refine va_get (D := D) (ci := 6) (v := .ref m_units) (C := R_Mo) (T := T_Mo) (N := 24) hx hb hts hin_Mo hown hK hP 0 rfl rfl 9 (by decide) (hts _ wd_713) (fun _ h9 => h9) rfl d_Mo_canHave_1 ?_
  refine lv_iload_n hx hb d_Mo_canHave_4 rfl (lv_at hl 1 rfl) ?_
  refine tr_iald (v := fu a) hx hb hK hP 3 0 rfl rfl a h_a (by decide) rfl d_Mo_canHave_5 ?_
  refine lv_istore (lv' := [(5, .int (fu a)), (0, .ref g0), (1, .int (nI a)), (2, .int 0), (3, .int x), (4, .int y)]) hx hb d_Mo_canHave_6 hl (by decide) rfl (fun ls hl => ?_)
  refine lv_iload_n hx hb d_Mo_canHave_8 rfl (lv_at hl 3 rfl) ?_
  refine lv_tableOut (tgt := 171) hx hb d_Mo_canHave_9 (by decide) (by decide) ?_
  refine lv_iconst (v := 1) hx hb d_Mo_canHave_171 (by decide) ?_
  exact W.zret (v := 1) hx hb hr (by decide) (fun t ht hW => ⟨1, rfl, (bI_t (by simp only [] <;> simp [])).symm, ht⟩) (fun q hq => by cases hq) d_Mo_canHave_172


set_option maxHeartbeats 4000000 in
set_option maxRecDepth 100000 in
theorem c_Mo_canHave1 (l : Launch) (D : va_G) (cI cZ cJ cS : ClassId) (aT : Nat) (ceT : Cell) (g0 m_sea m_center m_home m_borders m_owner m_units m_kind m_toX m_toY m_results m_known m_reached m_way m_aside m_origin m_retreats m_contested m_moved m_past : Nat) (n : Nat) (co mp mt msh : Int32) (S : Nat → Bool) (Bo : Nat → Bool) (fu : Nat → Int32) (a : Nat) (x : Nat) (y : Int32)  (h_a : a < 12) (h_x : x < 12)  : Met l y_Mo_canHave w_Mo_canHave ({ frames := 2, cells := 0, slots := 0, locals := 45 }) (tP D cI cZ cJ cS aT ceT [.ref g0, .int (nI a), .int 1, .int (nI x), .int y] [(g0, .inr (6, [.int co, .int (nI n), .ref m_sea, .ref m_center, .ref m_home, .ref m_borders, .int mp, .int mt, .ref m_owner, .ref m_units, .ref m_kind, .ref m_toX, .ref m_toY, .ref m_results, .ref m_known, .ref m_reached, .ref m_way, .ref m_aside, .ref m_origin, .ref m_retreats, .ref m_contested, .ref m_moved, .int msh, .ref m_past])), (m_sea, .inl (cZ, 12, .inl (fun j => bI (S j)))), (m_borders, .inl (cZ, 144, .inl (fun j => bI (Bo j)))), (m_units, .inl (cI, 12, .inl fu))]) (vp_Si (fun r => r = bI (hmR Bo S fu a x))) 0 0 (fun _ => False) := by
  refine Met.ofW (cc := b_Mo_canHave) (maxL := 6) (ret := (some .boolean)) (by decide) rfl ?_
  intro p e s m args below meth c s₁ B hml hv
  obtain ⟨rfl, hP, hK, hX⟩ := hv
  have hx := B.exec
  have hb := B.bytes
  have hr := B.returns
  have hts0 := atoms_spec (ws := w_Mo_canHave) B.pre
  have hts : ∀ w ∈ TB, w.before _ s = true := fun w h => hts0 w (List.mem_cons_of_mem _ h)
  have hown : s.vm.findClass R_Mo = some m.cls := findClass_of_methodNamed B.named
  have hlocks := B.notSynchronized
  have hXH : s.heap[aT]? = s.heap[aT]? := rfl
  have hl := lv_entry ([.ref g0, .int (nI a), .int 1, .int (nI x), .int y]) (n := 6) (Nat.le_of_ble_eq_true rfl)
  rw [lg_entry_eq]
  generalize (lg_sl ([.ref g0, .int (nI a), .int 1, .int (nI x), .int y]) ++ List.replicate (6 - (lg_sl ([.ref g0, .int (nI a), .int 1, .int (nI x), .int y])).length) Slot.unset).toArray = ls at hl ⊢
  have hl : lv_has ls 6 [(0, .ref g0), (1, .int (nI a)), (2, .int 1), (3, .int (nI x)), (4, .int y)] := hl
  refine lv_aload_n hx hb d_Mo_canHave_0 rfl (lv_at hl 0 rfl) ?_
  refine va_get (D := D) (ci := 6) (v := .ref m_units) (C := R_Mo) (T := T_Mo) (N := 24) hx hb hts hin_Mo hown hK hP 0 rfl rfl 9 (by decide) (hts _ wd_713) (fun _ h9 => h9) rfl d_Mo_canHave_1 ?_
  refine lv_iload_n hx hb d_Mo_canHave_4 rfl (lv_at hl 1 rfl) ?_
  refine tr_iald (v := fu a) hx hb hK hP 3 0 rfl rfl a h_a (by decide) rfl d_Mo_canHave_5 ?_
  refine lv_istore (lv' := [(5, .int (fu a)), (0, .ref g0), (1, .int (nI a)), (2, .int 1), (3, .int (nI x)), (4, .int y)]) hx hb d_Mo_canHave_6 hl (by decide) rfl (fun ls hl => ?_)
  refine lv_iload_n hx hb d_Mo_canHave_8 rfl (lv_at hl 3 rfl) ?_
  refine lv_tableIn (off := 27) (tgt := 36) hx hb d_Mo_canHave_9 (by decide) (by decide) rfl (by decide) ?_
  refine lv_iload_n hx hb d_Mo_canHave_36 rfl (lv_at hl 4 rfl) ?_
  refine lv_iload_n hx hb d_Mo_canHave_37 rfl (lv_at hl 2 rfl) ?_
  refine lv_icmp_eq (tgt := 72) hx hb d_Mo_canHave_38 (by decide) (fun hc1 => ?_) (fun hc1 => ?_)
  · -- 38 taken
    have hc1 : x = a := (nI_lit (Nat.lt_trans h_x (by decide)) (Nat.lt_trans h_a (by decide))).mp hc1
    refine lv_iconst (v := 0) hx hb d_Mo_canHave_72 (by decide) ?_
    exact W.zret (v := 0) hx hb hr (by decide) (fun t ht hW => ⟨0, rfl, (bI_f (by simp only [hmR] <;> simp [hc1])).symm, ht⟩) (fun q hq => by cases hq) d_Mo_canHave_73
  · -- 38 not taken
    have hc1 : ¬ x = a := fun h9 => hc1 (congrArg nI h9)
    refine lv_aload_n hx hb d_Mo_canHave_41 rfl (lv_at hl 1 rfl) ?_
    refine lv_iload hx hb d_Mo_canHave_42 (lv_at hl 0 rfl) ?_
    refine lv_iload_n hx hb d_Mo_canHave_44 rfl (lv_at hl 2 rfl) ?_
    refine lv_iload_n hx hb d_Mo_canHave_45 rfl (lv_at hl 4 rfl) ?_
    have hPc := hP.sub (ws' := [(g0, .inr (6, [.int co, .int (nI n), .ref m_sea, .ref m_center, .ref m_home, .ref m_borders, .int mp, .int mt, .ref m_owner, .ref m_units, .ref m_kind, .ref m_toX, .ref m_toY, .ref m_results, .ref m_known, .ref m_reached, .ref m_way, .ref m_aside, .ref m_origin, .ref m_retreats, .ref m_contested, .ref m_moved, .int msh, .ref m_past])), (m_sea, .inl (cZ, 12, .inl (fun j => bI (S j)))), (m_borders, .inl (cZ, 144, .inl (fun j => bI (Bo j))))]) [0, 1, 2] rfl
    refine vp_callSi (va_Run.run (va_runV (As := [.int (fu a), .int (nI a), .int (nI x)]) (rest := []) ⟨hx, hb, hml, hown, hts⟩ (c_Mo_canGo l D cI cZ cJ cS aT ceT  g0 m_sea m_center m_home m_borders m_owner m_units m_kind m_toX m_toY m_results m_known m_reached m_way m_aside m_origin m_retreats m_contested m_moved m_past n co mp mt msh S Bo a x (fu a) h_a h_x) (cwV 3 hts (tb_4 wd_829 wd_831 wp_42 wd_8 (tb_c wd_832)) rfl rfl rfl ⟨rfl, by decide, by decide, by decide +kernel⟩ ⟨Nat.le_of_ble_eq_true rfl, Nat.le_of_ble_eq_true rfl⟩) (tP_V hK hX hXH hPc (q := 0) rfl rfl) rfl rfl hl.1 rfl (lv_room (Nat.le_of_ble_eq_true rfl)) d_Mo_canHave_46 ⟨Nat.le_of_ble_eq_true rfl, Nat.le_of_ble_eq_true rfl⟩)) (fun r2 hr9 => ?_)
    rw [hr9]
    rcases bI_c (cGo Bo S (fu a) a x) with ⟨hb4, e9⟩ | ⟨hb4, e9⟩
    · refine tr_top e9 ?_
      refine lv_if_ne (tgt := 68) hx hb d_Mo_canHave_49 (by decide) (fun _ => ?_) (fun h0 => absurd h0 (by decide))
      refine lv_iconst (v := 1) hx hb d_Mo_canHave_68 (by decide) ?_
      refine lv_goto (tgt := 73) hx hb d_Mo_canHave_69 (by decide) ?_
      exact W.zret (v := 1) hx hb hr (by decide) (fun t ht hW => ⟨1, rfl, (bI_t (by simp only [hmR, hb4] <;> simp [hc1, hb4])).symm, ht⟩) (fun q hq => by cases hq) d_Mo_canHave_73
    · refine tr_top e9 ?_
      refine lv_if_ne (tgt := 68) hx hb d_Mo_canHave_49 (by decide) (fun h0 => absurd (by decide) h0) (fun _ => ?_)
      refine lv_iload hx hb d_Mo_canHave_52 (lv_at hl 0 rfl) ?_
      refine lv_iconst (v := 2) hx hb d_Mo_canHave_54 (by decide) ?_
      refine lv_irem hx hb d_Mo_canHave_55 (by decide) ?_
      refine lv_if_ne (tgt := 72) hx hb d_Mo_canHave_56 (by decide) (fun hc7 => ?_) (fun hc7 => ?_)
      · -- 56 taken
        refine lv_iconst (v := 0) hx hb d_Mo_canHave_72 (by decide) ?_
        exact W.zret (v := 0) hx hb hr (by decide) (fun t ht hW => ⟨0, rfl, (bI_f (by simp only [hmR, hb4] <;> simp [hc1, hb4, hc7])).symm, ht⟩) (fun q hq => by cases hq) d_Mo_canHave_73
      · -- 56 not taken
        refine lv_aload_n hx hb d_Mo_canHave_59 rfl (lv_at hl 1 rfl) ?_
        refine va_get (D := D) (ci := 6) (v := .ref m_sea) (C := R_Mo) (T := T_Mo) (N := 24) hx hb hts hin_Mo hown hK hP 0 rfl rfl 2 (by decide) (hts _ wd_706) (fun _ h9 => h9) rfl d_Mo_canHave_60 ?_
        refine lv_iload_n hx hb d_Mo_canHave_63 rfl (lv_at hl 4 rfl) ?_
        refine tr_zald (v := bI (S x)) hx hb hK hP 1 1 rfl rfl x h_x (by decide) rfl d_Mo_canHave_64 ?_
        rcases bI_c (S x) with ⟨hb9, e9⟩ | ⟨hb9, e9⟩
        · refine tr_top e9 ?_
          refine lv_if_ne (tgt := 72) hx hb d_Mo_canHave_65 (by decide) (fun _ => ?_) (fun h0 => absurd h0 (by decide))
          refine lv_iconst (v := 0) hx hb d_Mo_canHave_72 (by decide) ?_
          exact W.zret (v := 0) hx hb hr (by decide) (fun t ht hW => ⟨0, rfl, (bI_f (by simp only [hmR, hb4, hb9] <;> simp [hc1, hb4, hc7, hb9])).symm, ht⟩) (fun q hq => by cases hq) d_Mo_canHave_73
        · refine tr_top e9 ?_
          refine lv_if_ne (tgt := 72) hx hb d_Mo_canHave_65 (by decide) (fun h0 => absurd (by decide) h0) (fun _ => ?_)
          refine lv_iconst (v := 1) hx hb d_Mo_canHave_68 (by decide) ?_
          refine lv_goto (tgt := 73) hx hb d_Mo_canHave_69 (by decide) ?_
          exact W.zret (v := 1) hx hb hr (by decide) (fun t ht hW => ⟨1, rfl, (bI_t (by simp only [hmR, hb4, hb9] <;> simp [hc1, hb4, hc7, hb9])).symm, ht⟩) (fun q hq => by cases hq) d_Mo_canHave_73


set_option maxHeartbeats 4000000 in
set_option maxRecDepth 100000 in
theorem c_Mo_canHave2 (l : Launch) (D : va_G) (cI cZ cJ cS : ClassId) (aT : Nat) (ceT : Cell) (g0 m_sea m_center m_home m_borders m_owner m_units m_kind m_toX m_toY m_results m_known m_reached m_way m_aside m_origin m_retreats m_contested m_moved m_past : Nat) (n : Nat) (co mp mt msh : Int32) (S : Nat → Bool) (Bo : Nat → Bool) (fu : Nat → Int32) (a : Nat) (x : Nat) (y : Nat)  (h_a : a < 12) (h_x : x < 12) (h_y : y < 12)  : Met l y_Mo_canHave w_Mo_canHave ({ frames := 2, cells := 0, slots := 0, locals := 45 }) (tP D cI cZ cJ cS aT ceT [.ref g0, .int (nI a), .int 2, .int (nI x), .int (nI y)] [(g0, .inr (6, [.int co, .int (nI n), .ref m_sea, .ref m_center, .ref m_home, .ref m_borders, .int mp, .int mt, .ref m_owner, .ref m_units, .ref m_kind, .ref m_toX, .ref m_toY, .ref m_results, .ref m_known, .ref m_reached, .ref m_way, .ref m_aside, .ref m_origin, .ref m_retreats, .ref m_contested, .ref m_moved, .int msh, .ref m_past])), (m_sea, .inl (cZ, 12, .inl (fun j => bI (S j)))), (m_borders, .inl (cZ, 144, .inl (fun j => bI (Bo j)))), (m_units, .inl (cI, 12, .inl fu))]) (vp_Si (fun r => r = bI (hsU Bo S fu a x y))) 0 0 (fun _ => False) := by
  refine Met.ofW (cc := b_Mo_canHave) (maxL := 6) (ret := (some .boolean)) (by decide) rfl ?_
  intro p e s m args below meth c s₁ B hml hv
  obtain ⟨rfl, hP, hK, hX⟩ := hv
  have hx := B.exec
  have hb := B.bytes
  have hr := B.returns
  have hts0 := atoms_spec (ws := w_Mo_canHave) B.pre
  have hts : ∀ w ∈ TB, w.before _ s = true := fun w h => hts0 w (List.mem_cons_of_mem _ h)
  have hown : s.vm.findClass R_Mo = some m.cls := findClass_of_methodNamed B.named
  have hlocks := B.notSynchronized
  have hXH : s.heap[aT]? = s.heap[aT]? := rfl
  have hl := lv_entry ([.ref g0, .int (nI a), .int 2, .int (nI x), .int (nI y)]) (n := 6) (Nat.le_of_ble_eq_true rfl)
  rw [lg_entry_eq]
  generalize (lg_sl ([.ref g0, .int (nI a), .int 2, .int (nI x), .int (nI y)]) ++ List.replicate (6 - (lg_sl ([.ref g0, .int (nI a), .int 2, .int (nI x), .int (nI y)])).length) Slot.unset).toArray = ls at hl ⊢
  have hl : lv_has ls 6 [(0, .ref g0), (1, .int (nI a)), (2, .int 2), (3, .int (nI x)), (4, .int (nI y))] := hl
  refine lv_aload_n hx hb d_Mo_canHave_0 rfl (lv_at hl 0 rfl) ?_
  refine va_get (D := D) (ci := 6) (v := .ref m_units) (C := R_Mo) (T := T_Mo) (N := 24) hx hb hts hin_Mo hown hK hP 0 rfl rfl 9 (by decide) (hts _ wd_713) (fun _ h9 => h9) rfl d_Mo_canHave_1 ?_
  refine lv_iload_n hx hb d_Mo_canHave_4 rfl (lv_at hl 1 rfl) ?_
  refine tr_iald (v := fu a) hx hb hK hP 3 0 rfl rfl a h_a (by decide) rfl d_Mo_canHave_5 ?_
  refine lv_istore (lv' := [(5, .int (fu a)), (0, .ref g0), (1, .int (nI a)), (2, .int 2), (3, .int (nI x)), (4, .int (nI y))]) hx hb d_Mo_canHave_6 hl (by decide) rfl (fun ls hl => ?_)
  refine lv_iload_n hx hb d_Mo_canHave_8 rfl (lv_at hl 3 rfl) ?_
  refine lv_tableIn (off := 65) (tgt := 74) hx hb d_Mo_canHave_9 (by decide) (by decide) rfl (by decide) ?_
  refine lv_iload_n hx hb d_Mo_canHave_74 rfl (lv_at hl 4 rfl) ?_
  refine lv_iload_n hx hb d_Mo_canHave_75 rfl (lv_at hl 2 rfl) ?_
  refine lv_icmp_eq (tgt := 110) hx hb d_Mo_canHave_76 (by decide) (fun hc1 => ?_) (fun hc1 => ?_)
  · -- 76 taken
    have hc1 : x = a := (nI_lit (Nat.lt_trans h_x (by decide)) (Nat.lt_trans h_a (by decide))).mp hc1
    refine lv_iconst (v := 0) hx hb d_Mo_canHave_110 (by decide) ?_
    exact W.zret (v := 0) hx hb hr (by decide) (fun t ht hW => ⟨0, rfl, (bI_f (by simp only [hsU] <;> simp [hc1])).symm, ht⟩) (fun q hq => by cases hq) d_Mo_canHave_111
  · -- 76 not taken
    have hc1 : ¬ x = a := fun h9 => hc1 (congrArg nI h9)
    refine lv_iload hx hb d_Mo_canHave_79 (lv_at hl 5 rfl) ?_
    refine lv_iload_n hx hb d_Mo_canHave_81 rfl (lv_at hl 2 rfl) ?_
    refine lv_icmp_eq (tgt := 110) hx hb d_Mo_canHave_82 (by decide) (fun hc2 => ?_) (fun hc2 => ?_)
    · -- 82 taken
      have hc2 : y = a := (nI_lit (Nat.lt_trans h_y (by decide)) (Nat.lt_trans h_a (by decide))).mp hc2
      refine lv_iconst (v := 0) hx hb d_Mo_canHave_110 (by decide) ?_
      exact W.zret (v := 0) hx hb hr (by decide) (fun t ht hW => ⟨0, rfl, (bI_f (by simp only [hsU] <;> simp [hc1, hc2])).symm, ht⟩) (fun q hq => by cases hq) d_Mo_canHave_111
    · -- 82 not taken
      have hc2 : ¬ y = a := fun h9 => hc2 (congrArg nI h9)
      refine lv_aload_n hx hb d_Mo_canHave_85 rfl (lv_at hl 1 rfl) ?_
      refine lv_iload hx hb d_Mo_canHave_86 (lv_at hl 0 rfl) ?_
      refine lv_iload_n hx hb d_Mo_canHave_88 rfl (lv_at hl 2 rfl) ?_
      refine lv_iload hx hb d_Mo_canHave_89 (lv_at hl 5 rfl) ?_
      have hPc := hP.sub (ws' := [(g0, .inr (6, [.int co, .int (nI n), .ref m_sea, .ref m_center, .ref m_home, .ref m_borders, .int mp, .int mt, .ref m_owner, .ref m_units, .ref m_kind, .ref m_toX, .ref m_toY, .ref m_results, .ref m_known, .ref m_reached, .ref m_way, .ref m_aside, .ref m_origin, .ref m_retreats, .ref m_contested, .ref m_moved, .int msh, .ref m_past])), (m_sea, .inl (cZ, 12, .inl (fun j => bI (S j)))), (m_borders, .inl (cZ, 144, .inl (fun j => bI (Bo j))))]) [0, 1, 2] rfl
      refine vp_callSi (va_Run.run (va_runV (As := [.int (fu a), .int (nI a), .int (nI y)]) (rest := []) ⟨hx, hb, hml, hown, hts⟩ (c_Mo_canGo l D cI cZ cJ cS aT ceT  g0 m_sea m_center m_home m_borders m_owner m_units m_kind m_toX m_toY m_results m_known m_reached m_way m_aside m_origin m_retreats m_contested m_moved m_past n co mp mt msh S Bo a y (fu a) h_a h_y) (cwV 3 hts (tb_4 wd_829 wd_831 wp_42 wd_8 (tb_c wd_832)) rfl rfl rfl ⟨rfl, by decide, by decide, by decide +kernel⟩ ⟨Nat.le_of_ble_eq_true rfl, Nat.le_of_ble_eq_true rfl⟩) (tP_V hK hX hXH hPc (q := 0) rfl rfl) rfl rfl hl.1 rfl (lv_room (Nat.le_of_ble_eq_true rfl)) d_Mo_canHave_91 ⟨Nat.le_of_ble_eq_true rfl, Nat.le_of_ble_eq_true rfl⟩)) (fun r3 hr9 => ?_)
      rw [hr9]
      rcases bI_c (cGo Bo S (fu a) a y) with ⟨hb5, e9⟩ | ⟨hb5, e9⟩
      · refine tr_top e9 ?_
        refine lv_if_eq (tgt := 110) hx hb d_Mo_canHave_94 (by decide) (fun h0 => absurd h0 (by decide)) (fun _ => ?_)
        refine lv_aload_n hx hb d_Mo_canHave_97 rfl (lv_at hl 1 rfl) ?_
        refine va_get (D := D) (ci := 6) (v := .ref m_units) (C := R_Mo) (T := T_Mo) (N := 24) hx hb hts hin_Mo hown hK hP 0 rfl rfl 9 (by decide) (hts _ wd_713) (fun _ h9 => h9) rfl d_Mo_canHave_98 ?_
        refine lv_iload_n hx hb d_Mo_canHave_101 rfl (lv_at hl 4 rfl) ?_
        refine tr_iald (v := fu x) hx hb hK hP 3 0 rfl rfl x h_x (by decide) rfl d_Mo_canHave_102 ?_
        refine lv_if_lt (tgt := 110) hx hb d_Mo_canHave_103 (by decide) (fun hc7 => ?_) (fun hc7 => ?_)
        · -- 103 taken
          refine lv_iconst (v := 0) hx hb d_Mo_canHave_110 (by decide) ?_
          exact W.zret (v := 0) hx hb hr (by decide) (fun t ht hW => ⟨0, rfl, (bI_f (by simp only [hsU, hb5] <;> simp [hc1, hc2, hb5, hc7])).symm, ht⟩) (fun q hq => by cases hq) d_Mo_canHave_111
        · -- 103 not taken
          refine lv_iconst (v := 1) hx hb d_Mo_canHave_106 (by decide) ?_
          refine lv_goto (tgt := 111) hx hb d_Mo_canHave_107 (by decide) ?_
          exact W.zret (v := 1) hx hb hr (by decide) (fun t ht hW => ⟨1, rfl, (bI_t (by simp only [hsU, hb5] <;> simp [hc1, hc2, hb5, hc7])).symm, ht⟩) (fun q hq => by cases hq) d_Mo_canHave_111
      · refine tr_top e9 ?_
        refine lv_if_eq (tgt := 110) hx hb d_Mo_canHave_94 (by decide) (fun _ => ?_) (fun h0 => absurd (by decide) h0)
        refine lv_iconst (v := 0) hx hb d_Mo_canHave_110 (by decide) ?_
        exact W.zret (v := 0) hx hb hr (by decide) (fun t ht hW => ⟨0, rfl, (bI_f (by simp only [hsU, hb5] <;> simp [hc1, hc2, hb5])).symm, ht⟩) (fun q hq => by cases hq) d_Mo_canHave_111


set_option maxHeartbeats 4000000 in
set_option maxRecDepth 100000 in
theorem c_Mo_canHave3 (l : Launch) (D : va_G) (cI cZ cJ cS : ClassId) (aT : Nat) (ceT : Cell) (g0 m_sea m_center m_home m_borders m_owner m_units m_kind m_toX m_toY m_results m_known m_reached m_way m_aside m_origin m_retreats m_contested m_moved m_past : Nat) (n : Nat) (co mp mt msh : Int32) (S : Nat → Bool) (Bo : Nat → Bool) (fu : Nat → Int32) (a : Nat) (x : Nat) (y : Nat)  (h_a : a < 12) (h_x : x < 12) (h_y : y < 12)  : Met l y_Mo_canHave w_Mo_canHave ({ frames := 2, cells := 0, slots := 0, locals := 45 }) (tP D cI cZ cJ cS aT ceT [.ref g0, .int (nI a), .int 3, .int (nI x), .int (nI y)] [(g0, .inr (6, [.int co, .int (nI n), .ref m_sea, .ref m_center, .ref m_home, .ref m_borders, .int mp, .int mt, .ref m_owner, .ref m_units, .ref m_kind, .ref m_toX, .ref m_toY, .ref m_results, .ref m_known, .ref m_reached, .ref m_way, .ref m_aside, .ref m_origin, .ref m_retreats, .ref m_contested, .ref m_moved, .int msh, .ref m_past])), (m_sea, .inl (cZ, 12, .inl (fun j => bI (S j)))), (m_borders, .inl (cZ, 144, .inl (fun j => bI (Bo j)))), (m_units, .inl (cI, 12, .inl fu))]) (vp_Si (fun r => r = bI (hcR S fu a x y))) 0 0 (fun _ => False) := by
  refine Met.ofW (cc := b_Mo_canHave) (maxL := 6) (ret := (some .boolean)) (by decide) rfl ?_
  intro p e s m args below meth c s₁ B hml hv
  obtain ⟨rfl, hP, hK, hX⟩ := hv
  have hx := B.exec
  have hb := B.bytes
  have hr := B.returns
  have hts0 := atoms_spec (ws := w_Mo_canHave) B.pre
  have hts : ∀ w ∈ TB, w.before _ s = true := fun w h => hts0 w (List.mem_cons_of_mem _ h)
  have hown : s.vm.findClass R_Mo = some m.cls := findClass_of_methodNamed B.named
  have hlocks := B.notSynchronized
  have hXH : s.heap[aT]? = s.heap[aT]? := rfl
  have hl := lv_entry ([.ref g0, .int (nI a), .int 3, .int (nI x), .int (nI y)]) (n := 6) (Nat.le_of_ble_eq_true rfl)
  rw [lg_entry_eq]
  generalize (lg_sl ([.ref g0, .int (nI a), .int 3, .int (nI x), .int (nI y)]) ++ List.replicate (6 - (lg_sl ([.ref g0, .int (nI a), .int 3, .int (nI x), .int (nI y)])).length) Slot.unset).toArray = ls at hl ⊢
  have hl : lv_has ls 6 [(0, .ref g0), (1, .int (nI a)), (2, .int 3), (3, .int (nI x)), (4, .int (nI y))] := hl
  refine lv_aload_n hx hb d_Mo_canHave_0 rfl (lv_at hl 0 rfl) ?_
  refine va_get (D := D) (ci := 6) (v := .ref m_units) (C := R_Mo) (T := T_Mo) (N := 24) hx hb hts hin_Mo hown hK hP 0 rfl rfl 9 (by decide) (hts _ wd_713) (fun _ h9 => h9) rfl d_Mo_canHave_1 ?_
  refine lv_iload_n hx hb d_Mo_canHave_4 rfl (lv_at hl 1 rfl) ?_
  refine tr_iald (v := fu a) hx hb hK hP 3 0 rfl rfl a h_a (by decide) rfl d_Mo_canHave_5 ?_
  refine lv_istore (lv' := [(5, .int (fu a)), (0, .ref g0), (1, .int (nI a)), (2, .int 3), (3, .int (nI x)), (4, .int (nI y))]) hx hb d_Mo_canHave_6 hl (by decide) rfl (fun ls hl => ?_)
  refine lv_iload_n hx hb d_Mo_canHave_8 rfl (lv_at hl 3 rfl) ?_
  refine lv_tableIn (off := 103) (tgt := 112) hx hb d_Mo_canHave_9 (by decide) (by decide) rfl (by decide) ?_
  refine lv_iload hx hb d_Mo_canHave_112 (lv_at hl 0 rfl) ?_
  refine lv_iconst (v := 2) hx hb d_Mo_canHave_114 (by decide) ?_
  refine lv_irem hx hb d_Mo_canHave_115 (by decide) ?_
  refine lv_iconst (v := 1) hx hb d_Mo_canHave_116 (by decide) ?_
  refine lv_icmp_ne (tgt := 169) hx hb d_Mo_canHave_117 (by decide) (fun hc1 => ?_) (fun hc1 => ?_)
  · -- 117 taken
    refine lv_iconst (v := 0) hx hb d_Mo_canHave_169 (by decide) ?_
    exact W.zret (v := 0) hx hb hr (by decide) (fun t ht hW => ⟨0, rfl, (bI_f (by simp only [hcR] <;> simp [hc1])).symm, ht⟩) (fun q hq => by cases hq) d_Mo_canHave_170
  · -- 117 not taken
    refine lv_aload_n hx hb d_Mo_canHave_120 rfl (lv_at hl 1 rfl) ?_
    refine va_get (D := D) (ci := 6) (v := .ref m_sea) (C := R_Mo) (T := T_Mo) (N := 24) hx hb hts hin_Mo hown hK hP 0 rfl rfl 2 (by decide) (hts _ wd_706) (fun _ h9 => h9) rfl d_Mo_canHave_121 ?_
    refine lv_iload_n hx hb d_Mo_canHave_124 rfl (lv_at hl 2 rfl) ?_
    refine tr_zald (v := bI (S a)) hx hb hK hP 1 1 rfl rfl a h_a (by decide) rfl d_Mo_canHave_125 ?_
    rcases bI_c (S a) with ⟨hb3, e9⟩ | ⟨hb3, e9⟩
    · refine tr_top e9 ?_
      refine lv_if_eq (tgt := 169) hx hb d_Mo_canHave_126 (by decide) (fun h0 => absurd h0 (by decide)) (fun _ => ?_)
      refine lv_aload_n hx hb d_Mo_canHave_129 rfl (lv_at hl 1 rfl) ?_
      refine va_get (D := D) (ci := 6) (v := .ref m_units) (C := R_Mo) (T := T_Mo) (N := 24) hx hb hts hin_Mo hown hK hP 0 rfl rfl 9 (by decide) (hts _ wd_713) (fun _ h9 => h9) rfl d_Mo_canHave_130 ?_
      refine lv_iload_n hx hb d_Mo_canHave_133 rfl (lv_at hl 4 rfl) ?_
      refine tr_iald (v := fu x) hx hb hK hP 3 0 rfl rfl x h_x (by decide) rfl d_Mo_canHave_134 ?_
      refine lv_if_lt (tgt := 169) hx hb d_Mo_canHave_135 (by decide) (fun hc5 => ?_) (fun hc5 => ?_)
      · -- 135 taken
        refine lv_iconst (v := 0) hx hb d_Mo_canHave_169 (by decide) ?_
        exact W.zret (v := 0) hx hb hr (by decide) (fun t ht hW => ⟨0, rfl, (bI_f (by simp only [hcR, hb3] <;> simp [hc1, hb3, hc5])).symm, ht⟩) (fun q hq => by cases hq) d_Mo_canHave_170
      · -- 135 not taken
        refine lv_aload_n hx hb d_Mo_canHave_138 rfl (lv_at hl 1 rfl) ?_
        refine va_get (D := D) (ci := 6) (v := .ref m_units) (C := R_Mo) (T := T_Mo) (N := 24) hx hb hts hin_Mo hown hK hP 0 rfl rfl 9 (by decide) (hts _ wd_713) (fun _ h9 => h9) rfl d_Mo_canHave_139 ?_
        refine lv_iload_n hx hb d_Mo_canHave_142 rfl (lv_at hl 4 rfl) ?_
        refine tr_iald (v := fu x) hx hb hK hP 3 0 rfl rfl x h_x (by decide) rfl d_Mo_canHave_143 ?_
        refine lv_iconst (v := 2) hx hb d_Mo_canHave_144 (by decide) ?_
        refine lv_irem hx hb d_Mo_canHave_145 (by decide) ?_
        refine lv_if_ne (tgt := 169) hx hb d_Mo_canHave_146 (by decide) (fun hc6 => ?_) (fun hc6 => ?_)
        · -- 146 taken
          refine lv_iconst (v := 0) hx hb d_Mo_canHave_169 (by decide) ?_
          exact W.zret (v := 0) hx hb hr (by decide) (fun t ht hW => ⟨0, rfl, (bI_f (by simp only [hcR, hb3] <;> simp [hc1, hb3, hc5, hc6])).symm, ht⟩) (fun q hq => by cases hq) d_Mo_canHave_170
        · -- 146 not taken
          refine lv_aload_n hx hb d_Mo_canHave_149 rfl (lv_at hl 1 rfl) ?_
          refine va_get (D := D) (ci := 6) (v := .ref m_sea) (C := R_Mo) (T := T_Mo) (N := 24) hx hb hts hin_Mo hown hK hP 0 rfl rfl 2 (by decide) (hts _ wd_706) (fun _ h9 => h9) rfl d_Mo_canHave_150 ?_
          refine lv_iload hx hb d_Mo_canHave_153 (lv_at hl 5 rfl) ?_
          refine tr_zald (v := bI (S y)) hx hb hK hP 1 1 rfl rfl y h_y (by decide) rfl d_Mo_canHave_155 ?_
          rcases bI_c (S y) with ⟨hb8, e9⟩ | ⟨hb8, e9⟩
          · refine tr_top e9 ?_
            refine lv_if_ne (tgt := 169) hx hb d_Mo_canHave_156 (by decide) (fun _ => ?_) (fun h0 => absurd h0 (by decide))
            refine lv_iconst (v := 0) hx hb d_Mo_canHave_169 (by decide) ?_
            exact W.zret (v := 0) hx hb hr (by decide) (fun t ht hW => ⟨0, rfl, (bI_f (by simp only [hcR, hb3, hb8] <;> simp [hc1, hb3, hc5, hc6, hb8])).symm, ht⟩) (fun q hq => by cases hq) d_Mo_canHave_170
          · refine tr_top e9 ?_
            refine lv_if_ne (tgt := 169) hx hb d_Mo_canHave_156 (by decide) (fun h0 => absurd (by decide) h0) (fun _ => ?_)
            refine lv_iload_n hx hb d_Mo_canHave_159 rfl (lv_at hl 4 rfl) ?_
            refine lv_iload hx hb d_Mo_canHave_160 (lv_at hl 5 rfl) ?_
            refine lv_icmp_eq (tgt := 169) hx hb d_Mo_canHave_162 (by decide) (fun hc11 => ?_) (fun hc11 => ?_)
            · -- 162 taken
              have hc11 : x = y := (nI_lit (Nat.lt_trans h_x (by decide)) (Nat.lt_trans h_y (by decide))).mp hc11
              refine lv_iconst (v := 0) hx hb d_Mo_canHave_169 (by decide) ?_
              exact W.zret (v := 0) hx hb hr (by decide) (fun t ht hW => ⟨0, rfl, (bI_f (by simp only [hcR, hb3, hb8] <;> simp [hc1, hb3, hc5, hc6, hb8, hc11])).symm, ht⟩) (fun q hq => by cases hq) d_Mo_canHave_170
            · -- 162 not taken
              have hc11 : ¬ x = y := fun h9 => hc11 (congrArg nI h9)
              refine lv_iconst (v := 1) hx hb d_Mo_canHave_165 (by decide) ?_
              refine lv_goto (tgt := 170) hx hb d_Mo_canHave_166 (by decide) ?_
              exact W.zret (v := 1) hx hb hr (by decide) (fun t ht hW => ⟨1, rfl, (bI_t (by simp only [hcR, hb3, hb8] <;> simp [hc1, hb3, hc5, hc6, hb8, hc11])).symm, ht⟩) (fun q hq => by cases hq) d_Mo_canHave_170
    · refine tr_top e9 ?_
      refine lv_if_eq (tgt := 169) hx hb d_Mo_canHave_126 (by decide) (fun _ => ?_) (fun h0 => absurd (by decide) h0)
      refine lv_iconst (v := 0) hx hb d_Mo_canHave_169 (by decide) ?_
      exact W.zret (v := 0) hx hb hr (by decide) (fun t ht hW => ⟨0, rfl, (bI_f (by simp only [hcR, hb3] <;> simp [hc1, hb3])).symm, ht⟩) (fun q hq => by cases hq) d_Mo_canHave_170

theorem wd_828 : (Cond.code ({ cls := "SheetWarModel", name := "canHave", desc := "(IIII)Z" } : MethodName) prog_8_method_14_code (6 : Nat) (Option.some FieldType.boolean)) ∈ TB := tb_t 828 (by decide +kernel) (by decide +kernel)
theorem wd_825 : (Cond.methodLink "SheetWarModel" (105 : Nat) ({ cls := "SheetWarModel", name := "canHave", desc := "(IIII)Z" } : MethodName)) ∈ TB := tb_t 825 (by decide +kernel) (by decide +kernel)
theorem wd_827 : (Cond.instanceMethod ({ cls := "SheetWarModel", name := "canHave", desc := "(IIII)Z" } : MethodName)) ∈ TB := tb_t 827 (by decide +kernel) (by decide +kernel)
theorem wp_41 : Cond.selects "SheetWarModel" ⟨"SheetWarModel", "canHave", "(IIII)Z"⟩ ⟨"SheetWarModel", "canHave", "(IIII)Z"⟩ ∈ TB := tb_p 41 (by decide +kernel) (by decide +kernel)
set_option maxHeartbeats 4000000 in
set_option maxRecDepth 100000 in
theorem c_Mo_order0 (l : Launch) (D : va_G) (cI cZ cJ cS : ClassId) (aT : Nat) (ceT : Cell) (sz : Nat) (g0 m_sea m_center m_home m_borders m_owner m_units m_kind m_toX m_toY m_results m_known m_reached m_way m_aside m_origin m_retreats m_contested m_moved m_past : Nat) (n : Nat) (co mt msh : Int32) (S : Nat → Bool) (Bo : Nat → Bool) (fu : Nat → Int32) (Kd : Nat → Nat) (X : Nat → Nat) (Y : Nat → Nat) (p9 a : Nat) (x y : Int32) (hKd : ∀ j, Kd j < 4) (hX9 : ∀ j, X j < 12) (hY9 : ∀ j, Y j < 12) (hn : n ≤ 12) (h_a : a < n) (h_p : p9 < 4) : Met l y_Mo_order w_Mo_order ({ frames := 3, cells := 0, slots := 0, locals := 70 }) (tH D cI cZ cJ cS aT ceT [.ref g0, .int (nI p9), .int (nI a), .int 0, .int x, .int y] sz [(g0, .inr (6, [.int co, .int (nI n), .ref m_sea, .ref m_center, .ref m_home, .ref m_borders, .int 1, .int mt, .ref m_owner, .ref m_units, .ref m_kind, .ref m_toX, .ref m_toY, .ref m_results, .ref m_known, .ref m_reached, .ref m_way, .ref m_aside, .ref m_origin, .ref m_retreats, .ref m_contested, .ref m_moved, .int msh, .ref m_past])), (m_sea, .inl (cZ, 12, .inl (fun j => bI (S j)))), (m_borders, .inl (cZ, 144, .inl (fun j => bI (Bo j)))), (m_units, .inl (cI, 12, .inl fu)), (m_kind, .inl (cI, 12, .inl (fun j => nI (Kd j)))), (m_toX, .inl (cI, 12, .inl (fun j => nI (X j)))), (m_toY, .inl (cI, 12, .inl (fun j => nI (Y j))))]) (va_Qi (fun (r : Int32) (_ : Unit) => r = nI (odR (!decide (fu a < 0) && decide (fu a / 2 = nI p9)) (true))) (fun _ t => tB D (va_A [(g0, .inr (6, [.int co, .int (nI n), .ref m_sea, .ref m_center, .ref m_home, .ref m_borders, .int 1, .int mt, .ref m_owner, .ref m_units, .ref m_kind, .ref m_toX, .ref m_toY, .ref m_results, .ref m_known, .ref m_reached, .ref m_way, .ref m_aside, .ref m_origin, .ref m_retreats, .ref m_contested, .ref m_moved, .int msh, .ref m_past])), (m_sea, .inl (cZ, 12, .inl (fun j => bI (S j)))), (m_borders, .inl (cZ, 144, .inl (fun j => bI (Bo j)))), (m_units, .inl (cI, 12, .inl fu)), (m_kind, .inl (cI, 12, .inl (fun j => nI (Kd j)))), (m_toX, .inl (cI, 12, .inl (fun j => nI (X j)))), (m_toY, .inl (cI, 12, .inl (fun j => nI (Y j))))] sz) [(g0, .inr (6, [.int 0, .int (nI n), .ref m_sea, .ref m_center, .ref m_home, .ref m_borders, .int 1, .int mt, .ref m_owner, .ref m_units, .ref m_kind, .ref m_toX, .ref m_toY, .ref m_results, .ref m_known, .ref m_reached, .ref m_way, .ref m_aside, .ref m_origin, .ref m_retreats, .ref m_contested, .ref m_moved, .int msh, .ref m_past])), (m_sea, .inl (cZ, 12, .inl (fun j => bI (S j)))), (m_borders, .inl (cZ, 144, .inl (fun j => bI (Bo j)))), (m_units, .inl (cI, 12, .inl fu)), (m_kind, .inl (cI, 12, .inl (fun j => nI (okN (odR (!decide (fu a < 0) && decide (fu a / 2 = nI p9)) (true)) Kd a 0 j)))), (m_toX, .inl (cI, 12, .inl (fun j => nI (okN (odR (!decide (fu a < 0) && decide (fu a / 2 = nI p9)) (true)) X a 0 j)))), (m_toY, .inl (cI, 12, .inl (fun j => nI (okN (odR (!decide (fu a < 0) && decide (fu a / 2 = nI p9)) (true)) Y a 0 j))))] t) (va_A [(g0, .inr (6, [.int co, .int (nI n), .ref m_sea, .ref m_center, .ref m_home, .ref m_borders, .int 1, .int mt, .ref m_owner, .ref m_units, .ref m_kind, .ref m_toX, .ref m_toY, .ref m_results, .ref m_known, .ref m_reached, .ref m_way, .ref m_aside, .ref m_origin, .ref m_retreats, .ref m_contested, .ref m_moved, .int msh, .ref m_past])), (m_sea, .inl (cZ, 12, .inl (fun j => bI (S j)))), (m_borders, .inl (cZ, 144, .inl (fun j => bI (Bo j)))), (m_units, .inl (cI, 12, .inl fu)), (m_kind, .inl (cI, 12, .inl (fun j => nI (Kd j)))), (m_toX, .inl (cI, 12, .inl (fun j => nI (X j)))), (m_toY, .inl (cI, 12, .inl (fun j => nI (Y j))))] sz)) 0 0 (va_A [(g0, .inr (6, [.int co, .int (nI n), .ref m_sea, .ref m_center, .ref m_home, .ref m_borders, .int 1, .int mt, .ref m_owner, .ref m_units, .ref m_kind, .ref m_toX, .ref m_toY, .ref m_results, .ref m_known, .ref m_reached, .ref m_way, .ref m_aside, .ref m_origin, .ref m_retreats, .ref m_contested, .ref m_moved, .int msh, .ref m_past])), (m_sea, .inl (cZ, 12, .inl (fun j => bI (S j)))), (m_borders, .inl (cZ, 144, .inl (fun j => bI (Bo j)))), (m_units, .inl (cI, 12, .inl fu)), (m_kind, .inl (cI, 12, .inl (fun j => nI (Kd j)))), (m_toX, .inl (cI, 12, .inl (fun j => nI (X j)))), (m_toY, .inl (cI, 12, .inl (fun j => nI (Y j))))] sz) := by
  refine Met.ofW (cc := b_Mo_order) (maxL := 7) (ret := (some .int)) (by decide) rfl ?_
  intro p e s m args below meth c s₁ B hml hv
  obtain ⟨rfl, hsz, hP, hK, hD0, hX⟩ := hv
  have hx := B.exec
  have hb := B.bytes
  have hr := B.returns
  have hts0 := atoms_spec (ws := w_Mo_order) B.pre
  have hts : ∀ w ∈ TB, w.before _ s = true := fun w h => hts0 w (List.mem_cons_of_mem _ h)
  have hown : s.vm.findClass R_Mo = some m.cls := findClass_of_methodNamed B.named
  have hlocks := B.notSynchronized
  subst hsz
  have hXl := tx_lt hX
  have hXn := tx_far hP hX
  have hD := hD0.self (sz := s.heap.size)
  generalize hAe : va_A [(g0, .inr (6, [.int co, .int (nI n), .ref m_sea, .ref m_center, .ref m_home, .ref m_borders, .int 1, .int mt, .ref m_owner, .ref m_units, .ref m_kind, .ref m_toX, .ref m_toY, .ref m_results, .ref m_known, .ref m_reached, .ref m_way, .ref m_aside, .ref m_origin, .ref m_retreats, .ref m_contested, .ref m_moved, .int msh, .ref m_past])), (m_sea, .inl (cZ, 12, .inl (fun j => bI (S j)))), (m_borders, .inl (cZ, 144, .inl (fun j => bI (Bo j)))), (m_units, .inl (cI, 12, .inl fu)), (m_kind, .inl (cI, 12, .inl (fun j => nI (Kd j)))), (m_toX, .inl (cI, 12, .inl (fun j => nI (X j)))), (m_toY, .inl (cI, 12, .inl (fun j => nI (Y j))))] s.heap.size = A at hD hXn ⊢
  have hA : ∀ q : Nat, s.heap.size ≤ q → A q := fun q h => by rw [← hAe]; exact Or.inr h
  have hS : va_S A s.heap s.heap [] := va_S.rf
  have hXH : s.heap[aT]? = s.heap[aT]? := rfl
  have hl := lv_entry ([.ref g0, .int (nI p9), .int (nI a), .int 0, .int x, .int y]) (n := 7) (Nat.le_of_ble_eq_true rfl)
  rw [lg_entry_eq]
  generalize (lg_sl ([.ref g0, .int (nI p9), .int (nI a), .int 0, .int x, .int y]) ++ List.replicate (7 - (lg_sl ([.ref g0, .int (nI p9), .int (nI a), .int 0, .int x, .int y])).length) Slot.unset).toArray = ls at hl ⊢
  have hl : lv_has ls 7 [(0, .ref g0), (1, .int (nI p9)), (2, .int (nI a)), (3, .int 0), (4, .int x), (5, .int y)] := hl
  refine lv_iload_n hx hb d_Mo_order_0 rfl (lv_at hl 3 rfl) ?_
  refine lv_iconst (v := 1) hx hb d_Mo_order_1 (by decide) ?_
  refine lv_icmp_lt (tgt := 19) hx hb d_Mo_order_2 (by decide) (fun _ => ?_) (fun h0 => absurd (by decide) h0)
  refine lv_iload_n hx hb d_Mo_order_19 rfl (lv_at hl 3 rfl) ?_
  refine lv_iconst (v := 2) hx hb d_Mo_order_20 (by decide) ?_
  refine lv_icmp_lt (tgt := 38) hx hb d_Mo_order_21 (by decide) (fun _ => ?_) (fun h0 => absurd (by decide) h0)
  refine lv_iconst (v := 1) hx hb d_Mo_order_38 (by decide) ?_
  refine lv_goto (tgt := 43) hx hb d_Mo_order_39 (by decide) ?_
  refine lv_istore (lv' := [(6, .int 1), (0, .ref g0), (1, .int (nI p9)), (2, .int (nI a)), (3, .int 0), (4, .int x), (5, .int y)]) hx hb d_Mo_order_43 hl (by decide) rfl (fun ls hl => ?_)
  refine lv_aload_n hx hb d_Mo_order_45 rfl (lv_at hl 1 rfl) ?_
  refine lv_iload_n hx hb d_Mo_order_46 rfl (lv_at hl 2 rfl) ?_
  have hPc := hP.sub (ws' := []) [] rfl
  refine vp_callSi (va_Run.run (va_runS (As := [.int (nI p9)]) (rest := [.ref g0]) ⟨hx, hb, hml, hown, hts⟩ (c_Mo_isPlayerY l D cI cZ cJ cS aT ceT  p9 h_p) (va_cwS 1 hts (tb_3 wd_802 wd_803 wd_8 (tb_c wd_804)) rfl rfl rfl ⟨by decide, by decide, by decide +kernel⟩ ⟨Nat.le_of_ble_eq_true rfl, Nat.le_of_ble_eq_true rfl⟩) (tP_S hK hX (hS.2.1 aT hXl hXn) hPc) rfl rfl hl.1 rfl (lv_room (Nat.le_of_ble_eq_true rfl)) d_Mo_order_47 ⟨Nat.le_of_ble_eq_true rfl, Nat.le_of_ble_eq_true rfl⟩)) (fun r3 hr9 => ?_)
  rw [hr9]
  refine lv_if_eq (tgt := 75) hx hb d_Mo_order_50 (by decide) (fun h0 => absurd h0 (by decide)) (fun _ => ?_)
  refine lv_aload_n hx hb d_Mo_order_53 rfl (lv_at hl 1 rfl) ?_
  refine lv_iload_n hx hb d_Mo_order_54 rfl (lv_at hl 3 rfl) ?_
  have hPc := hP.sub (ws' := [(g0, .inr (6, [.int co, .int (nI n), .ref m_sea, .ref m_center, .ref m_home, .ref m_borders, .int 1, .int mt, .ref m_owner, .ref m_units, .ref m_kind, .ref m_toX, .ref m_toY, .ref m_results, .ref m_known, .ref m_reached, .ref m_way, .ref m_aside, .ref m_origin, .ref m_retreats, .ref m_contested, .ref m_moved, .int msh, .ref m_past]))]) [0] rfl
  refine vp_callSi (va_Run.run (va_runV (As := [.int (nI a)]) (rest := [.ref g0]) ⟨hx, hb, hml, hown, hts⟩ (c_Mo_isAreaY l D cI cZ cJ cS aT ceT  g0 m_sea m_center m_home m_borders m_owner m_units m_kind m_toX m_toY m_results m_known m_reached m_way m_aside m_origin m_retreats m_contested m_moved m_past n co 1 mt msh a hn h_a) (cwV 1 hts (tb_4 wd_790 wd_792 wp_36 wd_8 (tb_c wd_793)) rfl rfl rfl ⟨rfl, by decide, by decide, by decide +kernel⟩ ⟨Nat.le_of_ble_eq_true rfl, Nat.le_of_ble_eq_true rfl⟩) (tP_V hK hX (hS.2.1 aT hXl hXn) hPc (q := 0) rfl rfl) rfl rfl hl.1 rfl (lv_room (Nat.le_of_ble_eq_true rfl)) d_Mo_order_55 ⟨Nat.le_of_ble_eq_true rfl, Nat.le_of_ble_eq_true rfl⟩)) (fun r5 hr9 => ?_)
  rw [hr9]
  refine lv_if_eq (tgt := 75) hx hb d_Mo_order_58 (by decide) (fun h0 => absurd h0 (by decide)) (fun _ => ?_)
  refine lv_iload_n hx hb d_Mo_order_61 rfl (lv_at hl 4 rfl) ?_
  refine lv_if_lt (tgt := 75) hx hb d_Mo_order_62 (by decide) (fun h0 => absurd h0 (by decide)) (fun _ => ?_)
  refine lv_iload_n hx hb d_Mo_order_65 rfl (lv_at hl 4 rfl) ?_
  refine lv_iconst (v := 3) hx hb d_Mo_order_66 (by decide) ?_
  refine lv_icmp_gt (tgt := 75) hx hb d_Mo_order_67 (by decide) (fun h0 => absurd h0 (by decide)) (fun _ => ?_)
  refine lv_iload hx hb d_Mo_order_70 (lv_at hl 0 rfl) ?_
  refine lv_if_ne (tgt := 79) hx hb d_Mo_order_72 (by decide) (fun _ => ?_) (fun h0 => absurd h0 (by decide))
  refine lv_aload_n hx hb d_Mo_order_79 rfl (lv_at hl 1 rfl) ?_
  refine va_get (D := D) (ci := 6) (v := .int 1) (C := R_Mo) (T := T_Mo) (N := 24) hx hb hts hin_Mo hown hK hP 0 rfl rfl 6 (by decide) (hts _ wd_710) (fun _ h9 => h9) rfl d_Mo_order_80 ?_
  refine lv_iconst (v := 1) hx hb d_Mo_order_83 (by decide) ?_
  refine lv_icmp_eq (tgt := 91) hx hb d_Mo_order_84 (by decide) (fun _ => ?_) (fun h0 => absurd (by decide) h0)
  refine lv_iconst (v := 0) hx hb d_Mo_order_91 (by decide) ?_
  refine va_put (D := D) (ci := 6) (v := .int 0) (ty := .int) (C := R_Mo) (T := T_Mo) (N := 24) hx hb hts hin_Mo ty_Mo tyok_Mo nm_Mo hown hK hP hD hS 0 rfl rfl 0 (by decide) (hts _ wd_704) (fun _ h9 => h9) rfl (by decide +kernel) rfl rfl (Nat.le_of_ble_eq_true rfl) d_Mo_order_92 (fun H locs hP hD hS => ?_)
  have hP : va_P D vwCl [(g0, .inr (6, [.int 0, .int (nI n), .ref m_sea, .ref m_center, .ref m_home, .ref m_borders, .int 1, .int mt, .ref m_owner, .ref m_units, .ref m_kind, .ref m_toX, .ref m_toY, .ref m_results, .ref m_known, .ref m_reached, .ref m_way, .ref m_aside, .ref m_origin, .ref m_retreats, .ref m_contested, .ref m_moved, .int msh, .ref m_past])), (m_sea, .inl (cZ, 12, .inl (fun j => bI (S j)))), (m_borders, .inl (cZ, 144, .inl (fun j => bI (Bo j)))), (m_units, .inl (cI, 12, .inl fu)), (m_kind, .inl (cI, 12, .inl (fun j => nI (Kd j)))), (m_toX, .inl (cI, 12, .inl (fun j => nI (X j)))), (m_toY, .inl (cI, 12, .inl (fun j => nI (Y j))))] H := hP
  have hD : va_D A [(g0, .inr (6, [.int 0, .int (nI n), .ref m_sea, .ref m_center, .ref m_home, .ref m_borders, .int 1, .int mt, .ref m_owner, .ref m_units, .ref m_kind, .ref m_toX, .ref m_toY, .ref m_results, .ref m_known, .ref m_reached, .ref m_way, .ref m_aside, .ref m_origin, .ref m_retreats, .ref m_contested, .ref m_moved, .int msh, .ref m_past])), (m_sea, .inl (cZ, 12, .inl (fun j => bI (S j)))), (m_borders, .inl (cZ, 144, .inl (fun j => bI (Bo j)))), (m_units, .inl (cI, 12, .inl fu)), (m_kind, .inl (cI, 12, .inl (fun j => nI (Kd j)))), (m_toX, .inl (cI, 12, .inl (fun j => nI (X j)))), (m_toY, .inl (cI, 12, .inl (fun j => nI (Y j))))] := hD
  refine lv_aload_n hx hb d_Mo_order_95 rfl (lv_at hl 1 rfl) ?_
  refine va_get (D := D) (ci := 6) (v := .int 0) (C := R_Mo) (T := T_Mo) (N := 24) hx hb hts hin_Mo hown hK hP 0 rfl rfl 0 (by decide) (hts _ wd_704) (fun _ h9 => h9) rfl d_Mo_order_96 ?_
  refine lv_if_eq (tgt := 104) hx hb d_Mo_order_99 (by decide) (fun _ => ?_) (fun h0 => absurd (by decide) h0)
  refine lv_aload_n hx hb d_Mo_order_104 rfl (lv_at hl 1 rfl) ?_
  refine va_get (D := D) (ci := 6) (v := .ref m_units) (C := R_Mo) (T := T_Mo) (N := 24) hx hb hts hin_Mo hown hK hP 0 rfl rfl 9 (by decide) (hts _ wd_713) (fun _ h9 => h9) rfl d_Mo_order_105 ?_
  refine lv_iload_n hx hb d_Mo_order_108 rfl (lv_at hl 3 rfl) ?_
  refine tr_iald (v := fu a) hx hb hK hP 3 0 rfl rfl a (Nat.lt_of_lt_of_le h_a hn) (by decide) rfl d_Mo_order_109 ?_
  refine lv_if_lt (tgt := 125) hx hb d_Mo_order_110 (by decide) (fun hc12 => ?_) (fun hc12 => ?_)
  · -- 110 taken
    refine lv_iconst (v := 1) hx hb d_Mo_order_125 (by decide) ?_
    have hP9 := hP.sub (ws' := [(g0, .inr (6, [.int 0, .int (nI n), .ref m_sea, .ref m_center, .ref m_home, .ref m_borders, .int 1, .int mt, .ref m_owner, .ref m_units, .ref m_kind, .ref m_toX, .ref m_toY, .ref m_results, .ref m_known, .ref m_reached, .ref m_way, .ref m_aside, .ref m_origin, .ref m_retreats, .ref m_contested, .ref m_moved, .int msh, .ref m_past])), (m_sea, .inl (cZ, 12, .inl (fun j => bI (S j)))), (m_borders, .inl (cZ, 144, .inl (fun j => bI (Bo j)))), (m_units, .inl (cI, 12, .inl fu)), (m_kind, .inl (cI, 12, .inl (fun j => nI (Kd j)))), (m_toX, .inl (cI, 12, .inl (fun j => nI (X j)))), (m_toY, .inl (cI, 12, .inl (fun j => nI (Y j))))]) [0, 1, 2, 3, 4, 5, 6] rfl
    have hD9 := hD.sub (ws' := [(g0, .inr (6, [.int 0, .int (nI n), .ref m_sea, .ref m_center, .ref m_home, .ref m_borders, .int 1, .int mt, .ref m_owner, .ref m_units, .ref m_kind, .ref m_toX, .ref m_toY, .ref m_results, .ref m_known, .ref m_reached, .ref m_way, .ref m_aside, .ref m_origin, .ref m_retreats, .ref m_contested, .ref m_moved, .int msh, .ref m_past])), (m_sea, .inl (cZ, 12, .inl (fun j => bI (S j)))), (m_borders, .inl (cZ, 144, .inl (fun j => bI (Bo j)))), (m_units, .inl (cI, 12, .inl fu)), (m_kind, .inl (cI, 12, .inl (fun j => nI (Kd j)))), (m_toX, .inl (cI, 12, .inl (fun j => nI (X j)))), (m_toY, .inl (cI, 12, .inl (fun j => nI (Y j))))]) [0, 1, 2, 3, 4, 5, 6] (by decide) rfl
    have ej : odR (!decide (fu a < 0) && decide (fu a / 2 = nI p9)) (true) = 1 := by simp only [odR] <;> simp [hc12]
    have hP9 : va_P D vwCl [(g0, .inr (6, [.int 0, .int (nI n), .ref m_sea, .ref m_center, .ref m_home, .ref m_borders, .int 1, .int mt, .ref m_owner, .ref m_units, .ref m_kind, .ref m_toX, .ref m_toY, .ref m_results, .ref m_known, .ref m_reached, .ref m_way, .ref m_aside, .ref m_origin, .ref m_retreats, .ref m_contested, .ref m_moved, .int msh, .ref m_past])), (m_sea, .inl (cZ, 12, .inl (fun j => bI (S j)))), (m_borders, .inl (cZ, 144, .inl (fun j => bI (Bo j)))), (m_units, .inl (cI, 12, .inl fu)), (m_kind, .inl (cI, 12, .inl (fun j => nI (okN (odR (!decide (fu a < 0) && decide (fu a / 2 = nI p9)) (true)) Kd a 0 j)))), (m_toX, .inl (cI, 12, .inl (fun j => nI (okN (odR (!decide (fu a < 0) && decide (fu a / 2 = nI p9)) (true)) X a 0 j)))), (m_toY, .inl (cI, 12, .inl (fun j => nI (okN (odR (!decide (fu a < 0) && decide (fu a / 2 = nI p9)) (true)) Y a 0 j))))] H := by rw [ej]; exact hP9
    have hD9 : va_D A [(g0, .inr (6, [.int 0, .int (nI n), .ref m_sea, .ref m_center, .ref m_home, .ref m_borders, .int 1, .int mt, .ref m_owner, .ref m_units, .ref m_kind, .ref m_toX, .ref m_toY, .ref m_results, .ref m_known, .ref m_reached, .ref m_way, .ref m_aside, .ref m_origin, .ref m_retreats, .ref m_contested, .ref m_moved, .int msh, .ref m_past])), (m_sea, .inl (cZ, 12, .inl (fun j => bI (S j)))), (m_borders, .inl (cZ, 144, .inl (fun j => bI (Bo j)))), (m_units, .inl (cI, 12, .inl fu)), (m_kind, .inl (cI, 12, .inl (fun j => nI (okN (odR (!decide (fu a < 0) && decide (fu a / 2 = nI p9)) (true)) Kd a 0 j)))), (m_toX, .inl (cI, 12, .inl (fun j => nI (okN (odR (!decide (fu a < 0) && decide (fu a / 2 = nI p9)) (true)) X a 0 j)))), (m_toY, .inl (cI, 12, .inl (fun j => nI (okN (odR (!decide (fu a < 0) && decide (fu a / 2 = nI p9)) (true)) Y a 0 j))))] := by rw [ej]; exact hD9
    exact W.iret (v := 1) hx hb hr (fun t ht hW => ⟨⟨1, (), rfl, by rw [ej]; rfl, by rw [ht]; exact hP9, hD9⟩, hS.F ht⟩) hS.2.2 d_Mo_order_126
  · -- 110 not taken
    refine lv_aload_n hx hb d_Mo_order_113 rfl (lv_at hl 1 rfl) ?_
    refine va_get (D := D) (ci := 6) (v := .ref m_units) (C := R_Mo) (T := T_Mo) (N := 24) hx hb hts hin_Mo hown hK hP 0 rfl rfl 9 (by decide) (hts _ wd_713) (fun _ h9 => h9) rfl d_Mo_order_114 ?_
    refine lv_iload_n hx hb d_Mo_order_117 rfl (lv_at hl 3 rfl) ?_
    refine tr_iald (v := fu a) hx hb hK hP 3 0 rfl rfl a (Nat.lt_of_lt_of_le h_a hn) (by decide) rfl d_Mo_order_118 ?_
    refine lv_iconst (v := 2) hx hb d_Mo_order_119 (by decide) ?_
    refine lv_idiv hx hb d_Mo_order_120 (by decide) ?_
    refine lv_iload_n hx hb d_Mo_order_121 rfl (lv_at hl 2 rfl) ?_
    refine lv_icmp_eq (tgt := 127) hx hb d_Mo_order_122 (by decide) (fun hc13 => ?_) (fun hc13 => ?_)
    · -- 122 taken
      refine lv_aload_n hx hb d_Mo_order_127 rfl (lv_at hl 1 rfl) ?_
      refine lv_iload_n hx hb d_Mo_order_128 rfl (lv_at hl 3 rfl) ?_
      refine lv_iload_n hx hb d_Mo_order_129 rfl (lv_at hl 4 rfl) ?_
      refine lv_iload hx hb d_Mo_order_130 (lv_at hl 5 rfl) ?_
      refine lv_iload hx hb d_Mo_order_132 (lv_at hl 6 rfl) ?_
      have hPc := hP.sub (ws' := [(g0, .inr (6, [.int 0, .int (nI n), .ref m_sea, .ref m_center, .ref m_home, .ref m_borders, .int 1, .int mt, .ref m_owner, .ref m_units, .ref m_kind, .ref m_toX, .ref m_toY, .ref m_results, .ref m_known, .ref m_reached, .ref m_way, .ref m_aside, .ref m_origin, .ref m_retreats, .ref m_contested, .ref m_moved, .int msh, .ref m_past])), (m_sea, .inl (cZ, 12, .inl (fun j => bI (S j)))), (m_borders, .inl (cZ, 144, .inl (fun j => bI (Bo j)))), (m_units, .inl (cI, 12, .inl fu))]) [0, 1, 2, 3] rfl
      refine vp_callSi (va_Run.run (va_runV (As := [.int (nI a), .int 0, .int x, .int y]) (rest := []) ⟨hx, hb, hml, hown, hts⟩ (c_Mo_canHave0 l D cI cZ cJ cS aT ceT  g0 m_sea m_center m_home m_borders m_owner m_units m_kind m_toX m_toY m_results m_known m_reached m_way m_aside m_origin m_retreats m_contested m_moved m_past n 0 1 mt msh S Bo fu a x y (Nat.lt_of_lt_of_le h_a hn)) (cwV 4 hts (tb_4 wd_825 wd_827 wp_41 wd_8 (tb_c wd_828)) rfl rfl rfl ⟨rfl, by decide, by decide, by decide +kernel⟩ ⟨Nat.le_of_ble_eq_true rfl, Nat.le_of_ble_eq_true rfl⟩) (tP_V hK hX (hS.2.1 aT hXl hXn) hPc (q := 0) rfl rfl) rfl rfl hl.1 rfl (lv_room (Nat.le_of_ble_eq_true rfl)) d_Mo_order_134 ⟨Nat.le_of_ble_eq_true rfl, Nat.le_of_ble_eq_true rfl⟩)) (fun r14 hr9 => ?_)
      rw [hr9]
      refine tr_top (bI_t (rfl : true = true)) ?_
      refine lv_if_ne (tgt := 142) hx hb d_Mo_order_137 (by decide) (fun _ => ?_) (fun h0 => absurd h0 (by decide))
      refine lv_aload_n hx hb d_Mo_order_142 rfl (lv_at hl 1 rfl) ?_
      refine va_get (D := D) (ci := 6) (v := .ref m_kind) (C := R_Mo) (T := T_Mo) (N := 24) hx hb hts hin_Mo hown hK hP 0 rfl rfl 10 (by decide) (hts _ wd_714) (fun _ h9 => h9) rfl d_Mo_order_143 ?_
      refine lv_iload_n hx hb d_Mo_order_146 rfl (lv_at hl 3 rfl) ?_
      refine lv_iload_n hx hb d_Mo_order_147 rfl (lv_at hl 4 rfl) ?_
      refine tr_iast (g := fun j => nI (upN Kd a 0 j)) hx hb hK hP hD hS 4 0 rfl rfl a (Nat.lt_of_lt_of_le h_a hn) (by decide) (upN_I Kd a 0) d_Mo_order_148 (fun H locs hP hD hS => ?_)
      have hP : va_P D vwCl [(g0, .inr (6, [.int 0, .int (nI n), .ref m_sea, .ref m_center, .ref m_home, .ref m_borders, .int 1, .int mt, .ref m_owner, .ref m_units, .ref m_kind, .ref m_toX, .ref m_toY, .ref m_results, .ref m_known, .ref m_reached, .ref m_way, .ref m_aside, .ref m_origin, .ref m_retreats, .ref m_contested, .ref m_moved, .int msh, .ref m_past])), (m_sea, .inl (cZ, 12, .inl (fun j => bI (S j)))), (m_borders, .inl (cZ, 144, .inl (fun j => bI (Bo j)))), (m_units, .inl (cI, 12, .inl fu)), (m_kind, .inl (cI, 12, .inl (fun j => nI (upN Kd a 0 j)))), (m_toX, .inl (cI, 12, .inl (fun j => nI (X j)))), (m_toY, .inl (cI, 12, .inl (fun j => nI (Y j))))] H := hP
      have hD : va_D A [(g0, .inr (6, [.int 0, .int (nI n), .ref m_sea, .ref m_center, .ref m_home, .ref m_borders, .int 1, .int mt, .ref m_owner, .ref m_units, .ref m_kind, .ref m_toX, .ref m_toY, .ref m_results, .ref m_known, .ref m_reached, .ref m_way, .ref m_aside, .ref m_origin, .ref m_retreats, .ref m_contested, .ref m_moved, .int msh, .ref m_past])), (m_sea, .inl (cZ, 12, .inl (fun j => bI (S j)))), (m_borders, .inl (cZ, 144, .inl (fun j => bI (Bo j)))), (m_units, .inl (cI, 12, .inl fu)), (m_kind, .inl (cI, 12, .inl (fun j => nI (upN Kd a 0 j)))), (m_toX, .inl (cI, 12, .inl (fun j => nI (X j)))), (m_toY, .inl (cI, 12, .inl (fun j => nI (Y j))))] := hD
      refine lv_aload_n hx hb d_Mo_order_149 rfl (lv_at hl 1 rfl) ?_
      refine va_get (D := D) (ci := 6) (v := .ref m_toX) (C := R_Mo) (T := T_Mo) (N := 24) hx hb hts hin_Mo hown hK hP 0 rfl rfl 11 (by decide) (hts _ wd_715) (fun _ h9 => h9) rfl d_Mo_order_150 ?_
      refine lv_iload_n hx hb d_Mo_order_153 rfl (lv_at hl 3 rfl) ?_
      refine lv_iload_n hx hb d_Mo_order_154 rfl (lv_at hl 4 rfl) ?_
      refine lv_if_le (tgt := 163) hx hb d_Mo_order_155 (by decide) (fun _ => ?_) (fun h0 => absurd (by decide) h0)
      refine lv_iconst (v := 0) hx hb d_Mo_order_163 (by decide) ?_
      refine tr_iast (g := fun j => nI (upN X a 0 j)) hx hb hK hP hD hS 5 0 rfl rfl a (Nat.lt_of_lt_of_le h_a hn) (by decide) (upN_I X a 0) d_Mo_order_164 (fun H locs hP hD hS => ?_)
      have hP : va_P D vwCl [(g0, .inr (6, [.int 0, .int (nI n), .ref m_sea, .ref m_center, .ref m_home, .ref m_borders, .int 1, .int mt, .ref m_owner, .ref m_units, .ref m_kind, .ref m_toX, .ref m_toY, .ref m_results, .ref m_known, .ref m_reached, .ref m_way, .ref m_aside, .ref m_origin, .ref m_retreats, .ref m_contested, .ref m_moved, .int msh, .ref m_past])), (m_sea, .inl (cZ, 12, .inl (fun j => bI (S j)))), (m_borders, .inl (cZ, 144, .inl (fun j => bI (Bo j)))), (m_units, .inl (cI, 12, .inl fu)), (m_kind, .inl (cI, 12, .inl (fun j => nI (upN Kd a 0 j)))), (m_toX, .inl (cI, 12, .inl (fun j => nI (upN X a 0 j)))), (m_toY, .inl (cI, 12, .inl (fun j => nI (Y j))))] H := hP
      have hD : va_D A [(g0, .inr (6, [.int 0, .int (nI n), .ref m_sea, .ref m_center, .ref m_home, .ref m_borders, .int 1, .int mt, .ref m_owner, .ref m_units, .ref m_kind, .ref m_toX, .ref m_toY, .ref m_results, .ref m_known, .ref m_reached, .ref m_way, .ref m_aside, .ref m_origin, .ref m_retreats, .ref m_contested, .ref m_moved, .int msh, .ref m_past])), (m_sea, .inl (cZ, 12, .inl (fun j => bI (S j)))), (m_borders, .inl (cZ, 144, .inl (fun j => bI (Bo j)))), (m_units, .inl (cI, 12, .inl fu)), (m_kind, .inl (cI, 12, .inl (fun j => nI (upN Kd a 0 j)))), (m_toX, .inl (cI, 12, .inl (fun j => nI (upN X a 0 j)))), (m_toY, .inl (cI, 12, .inl (fun j => nI (Y j))))] := hD
      refine lv_aload_n hx hb d_Mo_order_165 rfl (lv_at hl 1 rfl) ?_
      refine va_get (D := D) (ci := 6) (v := .ref m_toY) (C := R_Mo) (T := T_Mo) (N := 24) hx hb hts hin_Mo hown hK hP 0 rfl rfl 12 (by decide) (hts _ wd_716) (fun _ h9 => h9) rfl d_Mo_order_166 ?_
      refine lv_iload_n hx hb d_Mo_order_169 rfl (lv_at hl 3 rfl) ?_
      refine lv_iload_n hx hb d_Mo_order_170 rfl (lv_at hl 4 rfl) ?_
      refine lv_iconst (v := 1) hx hb d_Mo_order_171 (by decide) ?_
      refine lv_icmp_le (tgt := 180) hx hb d_Mo_order_172 (by decide) (fun _ => ?_) (fun h0 => absurd (by decide) h0)
      refine lv_iconst (v := 0) hx hb d_Mo_order_180 (by decide) ?_
      refine tr_iast (g := fun j => nI (upN Y a 0 j)) hx hb hK hP hD hS 6 0 rfl rfl a (Nat.lt_of_lt_of_le h_a hn) (by decide) (upN_I Y a 0) d_Mo_order_181 (fun H locs hP hD hS => ?_)
      have hP : va_P D vwCl [(g0, .inr (6, [.int 0, .int (nI n), .ref m_sea, .ref m_center, .ref m_home, .ref m_borders, .int 1, .int mt, .ref m_owner, .ref m_units, .ref m_kind, .ref m_toX, .ref m_toY, .ref m_results, .ref m_known, .ref m_reached, .ref m_way, .ref m_aside, .ref m_origin, .ref m_retreats, .ref m_contested, .ref m_moved, .int msh, .ref m_past])), (m_sea, .inl (cZ, 12, .inl (fun j => bI (S j)))), (m_borders, .inl (cZ, 144, .inl (fun j => bI (Bo j)))), (m_units, .inl (cI, 12, .inl fu)), (m_kind, .inl (cI, 12, .inl (fun j => nI (upN Kd a 0 j)))), (m_toX, .inl (cI, 12, .inl (fun j => nI (upN X a 0 j)))), (m_toY, .inl (cI, 12, .inl (fun j => nI (upN Y a 0 j))))] H := hP
      have hD : va_D A [(g0, .inr (6, [.int 0, .int (nI n), .ref m_sea, .ref m_center, .ref m_home, .ref m_borders, .int 1, .int mt, .ref m_owner, .ref m_units, .ref m_kind, .ref m_toX, .ref m_toY, .ref m_results, .ref m_known, .ref m_reached, .ref m_way, .ref m_aside, .ref m_origin, .ref m_retreats, .ref m_contested, .ref m_moved, .int msh, .ref m_past])), (m_sea, .inl (cZ, 12, .inl (fun j => bI (S j)))), (m_borders, .inl (cZ, 144, .inl (fun j => bI (Bo j)))), (m_units, .inl (cI, 12, .inl fu)), (m_kind, .inl (cI, 12, .inl (fun j => nI (upN Kd a 0 j)))), (m_toX, .inl (cI, 12, .inl (fun j => nI (upN X a 0 j)))), (m_toY, .inl (cI, 12, .inl (fun j => nI (upN Y a 0 j))))] := hD
      refine lv_iconst (v := 0) hx hb d_Mo_order_182 (by decide) ?_
      have hP9 := hP.sub (ws' := [(g0, .inr (6, [.int 0, .int (nI n), .ref m_sea, .ref m_center, .ref m_home, .ref m_borders, .int 1, .int mt, .ref m_owner, .ref m_units, .ref m_kind, .ref m_toX, .ref m_toY, .ref m_results, .ref m_known, .ref m_reached, .ref m_way, .ref m_aside, .ref m_origin, .ref m_retreats, .ref m_contested, .ref m_moved, .int msh, .ref m_past])), (m_sea, .inl (cZ, 12, .inl (fun j => bI (S j)))), (m_borders, .inl (cZ, 144, .inl (fun j => bI (Bo j)))), (m_units, .inl (cI, 12, .inl fu)), (m_kind, .inl (cI, 12, .inl (fun j => nI (upN Kd a 0 j)))), (m_toX, .inl (cI, 12, .inl (fun j => nI (upN X a 0 j)))), (m_toY, .inl (cI, 12, .inl (fun j => nI (upN Y a 0 j))))]) [0, 1, 2, 3, 4, 5, 6] rfl
      have hD9 := hD.sub (ws' := [(g0, .inr (6, [.int 0, .int (nI n), .ref m_sea, .ref m_center, .ref m_home, .ref m_borders, .int 1, .int mt, .ref m_owner, .ref m_units, .ref m_kind, .ref m_toX, .ref m_toY, .ref m_results, .ref m_known, .ref m_reached, .ref m_way, .ref m_aside, .ref m_origin, .ref m_retreats, .ref m_contested, .ref m_moved, .int msh, .ref m_past])), (m_sea, .inl (cZ, 12, .inl (fun j => bI (S j)))), (m_borders, .inl (cZ, 144, .inl (fun j => bI (Bo j)))), (m_units, .inl (cI, 12, .inl fu)), (m_kind, .inl (cI, 12, .inl (fun j => nI (upN Kd a 0 j)))), (m_toX, .inl (cI, 12, .inl (fun j => nI (upN X a 0 j)))), (m_toY, .inl (cI, 12, .inl (fun j => nI (upN Y a 0 j))))]) [0, 1, 2, 3, 4, 5, 6] (by decide) rfl
      have ej : odR (!decide (fu a < 0) && decide (fu a / 2 = nI p9)) (true) = 0 := by simp only [odR] <;> simp [hc12, hc13]
      have hP9 : va_P D vwCl [(g0, .inr (6, [.int 0, .int (nI n), .ref m_sea, .ref m_center, .ref m_home, .ref m_borders, .int 1, .int mt, .ref m_owner, .ref m_units, .ref m_kind, .ref m_toX, .ref m_toY, .ref m_results, .ref m_known, .ref m_reached, .ref m_way, .ref m_aside, .ref m_origin, .ref m_retreats, .ref m_contested, .ref m_moved, .int msh, .ref m_past])), (m_sea, .inl (cZ, 12, .inl (fun j => bI (S j)))), (m_borders, .inl (cZ, 144, .inl (fun j => bI (Bo j)))), (m_units, .inl (cI, 12, .inl fu)), (m_kind, .inl (cI, 12, .inl (fun j => nI (okN (odR (!decide (fu a < 0) && decide (fu a / 2 = nI p9)) (true)) Kd a 0 j)))), (m_toX, .inl (cI, 12, .inl (fun j => nI (okN (odR (!decide (fu a < 0) && decide (fu a / 2 = nI p9)) (true)) X a 0 j)))), (m_toY, .inl (cI, 12, .inl (fun j => nI (okN (odR (!decide (fu a < 0) && decide (fu a / 2 = nI p9)) (true)) Y a 0 j))))] H := by rw [ej]; exact hP9
      have hD9 : va_D A [(g0, .inr (6, [.int 0, .int (nI n), .ref m_sea, .ref m_center, .ref m_home, .ref m_borders, .int 1, .int mt, .ref m_owner, .ref m_units, .ref m_kind, .ref m_toX, .ref m_toY, .ref m_results, .ref m_known, .ref m_reached, .ref m_way, .ref m_aside, .ref m_origin, .ref m_retreats, .ref m_contested, .ref m_moved, .int msh, .ref m_past])), (m_sea, .inl (cZ, 12, .inl (fun j => bI (S j)))), (m_borders, .inl (cZ, 144, .inl (fun j => bI (Bo j)))), (m_units, .inl (cI, 12, .inl fu)), (m_kind, .inl (cI, 12, .inl (fun j => nI (okN (odR (!decide (fu a < 0) && decide (fu a / 2 = nI p9)) (true)) Kd a 0 j)))), (m_toX, .inl (cI, 12, .inl (fun j => nI (okN (odR (!decide (fu a < 0) && decide (fu a / 2 = nI p9)) (true)) X a 0 j)))), (m_toY, .inl (cI, 12, .inl (fun j => nI (okN (odR (!decide (fu a < 0) && decide (fu a / 2 = nI p9)) (true)) Y a 0 j))))] := by rw [ej]; exact hD9
      exact W.iret (v := 0) hx hb hr (fun t ht hW => ⟨⟨0, (), rfl, by rw [ej]; rfl, by rw [ht]; exact hP9, hD9⟩, hS.F ht⟩) hS.2.2 d_Mo_order_183
    · -- 122 not taken
      refine lv_iconst (v := 1) hx hb d_Mo_order_125 (by decide) ?_
      have hP9 := hP.sub (ws' := [(g0, .inr (6, [.int 0, .int (nI n), .ref m_sea, .ref m_center, .ref m_home, .ref m_borders, .int 1, .int mt, .ref m_owner, .ref m_units, .ref m_kind, .ref m_toX, .ref m_toY, .ref m_results, .ref m_known, .ref m_reached, .ref m_way, .ref m_aside, .ref m_origin, .ref m_retreats, .ref m_contested, .ref m_moved, .int msh, .ref m_past])), (m_sea, .inl (cZ, 12, .inl (fun j => bI (S j)))), (m_borders, .inl (cZ, 144, .inl (fun j => bI (Bo j)))), (m_units, .inl (cI, 12, .inl fu)), (m_kind, .inl (cI, 12, .inl (fun j => nI (Kd j)))), (m_toX, .inl (cI, 12, .inl (fun j => nI (X j)))), (m_toY, .inl (cI, 12, .inl (fun j => nI (Y j))))]) [0, 1, 2, 3, 4, 5, 6] rfl
      have hD9 := hD.sub (ws' := [(g0, .inr (6, [.int 0, .int (nI n), .ref m_sea, .ref m_center, .ref m_home, .ref m_borders, .int 1, .int mt, .ref m_owner, .ref m_units, .ref m_kind, .ref m_toX, .ref m_toY, .ref m_results, .ref m_known, .ref m_reached, .ref m_way, .ref m_aside, .ref m_origin, .ref m_retreats, .ref m_contested, .ref m_moved, .int msh, .ref m_past])), (m_sea, .inl (cZ, 12, .inl (fun j => bI (S j)))), (m_borders, .inl (cZ, 144, .inl (fun j => bI (Bo j)))), (m_units, .inl (cI, 12, .inl fu)), (m_kind, .inl (cI, 12, .inl (fun j => nI (Kd j)))), (m_toX, .inl (cI, 12, .inl (fun j => nI (X j)))), (m_toY, .inl (cI, 12, .inl (fun j => nI (Y j))))]) [0, 1, 2, 3, 4, 5, 6] (by decide) rfl
      have ej : odR (!decide (fu a < 0) && decide (fu a / 2 = nI p9)) (true) = 1 := by simp only [odR] <;> simp [hc12, hc13]
      have hP9 : va_P D vwCl [(g0, .inr (6, [.int 0, .int (nI n), .ref m_sea, .ref m_center, .ref m_home, .ref m_borders, .int 1, .int mt, .ref m_owner, .ref m_units, .ref m_kind, .ref m_toX, .ref m_toY, .ref m_results, .ref m_known, .ref m_reached, .ref m_way, .ref m_aside, .ref m_origin, .ref m_retreats, .ref m_contested, .ref m_moved, .int msh, .ref m_past])), (m_sea, .inl (cZ, 12, .inl (fun j => bI (S j)))), (m_borders, .inl (cZ, 144, .inl (fun j => bI (Bo j)))), (m_units, .inl (cI, 12, .inl fu)), (m_kind, .inl (cI, 12, .inl (fun j => nI (okN (odR (!decide (fu a < 0) && decide (fu a / 2 = nI p9)) (true)) Kd a 0 j)))), (m_toX, .inl (cI, 12, .inl (fun j => nI (okN (odR (!decide (fu a < 0) && decide (fu a / 2 = nI p9)) (true)) X a 0 j)))), (m_toY, .inl (cI, 12, .inl (fun j => nI (okN (odR (!decide (fu a < 0) && decide (fu a / 2 = nI p9)) (true)) Y a 0 j))))] H := by rw [ej]; exact hP9
      have hD9 : va_D A [(g0, .inr (6, [.int 0, .int (nI n), .ref m_sea, .ref m_center, .ref m_home, .ref m_borders, .int 1, .int mt, .ref m_owner, .ref m_units, .ref m_kind, .ref m_toX, .ref m_toY, .ref m_results, .ref m_known, .ref m_reached, .ref m_way, .ref m_aside, .ref m_origin, .ref m_retreats, .ref m_contested, .ref m_moved, .int msh, .ref m_past])), (m_sea, .inl (cZ, 12, .inl (fun j => bI (S j)))), (m_borders, .inl (cZ, 144, .inl (fun j => bI (Bo j)))), (m_units, .inl (cI, 12, .inl fu)), (m_kind, .inl (cI, 12, .inl (fun j => nI (okN (odR (!decide (fu a < 0) && decide (fu a / 2 = nI p9)) (true)) Kd a 0 j)))), (m_toX, .inl (cI, 12, .inl (fun j => nI (okN (odR (!decide (fu a < 0) && decide (fu a / 2 = nI p9)) (true)) X a 0 j)))), (m_toY, .inl (cI, 12, .inl (fun j => nI (okN (odR (!decide (fu a < 0) && decide (fu a / 2 = nI p9)) (true)) Y a 0 j))))] := by rw [ej]; exact hD9
      exact W.iret (v := 1) hx hb hr (fun t ht hW => ⟨⟨1, (), rfl, by rw [ej]; rfl, by rw [ht]; exact hP9, hD9⟩, hS.F ht⟩) hS.2.2 d_Mo_order_126


set_option maxHeartbeats 4000000 in
set_option maxRecDepth 100000 in
theorem c_Mo_order1 (l : Launch) (D : va_G) (cI cZ cJ cS : ClassId) (aT : Nat) (ceT : Cell) (sz : Nat) (g0 m_sea m_center m_home m_borders m_owner m_units m_kind m_toX m_toY m_results m_known m_reached m_way m_aside m_origin m_retreats m_contested m_moved m_past : Nat) (n : Nat) (co mt msh : Int32) (S : Nat → Bool) (Bo : Nat → Bool) (fu : Nat → Int32) (Kd : Nat → Nat) (X : Nat → Nat) (Y : Nat → Nat) (p9 a x : Nat) (y : Int32) (hKd : ∀ j, Kd j < 4) (hX9 : ∀ j, X j < 12) (hY9 : ∀ j, Y j < 12) (hn : n ≤ 12) (h_a : a < n) (h_p : p9 < 4) (h_x : x < n) : Met l y_Mo_order w_Mo_order ({ frames := 3, cells := 0, slots := 0, locals := 70 }) (tH D cI cZ cJ cS aT ceT [.ref g0, .int (nI p9), .int (nI a), .int 1, .int (nI x), .int y] sz [(g0, .inr (6, [.int co, .int (nI n), .ref m_sea, .ref m_center, .ref m_home, .ref m_borders, .int 1, .int mt, .ref m_owner, .ref m_units, .ref m_kind, .ref m_toX, .ref m_toY, .ref m_results, .ref m_known, .ref m_reached, .ref m_way, .ref m_aside, .ref m_origin, .ref m_retreats, .ref m_contested, .ref m_moved, .int msh, .ref m_past])), (m_sea, .inl (cZ, 12, .inl (fun j => bI (S j)))), (m_borders, .inl (cZ, 144, .inl (fun j => bI (Bo j)))), (m_units, .inl (cI, 12, .inl fu)), (m_kind, .inl (cI, 12, .inl (fun j => nI (Kd j)))), (m_toX, .inl (cI, 12, .inl (fun j => nI (X j)))), (m_toY, .inl (cI, 12, .inl (fun j => nI (Y j))))]) (va_Qi (fun (r : Int32) (_ : Unit) => r = nI (odR (!decide (fu a < 0) && decide (fu a / 2 = nI p9)) (hmR Bo S fu a x))) (fun _ t => tB D (va_A [(g0, .inr (6, [.int co, .int (nI n), .ref m_sea, .ref m_center, .ref m_home, .ref m_borders, .int 1, .int mt, .ref m_owner, .ref m_units, .ref m_kind, .ref m_toX, .ref m_toY, .ref m_results, .ref m_known, .ref m_reached, .ref m_way, .ref m_aside, .ref m_origin, .ref m_retreats, .ref m_contested, .ref m_moved, .int msh, .ref m_past])), (m_sea, .inl (cZ, 12, .inl (fun j => bI (S j)))), (m_borders, .inl (cZ, 144, .inl (fun j => bI (Bo j)))), (m_units, .inl (cI, 12, .inl fu)), (m_kind, .inl (cI, 12, .inl (fun j => nI (Kd j)))), (m_toX, .inl (cI, 12, .inl (fun j => nI (X j)))), (m_toY, .inl (cI, 12, .inl (fun j => nI (Y j))))] sz) [(g0, .inr (6, [.int 0, .int (nI n), .ref m_sea, .ref m_center, .ref m_home, .ref m_borders, .int 1, .int mt, .ref m_owner, .ref m_units, .ref m_kind, .ref m_toX, .ref m_toY, .ref m_results, .ref m_known, .ref m_reached, .ref m_way, .ref m_aside, .ref m_origin, .ref m_retreats, .ref m_contested, .ref m_moved, .int msh, .ref m_past])), (m_sea, .inl (cZ, 12, .inl (fun j => bI (S j)))), (m_borders, .inl (cZ, 144, .inl (fun j => bI (Bo j)))), (m_units, .inl (cI, 12, .inl fu)), (m_kind, .inl (cI, 12, .inl (fun j => nI (okN (odR (!decide (fu a < 0) && decide (fu a / 2 = nI p9)) (hmR Bo S fu a x)) Kd a 1 j)))), (m_toX, .inl (cI, 12, .inl (fun j => nI (okN (odR (!decide (fu a < 0) && decide (fu a / 2 = nI p9)) (hmR Bo S fu a x)) X a x j)))), (m_toY, .inl (cI, 12, .inl (fun j => nI (okN (odR (!decide (fu a < 0) && decide (fu a / 2 = nI p9)) (hmR Bo S fu a x)) Y a 0 j))))] t) (va_A [(g0, .inr (6, [.int co, .int (nI n), .ref m_sea, .ref m_center, .ref m_home, .ref m_borders, .int 1, .int mt, .ref m_owner, .ref m_units, .ref m_kind, .ref m_toX, .ref m_toY, .ref m_results, .ref m_known, .ref m_reached, .ref m_way, .ref m_aside, .ref m_origin, .ref m_retreats, .ref m_contested, .ref m_moved, .int msh, .ref m_past])), (m_sea, .inl (cZ, 12, .inl (fun j => bI (S j)))), (m_borders, .inl (cZ, 144, .inl (fun j => bI (Bo j)))), (m_units, .inl (cI, 12, .inl fu)), (m_kind, .inl (cI, 12, .inl (fun j => nI (Kd j)))), (m_toX, .inl (cI, 12, .inl (fun j => nI (X j)))), (m_toY, .inl (cI, 12, .inl (fun j => nI (Y j))))] sz)) 0 0 (va_A [(g0, .inr (6, [.int co, .int (nI n), .ref m_sea, .ref m_center, .ref m_home, .ref m_borders, .int 1, .int mt, .ref m_owner, .ref m_units, .ref m_kind, .ref m_toX, .ref m_toY, .ref m_results, .ref m_known, .ref m_reached, .ref m_way, .ref m_aside, .ref m_origin, .ref m_retreats, .ref m_contested, .ref m_moved, .int msh, .ref m_past])), (m_sea, .inl (cZ, 12, .inl (fun j => bI (S j)))), (m_borders, .inl (cZ, 144, .inl (fun j => bI (Bo j)))), (m_units, .inl (cI, 12, .inl fu)), (m_kind, .inl (cI, 12, .inl (fun j => nI (Kd j)))), (m_toX, .inl (cI, 12, .inl (fun j => nI (X j)))), (m_toY, .inl (cI, 12, .inl (fun j => nI (Y j))))] sz) := by
  refine Met.ofW (cc := b_Mo_order) (maxL := 7) (ret := (some .int)) (by decide) rfl ?_
  intro p e s m args below meth c s₁ B hml hv
  obtain ⟨rfl, hsz, hP, hK, hD0, hX⟩ := hv
  have hx := B.exec
  have hb := B.bytes
  have hr := B.returns
  have hts0 := atoms_spec (ws := w_Mo_order) B.pre
  have hts : ∀ w ∈ TB, w.before _ s = true := fun w h => hts0 w (List.mem_cons_of_mem _ h)
  have hown : s.vm.findClass R_Mo = some m.cls := findClass_of_methodNamed B.named
  have hlocks := B.notSynchronized
  subst hsz
  have hXl := tx_lt hX
  have hXn := tx_far hP hX
  have hD := hD0.self (sz := s.heap.size)
  generalize hAe : va_A [(g0, .inr (6, [.int co, .int (nI n), .ref m_sea, .ref m_center, .ref m_home, .ref m_borders, .int 1, .int mt, .ref m_owner, .ref m_units, .ref m_kind, .ref m_toX, .ref m_toY, .ref m_results, .ref m_known, .ref m_reached, .ref m_way, .ref m_aside, .ref m_origin, .ref m_retreats, .ref m_contested, .ref m_moved, .int msh, .ref m_past])), (m_sea, .inl (cZ, 12, .inl (fun j => bI (S j)))), (m_borders, .inl (cZ, 144, .inl (fun j => bI (Bo j)))), (m_units, .inl (cI, 12, .inl fu)), (m_kind, .inl (cI, 12, .inl (fun j => nI (Kd j)))), (m_toX, .inl (cI, 12, .inl (fun j => nI (X j)))), (m_toY, .inl (cI, 12, .inl (fun j => nI (Y j))))] s.heap.size = A at hD hXn ⊢
  have hA : ∀ q : Nat, s.heap.size ≤ q → A q := fun q h => by rw [← hAe]; exact Or.inr h
  have hS : va_S A s.heap s.heap [] := va_S.rf
  have hXH : s.heap[aT]? = s.heap[aT]? := rfl
  have hl := lv_entry ([.ref g0, .int (nI p9), .int (nI a), .int 1, .int (nI x), .int y]) (n := 7) (Nat.le_of_ble_eq_true rfl)
  rw [lg_entry_eq]
  generalize (lg_sl ([.ref g0, .int (nI p9), .int (nI a), .int 1, .int (nI x), .int y]) ++ List.replicate (7 - (lg_sl ([.ref g0, .int (nI p9), .int (nI a), .int 1, .int (nI x), .int y])).length) Slot.unset).toArray = ls at hl ⊢
  have hl : lv_has ls 7 [(0, .ref g0), (1, .int (nI p9)), (2, .int (nI a)), (3, .int 1), (4, .int (nI x)), (5, .int y)] := hl
  refine lv_iload_n hx hb d_Mo_order_0 rfl (lv_at hl 3 rfl) ?_
  refine lv_iconst (v := 1) hx hb d_Mo_order_1 (by decide) ?_
  refine lv_icmp_lt (tgt := 19) hx hb d_Mo_order_2 (by decide) (fun h0 => absurd h0 (by decide)) (fun _ => ?_)
  refine lv_iload_n hx hb d_Mo_order_5 rfl (lv_at hl 3 rfl) ?_
  refine lv_iconst (v := 3) hx hb d_Mo_order_6 (by decide) ?_
  refine lv_icmp_gt (tgt := 19) hx hb d_Mo_order_7 (by decide) (fun h0 => absurd h0 (by decide)) (fun _ => ?_)
  refine lv_aload_n hx hb d_Mo_order_10 rfl (lv_at hl 0 rfl) ?_
  refine lv_iload hx hb d_Mo_order_11 (lv_at hl 4 rfl) ?_
  have hPc := hP.sub (ws' := [(g0, .inr (6, [.int co, .int (nI n), .ref m_sea, .ref m_center, .ref m_home, .ref m_borders, .int 1, .int mt, .ref m_owner, .ref m_units, .ref m_kind, .ref m_toX, .ref m_toY, .ref m_results, .ref m_known, .ref m_reached, .ref m_way, .ref m_aside, .ref m_origin, .ref m_retreats, .ref m_contested, .ref m_moved, .int msh, .ref m_past]))]) [0] rfl
  refine vp_callSi (va_Run.run (va_runV (As := [.int (nI x)]) (rest := []) ⟨hx, hb, hml, hown, hts⟩ (c_Mo_isAreaY l D cI cZ cJ cS aT ceT  g0 m_sea m_center m_home m_borders m_owner m_units m_kind m_toX m_toY m_results m_known m_reached m_way m_aside m_origin m_retreats m_contested m_moved m_past n co 1 mt msh x hn h_x) (cwV 1 hts (tb_4 wd_790 wd_792 wp_36 wd_8 (tb_c wd_793)) rfl rfl rfl ⟨rfl, by decide, by decide, by decide +kernel⟩ ⟨Nat.le_of_ble_eq_true rfl, Nat.le_of_ble_eq_true rfl⟩) (tP_V hK hX (hS.2.1 aT hXl hXn) hPc (q := 0) rfl rfl) rfl rfl hl.1 rfl (lv_room (Nat.le_of_ble_eq_true rfl)) d_Mo_order_13 ⟨Nat.le_of_ble_eq_true rfl, Nat.le_of_ble_eq_true rfl⟩)) (fun r3 hr9 => ?_)
  rw [hr9]
  refine lv_if_eq (tgt := 42) hx hb d_Mo_order_16 (by decide) (fun h0 => absurd h0 (by decide)) (fun _ => ?_)
  refine lv_iload_n hx hb d_Mo_order_19 rfl (lv_at hl 3 rfl) ?_
  refine lv_iconst (v := 2) hx hb d_Mo_order_20 (by decide) ?_
  refine lv_icmp_lt (tgt := 38) hx hb d_Mo_order_21 (by decide) (fun _ => ?_) (fun h0 => absurd (by decide) h0)
  refine lv_iconst (v := 1) hx hb d_Mo_order_38 (by decide) ?_
  refine lv_goto (tgt := 43) hx hb d_Mo_order_39 (by decide) ?_
  refine lv_istore (lv' := [(6, .int 1), (0, .ref g0), (1, .int (nI p9)), (2, .int (nI a)), (3, .int 1), (4, .int (nI x)), (5, .int y)]) hx hb d_Mo_order_43 hl (by decide) rfl (fun ls hl => ?_)
  refine lv_aload_n hx hb d_Mo_order_45 rfl (lv_at hl 1 rfl) ?_
  refine lv_iload_n hx hb d_Mo_order_46 rfl (lv_at hl 2 rfl) ?_
  have hPc := hP.sub (ws' := []) [] rfl
  refine vp_callSi (va_Run.run (va_runS (As := [.int (nI p9)]) (rest := [.ref g0]) ⟨hx, hb, hml, hown, hts⟩ (c_Mo_isPlayerY l D cI cZ cJ cS aT ceT  p9 h_p) (va_cwS 1 hts (tb_3 wd_802 wd_803 wd_8 (tb_c wd_804)) rfl rfl rfl ⟨by decide, by decide, by decide +kernel⟩ ⟨Nat.le_of_ble_eq_true rfl, Nat.le_of_ble_eq_true rfl⟩) (tP_S hK hX (hS.2.1 aT hXl hXn) hPc) rfl rfl hl.1 rfl (lv_room (Nat.le_of_ble_eq_true rfl)) d_Mo_order_47 ⟨Nat.le_of_ble_eq_true rfl, Nat.le_of_ble_eq_true rfl⟩)) (fun r6 hr9 => ?_)
  rw [hr9]
  refine lv_if_eq (tgt := 75) hx hb d_Mo_order_50 (by decide) (fun h0 => absurd h0 (by decide)) (fun _ => ?_)
  refine lv_aload_n hx hb d_Mo_order_53 rfl (lv_at hl 1 rfl) ?_
  refine lv_iload_n hx hb d_Mo_order_54 rfl (lv_at hl 3 rfl) ?_
  have hPc := hP.sub (ws' := [(g0, .inr (6, [.int co, .int (nI n), .ref m_sea, .ref m_center, .ref m_home, .ref m_borders, .int 1, .int mt, .ref m_owner, .ref m_units, .ref m_kind, .ref m_toX, .ref m_toY, .ref m_results, .ref m_known, .ref m_reached, .ref m_way, .ref m_aside, .ref m_origin, .ref m_retreats, .ref m_contested, .ref m_moved, .int msh, .ref m_past]))]) [0] rfl
  refine vp_callSi (va_Run.run (va_runV (As := [.int (nI a)]) (rest := [.ref g0]) ⟨hx, hb, hml, hown, hts⟩ (c_Mo_isAreaY l D cI cZ cJ cS aT ceT  g0 m_sea m_center m_home m_borders m_owner m_units m_kind m_toX m_toY m_results m_known m_reached m_way m_aside m_origin m_retreats m_contested m_moved m_past n co 1 mt msh a hn h_a) (cwV 1 hts (tb_4 wd_790 wd_792 wp_36 wd_8 (tb_c wd_793)) rfl rfl rfl ⟨rfl, by decide, by decide, by decide +kernel⟩ ⟨Nat.le_of_ble_eq_true rfl, Nat.le_of_ble_eq_true rfl⟩) (tP_V hK hX (hS.2.1 aT hXl hXn) hPc (q := 0) rfl rfl) rfl rfl hl.1 rfl (lv_room (Nat.le_of_ble_eq_true rfl)) d_Mo_order_55 ⟨Nat.le_of_ble_eq_true rfl, Nat.le_of_ble_eq_true rfl⟩)) (fun r8 hr9 => ?_)
  rw [hr9]
  refine lv_if_eq (tgt := 75) hx hb d_Mo_order_58 (by decide) (fun h0 => absurd h0 (by decide)) (fun _ => ?_)
  refine lv_iload_n hx hb d_Mo_order_61 rfl (lv_at hl 4 rfl) ?_
  refine lv_if_lt (tgt := 75) hx hb d_Mo_order_62 (by decide) (fun h0 => absurd h0 (by decide)) (fun _ => ?_)
  refine lv_iload_n hx hb d_Mo_order_65 rfl (lv_at hl 4 rfl) ?_
  refine lv_iconst (v := 3) hx hb d_Mo_order_66 (by decide) ?_
  refine lv_icmp_gt (tgt := 75) hx hb d_Mo_order_67 (by decide) (fun h0 => absurd h0 (by decide)) (fun _ => ?_)
  refine lv_iload hx hb d_Mo_order_70 (lv_at hl 0 rfl) ?_
  refine lv_if_ne (tgt := 79) hx hb d_Mo_order_72 (by decide) (fun _ => ?_) (fun h0 => absurd h0 (by decide))
  refine lv_aload_n hx hb d_Mo_order_79 rfl (lv_at hl 1 rfl) ?_
  refine va_get (D := D) (ci := 6) (v := .int 1) (C := R_Mo) (T := T_Mo) (N := 24) hx hb hts hin_Mo hown hK hP 0 rfl rfl 6 (by decide) (hts _ wd_710) (fun _ h9 => h9) rfl d_Mo_order_80 ?_
  refine lv_iconst (v := 1) hx hb d_Mo_order_83 (by decide) ?_
  refine lv_icmp_eq (tgt := 91) hx hb d_Mo_order_84 (by decide) (fun _ => ?_) (fun h0 => absurd (by decide) h0)
  refine lv_iconst (v := 0) hx hb d_Mo_order_91 (by decide) ?_
  refine va_put (D := D) (ci := 6) (v := .int 0) (ty := .int) (C := R_Mo) (T := T_Mo) (N := 24) hx hb hts hin_Mo ty_Mo tyok_Mo nm_Mo hown hK hP hD hS 0 rfl rfl 0 (by decide) (hts _ wd_704) (fun _ h9 => h9) rfl (by decide +kernel) rfl rfl (Nat.le_of_ble_eq_true rfl) d_Mo_order_92 (fun H locs hP hD hS => ?_)
  have hP : va_P D vwCl [(g0, .inr (6, [.int 0, .int (nI n), .ref m_sea, .ref m_center, .ref m_home, .ref m_borders, .int 1, .int mt, .ref m_owner, .ref m_units, .ref m_kind, .ref m_toX, .ref m_toY, .ref m_results, .ref m_known, .ref m_reached, .ref m_way, .ref m_aside, .ref m_origin, .ref m_retreats, .ref m_contested, .ref m_moved, .int msh, .ref m_past])), (m_sea, .inl (cZ, 12, .inl (fun j => bI (S j)))), (m_borders, .inl (cZ, 144, .inl (fun j => bI (Bo j)))), (m_units, .inl (cI, 12, .inl fu)), (m_kind, .inl (cI, 12, .inl (fun j => nI (Kd j)))), (m_toX, .inl (cI, 12, .inl (fun j => nI (X j)))), (m_toY, .inl (cI, 12, .inl (fun j => nI (Y j))))] H := hP
  have hD : va_D A [(g0, .inr (6, [.int 0, .int (nI n), .ref m_sea, .ref m_center, .ref m_home, .ref m_borders, .int 1, .int mt, .ref m_owner, .ref m_units, .ref m_kind, .ref m_toX, .ref m_toY, .ref m_results, .ref m_known, .ref m_reached, .ref m_way, .ref m_aside, .ref m_origin, .ref m_retreats, .ref m_contested, .ref m_moved, .int msh, .ref m_past])), (m_sea, .inl (cZ, 12, .inl (fun j => bI (S j)))), (m_borders, .inl (cZ, 144, .inl (fun j => bI (Bo j)))), (m_units, .inl (cI, 12, .inl fu)), (m_kind, .inl (cI, 12, .inl (fun j => nI (Kd j)))), (m_toX, .inl (cI, 12, .inl (fun j => nI (X j)))), (m_toY, .inl (cI, 12, .inl (fun j => nI (Y j))))] := hD
  refine lv_aload_n hx hb d_Mo_order_95 rfl (lv_at hl 1 rfl) ?_
  refine va_get (D := D) (ci := 6) (v := .int 0) (C := R_Mo) (T := T_Mo) (N := 24) hx hb hts hin_Mo hown hK hP 0 rfl rfl 0 (by decide) (hts _ wd_704) (fun _ h9 => h9) rfl d_Mo_order_96 ?_
  refine lv_if_eq (tgt := 104) hx hb d_Mo_order_99 (by decide) (fun _ => ?_) (fun h0 => absurd (by decide) h0)
  refine lv_aload_n hx hb d_Mo_order_104 rfl (lv_at hl 1 rfl) ?_
  refine va_get (D := D) (ci := 6) (v := .ref m_units) (C := R_Mo) (T := T_Mo) (N := 24) hx hb hts hin_Mo hown hK hP 0 rfl rfl 9 (by decide) (hts _ wd_713) (fun _ h9 => h9) rfl d_Mo_order_105 ?_
  refine lv_iload_n hx hb d_Mo_order_108 rfl (lv_at hl 3 rfl) ?_
  refine tr_iald (v := fu a) hx hb hK hP 3 0 rfl rfl a (Nat.lt_of_lt_of_le h_a hn) (by decide) rfl d_Mo_order_109 ?_
  refine lv_if_lt (tgt := 125) hx hb d_Mo_order_110 (by decide) (fun hc15 => ?_) (fun hc15 => ?_)
  · -- 110 taken
    refine lv_iconst (v := 1) hx hb d_Mo_order_125 (by decide) ?_
    have hP9 := hP.sub (ws' := [(g0, .inr (6, [.int 0, .int (nI n), .ref m_sea, .ref m_center, .ref m_home, .ref m_borders, .int 1, .int mt, .ref m_owner, .ref m_units, .ref m_kind, .ref m_toX, .ref m_toY, .ref m_results, .ref m_known, .ref m_reached, .ref m_way, .ref m_aside, .ref m_origin, .ref m_retreats, .ref m_contested, .ref m_moved, .int msh, .ref m_past])), (m_sea, .inl (cZ, 12, .inl (fun j => bI (S j)))), (m_borders, .inl (cZ, 144, .inl (fun j => bI (Bo j)))), (m_units, .inl (cI, 12, .inl fu)), (m_kind, .inl (cI, 12, .inl (fun j => nI (Kd j)))), (m_toX, .inl (cI, 12, .inl (fun j => nI (X j)))), (m_toY, .inl (cI, 12, .inl (fun j => nI (Y j))))]) [0, 1, 2, 3, 4, 5, 6] rfl
    have hD9 := hD.sub (ws' := [(g0, .inr (6, [.int 0, .int (nI n), .ref m_sea, .ref m_center, .ref m_home, .ref m_borders, .int 1, .int mt, .ref m_owner, .ref m_units, .ref m_kind, .ref m_toX, .ref m_toY, .ref m_results, .ref m_known, .ref m_reached, .ref m_way, .ref m_aside, .ref m_origin, .ref m_retreats, .ref m_contested, .ref m_moved, .int msh, .ref m_past])), (m_sea, .inl (cZ, 12, .inl (fun j => bI (S j)))), (m_borders, .inl (cZ, 144, .inl (fun j => bI (Bo j)))), (m_units, .inl (cI, 12, .inl fu)), (m_kind, .inl (cI, 12, .inl (fun j => nI (Kd j)))), (m_toX, .inl (cI, 12, .inl (fun j => nI (X j)))), (m_toY, .inl (cI, 12, .inl (fun j => nI (Y j))))]) [0, 1, 2, 3, 4, 5, 6] (by decide) rfl
    have ej : odR (!decide (fu a < 0) && decide (fu a / 2 = nI p9)) (hmR Bo S fu a x) = 1 := by simp only [odR] <;> simp [hc15]
    have hP9 : va_P D vwCl [(g0, .inr (6, [.int 0, .int (nI n), .ref m_sea, .ref m_center, .ref m_home, .ref m_borders, .int 1, .int mt, .ref m_owner, .ref m_units, .ref m_kind, .ref m_toX, .ref m_toY, .ref m_results, .ref m_known, .ref m_reached, .ref m_way, .ref m_aside, .ref m_origin, .ref m_retreats, .ref m_contested, .ref m_moved, .int msh, .ref m_past])), (m_sea, .inl (cZ, 12, .inl (fun j => bI (S j)))), (m_borders, .inl (cZ, 144, .inl (fun j => bI (Bo j)))), (m_units, .inl (cI, 12, .inl fu)), (m_kind, .inl (cI, 12, .inl (fun j => nI (okN (odR (!decide (fu a < 0) && decide (fu a / 2 = nI p9)) (hmR Bo S fu a x)) Kd a 1 j)))), (m_toX, .inl (cI, 12, .inl (fun j => nI (okN (odR (!decide (fu a < 0) && decide (fu a / 2 = nI p9)) (hmR Bo S fu a x)) X a x j)))), (m_toY, .inl (cI, 12, .inl (fun j => nI (okN (odR (!decide (fu a < 0) && decide (fu a / 2 = nI p9)) (hmR Bo S fu a x)) Y a 0 j))))] H := by rw [ej]; exact hP9
    have hD9 : va_D A [(g0, .inr (6, [.int 0, .int (nI n), .ref m_sea, .ref m_center, .ref m_home, .ref m_borders, .int 1, .int mt, .ref m_owner, .ref m_units, .ref m_kind, .ref m_toX, .ref m_toY, .ref m_results, .ref m_known, .ref m_reached, .ref m_way, .ref m_aside, .ref m_origin, .ref m_retreats, .ref m_contested, .ref m_moved, .int msh, .ref m_past])), (m_sea, .inl (cZ, 12, .inl (fun j => bI (S j)))), (m_borders, .inl (cZ, 144, .inl (fun j => bI (Bo j)))), (m_units, .inl (cI, 12, .inl fu)), (m_kind, .inl (cI, 12, .inl (fun j => nI (okN (odR (!decide (fu a < 0) && decide (fu a / 2 = nI p9)) (hmR Bo S fu a x)) Kd a 1 j)))), (m_toX, .inl (cI, 12, .inl (fun j => nI (okN (odR (!decide (fu a < 0) && decide (fu a / 2 = nI p9)) (hmR Bo S fu a x)) X a x j)))), (m_toY, .inl (cI, 12, .inl (fun j => nI (okN (odR (!decide (fu a < 0) && decide (fu a / 2 = nI p9)) (hmR Bo S fu a x)) Y a 0 j))))] := by rw [ej]; exact hD9
    exact W.iret (v := 1) hx hb hr (fun t ht hW => ⟨⟨1, (), rfl, by rw [ej]; rfl, by rw [ht]; exact hP9, hD9⟩, hS.F ht⟩) hS.2.2 d_Mo_order_126
  · -- 110 not taken
    refine lv_aload_n hx hb d_Mo_order_113 rfl (lv_at hl 1 rfl) ?_
    refine va_get (D := D) (ci := 6) (v := .ref m_units) (C := R_Mo) (T := T_Mo) (N := 24) hx hb hts hin_Mo hown hK hP 0 rfl rfl 9 (by decide) (hts _ wd_713) (fun _ h9 => h9) rfl d_Mo_order_114 ?_
    refine lv_iload_n hx hb d_Mo_order_117 rfl (lv_at hl 3 rfl) ?_
    refine tr_iald (v := fu a) hx hb hK hP 3 0 rfl rfl a (Nat.lt_of_lt_of_le h_a hn) (by decide) rfl d_Mo_order_118 ?_
    refine lv_iconst (v := 2) hx hb d_Mo_order_119 (by decide) ?_
    refine lv_idiv hx hb d_Mo_order_120 (by decide) ?_
    refine lv_iload_n hx hb d_Mo_order_121 rfl (lv_at hl 2 rfl) ?_
    refine lv_icmp_eq (tgt := 127) hx hb d_Mo_order_122 (by decide) (fun hc16 => ?_) (fun hc16 => ?_)
    · -- 122 taken
      refine lv_aload_n hx hb d_Mo_order_127 rfl (lv_at hl 1 rfl) ?_
      refine lv_iload_n hx hb d_Mo_order_128 rfl (lv_at hl 3 rfl) ?_
      refine lv_iload_n hx hb d_Mo_order_129 rfl (lv_at hl 4 rfl) ?_
      refine lv_iload hx hb d_Mo_order_130 (lv_at hl 5 rfl) ?_
      refine lv_iload hx hb d_Mo_order_132 (lv_at hl 6 rfl) ?_
      have hPc := hP.sub (ws' := [(g0, .inr (6, [.int 0, .int (nI n), .ref m_sea, .ref m_center, .ref m_home, .ref m_borders, .int 1, .int mt, .ref m_owner, .ref m_units, .ref m_kind, .ref m_toX, .ref m_toY, .ref m_results, .ref m_known, .ref m_reached, .ref m_way, .ref m_aside, .ref m_origin, .ref m_retreats, .ref m_contested, .ref m_moved, .int msh, .ref m_past])), (m_sea, .inl (cZ, 12, .inl (fun j => bI (S j)))), (m_borders, .inl (cZ, 144, .inl (fun j => bI (Bo j)))), (m_units, .inl (cI, 12, .inl fu))]) [0, 1, 2, 3] rfl
      refine vp_callSi (va_Run.run (va_runV (As := [.int (nI a), .int 1, .int (nI x), .int y]) (rest := []) ⟨hx, hb, hml, hown, hts⟩ (c_Mo_canHave1 l D cI cZ cJ cS aT ceT  g0 m_sea m_center m_home m_borders m_owner m_units m_kind m_toX m_toY m_results m_known m_reached m_way m_aside m_origin m_retreats m_contested m_moved m_past n 0 1 mt msh S Bo fu a x y (Nat.lt_of_lt_of_le h_a hn) (Nat.lt_of_lt_of_le h_x hn)) (cwV 4 hts (tb_4 wd_825 wd_827 wp_41 wd_8 (tb_c wd_828)) rfl rfl rfl ⟨rfl, by decide, by decide, by decide +kernel⟩ ⟨Nat.le_of_ble_eq_true rfl, Nat.le_of_ble_eq_true rfl⟩) (tP_V hK hX (hS.2.1 aT hXl hXn) hPc (q := 0) rfl rfl) rfl rfl hl.1 rfl (lv_room (Nat.le_of_ble_eq_true rfl)) d_Mo_order_134 ⟨Nat.le_of_ble_eq_true rfl, Nat.le_of_ble_eq_true rfl⟩)) (fun r17 hr9 => ?_)
      rw [hr9]
      rcases bI_c (hmR Bo S fu a x) with ⟨hb19, e9⟩ | ⟨hb19, e9⟩
      · refine tr_top e9 ?_
        refine lv_if_ne (tgt := 142) hx hb d_Mo_order_137 (by decide) (fun _ => ?_) (fun h0 => absurd h0 (by decide))
        refine lv_aload_n hx hb d_Mo_order_142 rfl (lv_at hl 1 rfl) ?_
        refine va_get (D := D) (ci := 6) (v := .ref m_kind) (C := R_Mo) (T := T_Mo) (N := 24) hx hb hts hin_Mo hown hK hP 0 rfl rfl 10 (by decide) (hts _ wd_714) (fun _ h9 => h9) rfl d_Mo_order_143 ?_
        refine lv_iload_n hx hb d_Mo_order_146 rfl (lv_at hl 3 rfl) ?_
        refine lv_iload_n hx hb d_Mo_order_147 rfl (lv_at hl 4 rfl) ?_
        refine tr_iast (g := fun j => nI (upN Kd a 1 j)) hx hb hK hP hD hS 4 0 rfl rfl a (Nat.lt_of_lt_of_le h_a hn) (by decide) (upN_I Kd a 1) d_Mo_order_148 (fun H locs hP hD hS => ?_)
        have hP : va_P D vwCl [(g0, .inr (6, [.int 0, .int (nI n), .ref m_sea, .ref m_center, .ref m_home, .ref m_borders, .int 1, .int mt, .ref m_owner, .ref m_units, .ref m_kind, .ref m_toX, .ref m_toY, .ref m_results, .ref m_known, .ref m_reached, .ref m_way, .ref m_aside, .ref m_origin, .ref m_retreats, .ref m_contested, .ref m_moved, .int msh, .ref m_past])), (m_sea, .inl (cZ, 12, .inl (fun j => bI (S j)))), (m_borders, .inl (cZ, 144, .inl (fun j => bI (Bo j)))), (m_units, .inl (cI, 12, .inl fu)), (m_kind, .inl (cI, 12, .inl (fun j => nI (upN Kd a 1 j)))), (m_toX, .inl (cI, 12, .inl (fun j => nI (X j)))), (m_toY, .inl (cI, 12, .inl (fun j => nI (Y j))))] H := hP
        have hD : va_D A [(g0, .inr (6, [.int 0, .int (nI n), .ref m_sea, .ref m_center, .ref m_home, .ref m_borders, .int 1, .int mt, .ref m_owner, .ref m_units, .ref m_kind, .ref m_toX, .ref m_toY, .ref m_results, .ref m_known, .ref m_reached, .ref m_way, .ref m_aside, .ref m_origin, .ref m_retreats, .ref m_contested, .ref m_moved, .int msh, .ref m_past])), (m_sea, .inl (cZ, 12, .inl (fun j => bI (S j)))), (m_borders, .inl (cZ, 144, .inl (fun j => bI (Bo j)))), (m_units, .inl (cI, 12, .inl fu)), (m_kind, .inl (cI, 12, .inl (fun j => nI (upN Kd a 1 j)))), (m_toX, .inl (cI, 12, .inl (fun j => nI (X j)))), (m_toY, .inl (cI, 12, .inl (fun j => nI (Y j))))] := hD
        refine lv_aload_n hx hb d_Mo_order_149 rfl (lv_at hl 1 rfl) ?_
        refine va_get (D := D) (ci := 6) (v := .ref m_toX) (C := R_Mo) (T := T_Mo) (N := 24) hx hb hts hin_Mo hown hK hP 0 rfl rfl 11 (by decide) (hts _ wd_715) (fun _ h9 => h9) rfl d_Mo_order_150 ?_
        refine lv_iload_n hx hb d_Mo_order_153 rfl (lv_at hl 3 rfl) ?_
        refine lv_iload_n hx hb d_Mo_order_154 rfl (lv_at hl 4 rfl) ?_
        refine lv_if_le (tgt := 163) hx hb d_Mo_order_155 (by decide) (fun h0 => absurd h0 (by decide)) (fun _ => ?_)
        refine lv_iload hx hb d_Mo_order_158 (lv_at hl 5 rfl) ?_
        refine lv_goto (tgt := 164) hx hb d_Mo_order_160 (by decide) ?_
        refine tr_iast (g := fun j => nI (upN X a x j)) hx hb hK hP hD hS 5 0 rfl rfl a (Nat.lt_of_lt_of_le h_a hn) (by decide) (upN_I X a x) d_Mo_order_164 (fun H locs hP hD hS => ?_)
        have hP : va_P D vwCl [(g0, .inr (6, [.int 0, .int (nI n), .ref m_sea, .ref m_center, .ref m_home, .ref m_borders, .int 1, .int mt, .ref m_owner, .ref m_units, .ref m_kind, .ref m_toX, .ref m_toY, .ref m_results, .ref m_known, .ref m_reached, .ref m_way, .ref m_aside, .ref m_origin, .ref m_retreats, .ref m_contested, .ref m_moved, .int msh, .ref m_past])), (m_sea, .inl (cZ, 12, .inl (fun j => bI (S j)))), (m_borders, .inl (cZ, 144, .inl (fun j => bI (Bo j)))), (m_units, .inl (cI, 12, .inl fu)), (m_kind, .inl (cI, 12, .inl (fun j => nI (upN Kd a 1 j)))), (m_toX, .inl (cI, 12, .inl (fun j => nI (upN X a x j)))), (m_toY, .inl (cI, 12, .inl (fun j => nI (Y j))))] H := hP
        have hD : va_D A [(g0, .inr (6, [.int 0, .int (nI n), .ref m_sea, .ref m_center, .ref m_home, .ref m_borders, .int 1, .int mt, .ref m_owner, .ref m_units, .ref m_kind, .ref m_toX, .ref m_toY, .ref m_results, .ref m_known, .ref m_reached, .ref m_way, .ref m_aside, .ref m_origin, .ref m_retreats, .ref m_contested, .ref m_moved, .int msh, .ref m_past])), (m_sea, .inl (cZ, 12, .inl (fun j => bI (S j)))), (m_borders, .inl (cZ, 144, .inl (fun j => bI (Bo j)))), (m_units, .inl (cI, 12, .inl fu)), (m_kind, .inl (cI, 12, .inl (fun j => nI (upN Kd a 1 j)))), (m_toX, .inl (cI, 12, .inl (fun j => nI (upN X a x j)))), (m_toY, .inl (cI, 12, .inl (fun j => nI (Y j))))] := hD
        refine lv_aload_n hx hb d_Mo_order_165 rfl (lv_at hl 1 rfl) ?_
        refine va_get (D := D) (ci := 6) (v := .ref m_toY) (C := R_Mo) (T := T_Mo) (N := 24) hx hb hts hin_Mo hown hK hP 0 rfl rfl 12 (by decide) (hts _ wd_716) (fun _ h9 => h9) rfl d_Mo_order_166 ?_
        refine lv_iload_n hx hb d_Mo_order_169 rfl (lv_at hl 3 rfl) ?_
        refine lv_iload_n hx hb d_Mo_order_170 rfl (lv_at hl 4 rfl) ?_
        refine lv_iconst (v := 1) hx hb d_Mo_order_171 (by decide) ?_
        refine lv_icmp_le (tgt := 180) hx hb d_Mo_order_172 (by decide) (fun _ => ?_) (fun h0 => absurd (by decide) h0)
        refine lv_iconst (v := 0) hx hb d_Mo_order_180 (by decide) ?_
        refine tr_iast (g := fun j => nI (upN Y a 0 j)) hx hb hK hP hD hS 6 0 rfl rfl a (Nat.lt_of_lt_of_le h_a hn) (by decide) (upN_I Y a 0) d_Mo_order_181 (fun H locs hP hD hS => ?_)
        have hP : va_P D vwCl [(g0, .inr (6, [.int 0, .int (nI n), .ref m_sea, .ref m_center, .ref m_home, .ref m_borders, .int 1, .int mt, .ref m_owner, .ref m_units, .ref m_kind, .ref m_toX, .ref m_toY, .ref m_results, .ref m_known, .ref m_reached, .ref m_way, .ref m_aside, .ref m_origin, .ref m_retreats, .ref m_contested, .ref m_moved, .int msh, .ref m_past])), (m_sea, .inl (cZ, 12, .inl (fun j => bI (S j)))), (m_borders, .inl (cZ, 144, .inl (fun j => bI (Bo j)))), (m_units, .inl (cI, 12, .inl fu)), (m_kind, .inl (cI, 12, .inl (fun j => nI (upN Kd a 1 j)))), (m_toX, .inl (cI, 12, .inl (fun j => nI (upN X a x j)))), (m_toY, .inl (cI, 12, .inl (fun j => nI (upN Y a 0 j))))] H := hP
        have hD : va_D A [(g0, .inr (6, [.int 0, .int (nI n), .ref m_sea, .ref m_center, .ref m_home, .ref m_borders, .int 1, .int mt, .ref m_owner, .ref m_units, .ref m_kind, .ref m_toX, .ref m_toY, .ref m_results, .ref m_known, .ref m_reached, .ref m_way, .ref m_aside, .ref m_origin, .ref m_retreats, .ref m_contested, .ref m_moved, .int msh, .ref m_past])), (m_sea, .inl (cZ, 12, .inl (fun j => bI (S j)))), (m_borders, .inl (cZ, 144, .inl (fun j => bI (Bo j)))), (m_units, .inl (cI, 12, .inl fu)), (m_kind, .inl (cI, 12, .inl (fun j => nI (upN Kd a 1 j)))), (m_toX, .inl (cI, 12, .inl (fun j => nI (upN X a x j)))), (m_toY, .inl (cI, 12, .inl (fun j => nI (upN Y a 0 j))))] := hD
        refine lv_iconst (v := 0) hx hb d_Mo_order_182 (by decide) ?_
        have hP9 := hP.sub (ws' := [(g0, .inr (6, [.int 0, .int (nI n), .ref m_sea, .ref m_center, .ref m_home, .ref m_borders, .int 1, .int mt, .ref m_owner, .ref m_units, .ref m_kind, .ref m_toX, .ref m_toY, .ref m_results, .ref m_known, .ref m_reached, .ref m_way, .ref m_aside, .ref m_origin, .ref m_retreats, .ref m_contested, .ref m_moved, .int msh, .ref m_past])), (m_sea, .inl (cZ, 12, .inl (fun j => bI (S j)))), (m_borders, .inl (cZ, 144, .inl (fun j => bI (Bo j)))), (m_units, .inl (cI, 12, .inl fu)), (m_kind, .inl (cI, 12, .inl (fun j => nI (upN Kd a 1 j)))), (m_toX, .inl (cI, 12, .inl (fun j => nI (upN X a x j)))), (m_toY, .inl (cI, 12, .inl (fun j => nI (upN Y a 0 j))))]) [0, 1, 2, 3, 4, 5, 6] rfl
        have hD9 := hD.sub (ws' := [(g0, .inr (6, [.int 0, .int (nI n), .ref m_sea, .ref m_center, .ref m_home, .ref m_borders, .int 1, .int mt, .ref m_owner, .ref m_units, .ref m_kind, .ref m_toX, .ref m_toY, .ref m_results, .ref m_known, .ref m_reached, .ref m_way, .ref m_aside, .ref m_origin, .ref m_retreats, .ref m_contested, .ref m_moved, .int msh, .ref m_past])), (m_sea, .inl (cZ, 12, .inl (fun j => bI (S j)))), (m_borders, .inl (cZ, 144, .inl (fun j => bI (Bo j)))), (m_units, .inl (cI, 12, .inl fu)), (m_kind, .inl (cI, 12, .inl (fun j => nI (upN Kd a 1 j)))), (m_toX, .inl (cI, 12, .inl (fun j => nI (upN X a x j)))), (m_toY, .inl (cI, 12, .inl (fun j => nI (upN Y a 0 j))))]) [0, 1, 2, 3, 4, 5, 6] (by decide) rfl
        have ej : odR (!decide (fu a < 0) && decide (fu a / 2 = nI p9)) (hmR Bo S fu a x) = 0 := by simp only [odR, hb19] <;> simp [hc15, hc16, hb19]
        have hP9 : va_P D vwCl [(g0, .inr (6, [.int 0, .int (nI n), .ref m_sea, .ref m_center, .ref m_home, .ref m_borders, .int 1, .int mt, .ref m_owner, .ref m_units, .ref m_kind, .ref m_toX, .ref m_toY, .ref m_results, .ref m_known, .ref m_reached, .ref m_way, .ref m_aside, .ref m_origin, .ref m_retreats, .ref m_contested, .ref m_moved, .int msh, .ref m_past])), (m_sea, .inl (cZ, 12, .inl (fun j => bI (S j)))), (m_borders, .inl (cZ, 144, .inl (fun j => bI (Bo j)))), (m_units, .inl (cI, 12, .inl fu)), (m_kind, .inl (cI, 12, .inl (fun j => nI (okN (odR (!decide (fu a < 0) && decide (fu a / 2 = nI p9)) (hmR Bo S fu a x)) Kd a 1 j)))), (m_toX, .inl (cI, 12, .inl (fun j => nI (okN (odR (!decide (fu a < 0) && decide (fu a / 2 = nI p9)) (hmR Bo S fu a x)) X a x j)))), (m_toY, .inl (cI, 12, .inl (fun j => nI (okN (odR (!decide (fu a < 0) && decide (fu a / 2 = nI p9)) (hmR Bo S fu a x)) Y a 0 j))))] H := by rw [ej]; exact hP9
        have hD9 : va_D A [(g0, .inr (6, [.int 0, .int (nI n), .ref m_sea, .ref m_center, .ref m_home, .ref m_borders, .int 1, .int mt, .ref m_owner, .ref m_units, .ref m_kind, .ref m_toX, .ref m_toY, .ref m_results, .ref m_known, .ref m_reached, .ref m_way, .ref m_aside, .ref m_origin, .ref m_retreats, .ref m_contested, .ref m_moved, .int msh, .ref m_past])), (m_sea, .inl (cZ, 12, .inl (fun j => bI (S j)))), (m_borders, .inl (cZ, 144, .inl (fun j => bI (Bo j)))), (m_units, .inl (cI, 12, .inl fu)), (m_kind, .inl (cI, 12, .inl (fun j => nI (okN (odR (!decide (fu a < 0) && decide (fu a / 2 = nI p9)) (hmR Bo S fu a x)) Kd a 1 j)))), (m_toX, .inl (cI, 12, .inl (fun j => nI (okN (odR (!decide (fu a < 0) && decide (fu a / 2 = nI p9)) (hmR Bo S fu a x)) X a x j)))), (m_toY, .inl (cI, 12, .inl (fun j => nI (okN (odR (!decide (fu a < 0) && decide (fu a / 2 = nI p9)) (hmR Bo S fu a x)) Y a 0 j))))] := by rw [ej]; exact hD9
        exact W.iret (v := 0) hx hb hr (fun t ht hW => ⟨⟨0, (), rfl, by rw [ej]; rfl, by rw [ht]; exact hP9, hD9⟩, hS.F ht⟩) hS.2.2 d_Mo_order_183
      · refine tr_top e9 ?_
        refine lv_if_ne (tgt := 142) hx hb d_Mo_order_137 (by decide) (fun h0 => absurd (by decide) h0) (fun _ => ?_)
        refine lv_iconst (v := 2) hx hb d_Mo_order_140 (by decide) ?_
        have hP9 := hP.sub (ws' := [(g0, .inr (6, [.int 0, .int (nI n), .ref m_sea, .ref m_center, .ref m_home, .ref m_borders, .int 1, .int mt, .ref m_owner, .ref m_units, .ref m_kind, .ref m_toX, .ref m_toY, .ref m_results, .ref m_known, .ref m_reached, .ref m_way, .ref m_aside, .ref m_origin, .ref m_retreats, .ref m_contested, .ref m_moved, .int msh, .ref m_past])), (m_sea, .inl (cZ, 12, .inl (fun j => bI (S j)))), (m_borders, .inl (cZ, 144, .inl (fun j => bI (Bo j)))), (m_units, .inl (cI, 12, .inl fu)), (m_kind, .inl (cI, 12, .inl (fun j => nI (Kd j)))), (m_toX, .inl (cI, 12, .inl (fun j => nI (X j)))), (m_toY, .inl (cI, 12, .inl (fun j => nI (Y j))))]) [0, 1, 2, 3, 4, 5, 6] rfl
        have hD9 := hD.sub (ws' := [(g0, .inr (6, [.int 0, .int (nI n), .ref m_sea, .ref m_center, .ref m_home, .ref m_borders, .int 1, .int mt, .ref m_owner, .ref m_units, .ref m_kind, .ref m_toX, .ref m_toY, .ref m_results, .ref m_known, .ref m_reached, .ref m_way, .ref m_aside, .ref m_origin, .ref m_retreats, .ref m_contested, .ref m_moved, .int msh, .ref m_past])), (m_sea, .inl (cZ, 12, .inl (fun j => bI (S j)))), (m_borders, .inl (cZ, 144, .inl (fun j => bI (Bo j)))), (m_units, .inl (cI, 12, .inl fu)), (m_kind, .inl (cI, 12, .inl (fun j => nI (Kd j)))), (m_toX, .inl (cI, 12, .inl (fun j => nI (X j)))), (m_toY, .inl (cI, 12, .inl (fun j => nI (Y j))))]) [0, 1, 2, 3, 4, 5, 6] (by decide) rfl
        have ej : odR (!decide (fu a < 0) && decide (fu a / 2 = nI p9)) (hmR Bo S fu a x) = 2 := by simp only [odR, hb19] <;> simp [hc15, hc16, hb19]
        have hP9 : va_P D vwCl [(g0, .inr (6, [.int 0, .int (nI n), .ref m_sea, .ref m_center, .ref m_home, .ref m_borders, .int 1, .int mt, .ref m_owner, .ref m_units, .ref m_kind, .ref m_toX, .ref m_toY, .ref m_results, .ref m_known, .ref m_reached, .ref m_way, .ref m_aside, .ref m_origin, .ref m_retreats, .ref m_contested, .ref m_moved, .int msh, .ref m_past])), (m_sea, .inl (cZ, 12, .inl (fun j => bI (S j)))), (m_borders, .inl (cZ, 144, .inl (fun j => bI (Bo j)))), (m_units, .inl (cI, 12, .inl fu)), (m_kind, .inl (cI, 12, .inl (fun j => nI (okN (odR (!decide (fu a < 0) && decide (fu a / 2 = nI p9)) (hmR Bo S fu a x)) Kd a 1 j)))), (m_toX, .inl (cI, 12, .inl (fun j => nI (okN (odR (!decide (fu a < 0) && decide (fu a / 2 = nI p9)) (hmR Bo S fu a x)) X a x j)))), (m_toY, .inl (cI, 12, .inl (fun j => nI (okN (odR (!decide (fu a < 0) && decide (fu a / 2 = nI p9)) (hmR Bo S fu a x)) Y a 0 j))))] H := by rw [ej]; exact hP9
        have hD9 : va_D A [(g0, .inr (6, [.int 0, .int (nI n), .ref m_sea, .ref m_center, .ref m_home, .ref m_borders, .int 1, .int mt, .ref m_owner, .ref m_units, .ref m_kind, .ref m_toX, .ref m_toY, .ref m_results, .ref m_known, .ref m_reached, .ref m_way, .ref m_aside, .ref m_origin, .ref m_retreats, .ref m_contested, .ref m_moved, .int msh, .ref m_past])), (m_sea, .inl (cZ, 12, .inl (fun j => bI (S j)))), (m_borders, .inl (cZ, 144, .inl (fun j => bI (Bo j)))), (m_units, .inl (cI, 12, .inl fu)), (m_kind, .inl (cI, 12, .inl (fun j => nI (okN (odR (!decide (fu a < 0) && decide (fu a / 2 = nI p9)) (hmR Bo S fu a x)) Kd a 1 j)))), (m_toX, .inl (cI, 12, .inl (fun j => nI (okN (odR (!decide (fu a < 0) && decide (fu a / 2 = nI p9)) (hmR Bo S fu a x)) X a x j)))), (m_toY, .inl (cI, 12, .inl (fun j => nI (okN (odR (!decide (fu a < 0) && decide (fu a / 2 = nI p9)) (hmR Bo S fu a x)) Y a 0 j))))] := by rw [ej]; exact hD9
        exact W.iret (v := 2) hx hb hr (fun t ht hW => ⟨⟨2, (), rfl, by rw [ej]; rfl, by rw [ht]; exact hP9, hD9⟩, hS.F ht⟩) hS.2.2 d_Mo_order_141
    · -- 122 not taken
      refine lv_iconst (v := 1) hx hb d_Mo_order_125 (by decide) ?_
      have hP9 := hP.sub (ws' := [(g0, .inr (6, [.int 0, .int (nI n), .ref m_sea, .ref m_center, .ref m_home, .ref m_borders, .int 1, .int mt, .ref m_owner, .ref m_units, .ref m_kind, .ref m_toX, .ref m_toY, .ref m_results, .ref m_known, .ref m_reached, .ref m_way, .ref m_aside, .ref m_origin, .ref m_retreats, .ref m_contested, .ref m_moved, .int msh, .ref m_past])), (m_sea, .inl (cZ, 12, .inl (fun j => bI (S j)))), (m_borders, .inl (cZ, 144, .inl (fun j => bI (Bo j)))), (m_units, .inl (cI, 12, .inl fu)), (m_kind, .inl (cI, 12, .inl (fun j => nI (Kd j)))), (m_toX, .inl (cI, 12, .inl (fun j => nI (X j)))), (m_toY, .inl (cI, 12, .inl (fun j => nI (Y j))))]) [0, 1, 2, 3, 4, 5, 6] rfl
      have hD9 := hD.sub (ws' := [(g0, .inr (6, [.int 0, .int (nI n), .ref m_sea, .ref m_center, .ref m_home, .ref m_borders, .int 1, .int mt, .ref m_owner, .ref m_units, .ref m_kind, .ref m_toX, .ref m_toY, .ref m_results, .ref m_known, .ref m_reached, .ref m_way, .ref m_aside, .ref m_origin, .ref m_retreats, .ref m_contested, .ref m_moved, .int msh, .ref m_past])), (m_sea, .inl (cZ, 12, .inl (fun j => bI (S j)))), (m_borders, .inl (cZ, 144, .inl (fun j => bI (Bo j)))), (m_units, .inl (cI, 12, .inl fu)), (m_kind, .inl (cI, 12, .inl (fun j => nI (Kd j)))), (m_toX, .inl (cI, 12, .inl (fun j => nI (X j)))), (m_toY, .inl (cI, 12, .inl (fun j => nI (Y j))))]) [0, 1, 2, 3, 4, 5, 6] (by decide) rfl
      have ej : odR (!decide (fu a < 0) && decide (fu a / 2 = nI p9)) (hmR Bo S fu a x) = 1 := by simp only [odR] <;> simp [hc15, hc16]
      have hP9 : va_P D vwCl [(g0, .inr (6, [.int 0, .int (nI n), .ref m_sea, .ref m_center, .ref m_home, .ref m_borders, .int 1, .int mt, .ref m_owner, .ref m_units, .ref m_kind, .ref m_toX, .ref m_toY, .ref m_results, .ref m_known, .ref m_reached, .ref m_way, .ref m_aside, .ref m_origin, .ref m_retreats, .ref m_contested, .ref m_moved, .int msh, .ref m_past])), (m_sea, .inl (cZ, 12, .inl (fun j => bI (S j)))), (m_borders, .inl (cZ, 144, .inl (fun j => bI (Bo j)))), (m_units, .inl (cI, 12, .inl fu)), (m_kind, .inl (cI, 12, .inl (fun j => nI (okN (odR (!decide (fu a < 0) && decide (fu a / 2 = nI p9)) (hmR Bo S fu a x)) Kd a 1 j)))), (m_toX, .inl (cI, 12, .inl (fun j => nI (okN (odR (!decide (fu a < 0) && decide (fu a / 2 = nI p9)) (hmR Bo S fu a x)) X a x j)))), (m_toY, .inl (cI, 12, .inl (fun j => nI (okN (odR (!decide (fu a < 0) && decide (fu a / 2 = nI p9)) (hmR Bo S fu a x)) Y a 0 j))))] H := by rw [ej]; exact hP9
      have hD9 : va_D A [(g0, .inr (6, [.int 0, .int (nI n), .ref m_sea, .ref m_center, .ref m_home, .ref m_borders, .int 1, .int mt, .ref m_owner, .ref m_units, .ref m_kind, .ref m_toX, .ref m_toY, .ref m_results, .ref m_known, .ref m_reached, .ref m_way, .ref m_aside, .ref m_origin, .ref m_retreats, .ref m_contested, .ref m_moved, .int msh, .ref m_past])), (m_sea, .inl (cZ, 12, .inl (fun j => bI (S j)))), (m_borders, .inl (cZ, 144, .inl (fun j => bI (Bo j)))), (m_units, .inl (cI, 12, .inl fu)), (m_kind, .inl (cI, 12, .inl (fun j => nI (okN (odR (!decide (fu a < 0) && decide (fu a / 2 = nI p9)) (hmR Bo S fu a x)) Kd a 1 j)))), (m_toX, .inl (cI, 12, .inl (fun j => nI (okN (odR (!decide (fu a < 0) && decide (fu a / 2 = nI p9)) (hmR Bo S fu a x)) X a x j)))), (m_toY, .inl (cI, 12, .inl (fun j => nI (okN (odR (!decide (fu a < 0) && decide (fu a / 2 = nI p9)) (hmR Bo S fu a x)) Y a 0 j))))] := by rw [ej]; exact hD9
      exact W.iret (v := 1) hx hb hr (fun t ht hW => ⟨⟨1, (), rfl, by rw [ej]; rfl, by rw [ht]; exact hP9, hD9⟩, hS.F ht⟩) hS.2.2 d_Mo_order_126


set_option maxHeartbeats 4000000 in
set_option maxRecDepth 100000 in
theorem c_Mo_order2 (l : Launch) (D : va_G) (cI cZ cJ cS : ClassId) (aT : Nat) (ceT : Cell) (sz : Nat) (g0 m_sea m_center m_home m_borders m_owner m_units m_kind m_toX m_toY m_results m_known m_reached m_way m_aside m_origin m_retreats m_contested m_moved m_past : Nat) (n : Nat) (co mt msh : Int32) (S : Nat → Bool) (Bo : Nat → Bool) (fu : Nat → Int32) (Kd : Nat → Nat) (X : Nat → Nat) (Y : Nat → Nat) (p9 a x y : Nat) (hKd : ∀ j, Kd j < 4) (hX9 : ∀ j, X j < 12) (hY9 : ∀ j, Y j < 12) (hn : n ≤ 12) (h_a : a < n) (h_p : p9 < 4) (h_x : x < n) (h_y : y < n) : Met l y_Mo_order w_Mo_order ({ frames := 3, cells := 0, slots := 0, locals := 70 }) (tH D cI cZ cJ cS aT ceT [.ref g0, .int (nI p9), .int (nI a), .int 2, .int (nI x), .int (nI y)] sz [(g0, .inr (6, [.int co, .int (nI n), .ref m_sea, .ref m_center, .ref m_home, .ref m_borders, .int 1, .int mt, .ref m_owner, .ref m_units, .ref m_kind, .ref m_toX, .ref m_toY, .ref m_results, .ref m_known, .ref m_reached, .ref m_way, .ref m_aside, .ref m_origin, .ref m_retreats, .ref m_contested, .ref m_moved, .int msh, .ref m_past])), (m_sea, .inl (cZ, 12, .inl (fun j => bI (S j)))), (m_borders, .inl (cZ, 144, .inl (fun j => bI (Bo j)))), (m_units, .inl (cI, 12, .inl fu)), (m_kind, .inl (cI, 12, .inl (fun j => nI (Kd j)))), (m_toX, .inl (cI, 12, .inl (fun j => nI (X j)))), (m_toY, .inl (cI, 12, .inl (fun j => nI (Y j))))]) (va_Qi (fun (r : Int32) (_ : Unit) => r = nI (odR (!decide (fu a < 0) && decide (fu a / 2 = nI p9)) (hsU Bo S fu a x y))) (fun _ t => tB D (va_A [(g0, .inr (6, [.int co, .int (nI n), .ref m_sea, .ref m_center, .ref m_home, .ref m_borders, .int 1, .int mt, .ref m_owner, .ref m_units, .ref m_kind, .ref m_toX, .ref m_toY, .ref m_results, .ref m_known, .ref m_reached, .ref m_way, .ref m_aside, .ref m_origin, .ref m_retreats, .ref m_contested, .ref m_moved, .int msh, .ref m_past])), (m_sea, .inl (cZ, 12, .inl (fun j => bI (S j)))), (m_borders, .inl (cZ, 144, .inl (fun j => bI (Bo j)))), (m_units, .inl (cI, 12, .inl fu)), (m_kind, .inl (cI, 12, .inl (fun j => nI (Kd j)))), (m_toX, .inl (cI, 12, .inl (fun j => nI (X j)))), (m_toY, .inl (cI, 12, .inl (fun j => nI (Y j))))] sz) [(g0, .inr (6, [.int 0, .int (nI n), .ref m_sea, .ref m_center, .ref m_home, .ref m_borders, .int 1, .int mt, .ref m_owner, .ref m_units, .ref m_kind, .ref m_toX, .ref m_toY, .ref m_results, .ref m_known, .ref m_reached, .ref m_way, .ref m_aside, .ref m_origin, .ref m_retreats, .ref m_contested, .ref m_moved, .int msh, .ref m_past])), (m_sea, .inl (cZ, 12, .inl (fun j => bI (S j)))), (m_borders, .inl (cZ, 144, .inl (fun j => bI (Bo j)))), (m_units, .inl (cI, 12, .inl fu)), (m_kind, .inl (cI, 12, .inl (fun j => nI (okN (odR (!decide (fu a < 0) && decide (fu a / 2 = nI p9)) (hsU Bo S fu a x y)) Kd a 2 j)))), (m_toX, .inl (cI, 12, .inl (fun j => nI (okN (odR (!decide (fu a < 0) && decide (fu a / 2 = nI p9)) (hsU Bo S fu a x y)) X a x j)))), (m_toY, .inl (cI, 12, .inl (fun j => nI (okN (odR (!decide (fu a < 0) && decide (fu a / 2 = nI p9)) (hsU Bo S fu a x y)) Y a y j))))] t) (va_A [(g0, .inr (6, [.int co, .int (nI n), .ref m_sea, .ref m_center, .ref m_home, .ref m_borders, .int 1, .int mt, .ref m_owner, .ref m_units, .ref m_kind, .ref m_toX, .ref m_toY, .ref m_results, .ref m_known, .ref m_reached, .ref m_way, .ref m_aside, .ref m_origin, .ref m_retreats, .ref m_contested, .ref m_moved, .int msh, .ref m_past])), (m_sea, .inl (cZ, 12, .inl (fun j => bI (S j)))), (m_borders, .inl (cZ, 144, .inl (fun j => bI (Bo j)))), (m_units, .inl (cI, 12, .inl fu)), (m_kind, .inl (cI, 12, .inl (fun j => nI (Kd j)))), (m_toX, .inl (cI, 12, .inl (fun j => nI (X j)))), (m_toY, .inl (cI, 12, .inl (fun j => nI (Y j))))] sz)) 0 0 (va_A [(g0, .inr (6, [.int co, .int (nI n), .ref m_sea, .ref m_center, .ref m_home, .ref m_borders, .int 1, .int mt, .ref m_owner, .ref m_units, .ref m_kind, .ref m_toX, .ref m_toY, .ref m_results, .ref m_known, .ref m_reached, .ref m_way, .ref m_aside, .ref m_origin, .ref m_retreats, .ref m_contested, .ref m_moved, .int msh, .ref m_past])), (m_sea, .inl (cZ, 12, .inl (fun j => bI (S j)))), (m_borders, .inl (cZ, 144, .inl (fun j => bI (Bo j)))), (m_units, .inl (cI, 12, .inl fu)), (m_kind, .inl (cI, 12, .inl (fun j => nI (Kd j)))), (m_toX, .inl (cI, 12, .inl (fun j => nI (X j)))), (m_toY, .inl (cI, 12, .inl (fun j => nI (Y j))))] sz) := by
  refine Met.ofW (cc := b_Mo_order) (maxL := 7) (ret := (some .int)) (by decide) rfl ?_
  intro p e s m args below meth c s₁ B hml hv
  obtain ⟨rfl, hsz, hP, hK, hD0, hX⟩ := hv
  have hx := B.exec
  have hb := B.bytes
  have hr := B.returns
  have hts0 := atoms_spec (ws := w_Mo_order) B.pre
  have hts : ∀ w ∈ TB, w.before _ s = true := fun w h => hts0 w (List.mem_cons_of_mem _ h)
  have hown : s.vm.findClass R_Mo = some m.cls := findClass_of_methodNamed B.named
  have hlocks := B.notSynchronized
  subst hsz
  have hXl := tx_lt hX
  have hXn := tx_far hP hX
  have hD := hD0.self (sz := s.heap.size)
  generalize hAe : va_A [(g0, .inr (6, [.int co, .int (nI n), .ref m_sea, .ref m_center, .ref m_home, .ref m_borders, .int 1, .int mt, .ref m_owner, .ref m_units, .ref m_kind, .ref m_toX, .ref m_toY, .ref m_results, .ref m_known, .ref m_reached, .ref m_way, .ref m_aside, .ref m_origin, .ref m_retreats, .ref m_contested, .ref m_moved, .int msh, .ref m_past])), (m_sea, .inl (cZ, 12, .inl (fun j => bI (S j)))), (m_borders, .inl (cZ, 144, .inl (fun j => bI (Bo j)))), (m_units, .inl (cI, 12, .inl fu)), (m_kind, .inl (cI, 12, .inl (fun j => nI (Kd j)))), (m_toX, .inl (cI, 12, .inl (fun j => nI (X j)))), (m_toY, .inl (cI, 12, .inl (fun j => nI (Y j))))] s.heap.size = A at hD hXn ⊢
  have hA : ∀ q : Nat, s.heap.size ≤ q → A q := fun q h => by rw [← hAe]; exact Or.inr h
  have hS : va_S A s.heap s.heap [] := va_S.rf
  have hXH : s.heap[aT]? = s.heap[aT]? := rfl
  have hl := lv_entry ([.ref g0, .int (nI p9), .int (nI a), .int 2, .int (nI x), .int (nI y)]) (n := 7) (Nat.le_of_ble_eq_true rfl)
  rw [lg_entry_eq]
  generalize (lg_sl ([.ref g0, .int (nI p9), .int (nI a), .int 2, .int (nI x), .int (nI y)]) ++ List.replicate (7 - (lg_sl ([.ref g0, .int (nI p9), .int (nI a), .int 2, .int (nI x), .int (nI y)])).length) Slot.unset).toArray = ls at hl ⊢
  have hl : lv_has ls 7 [(0, .ref g0), (1, .int (nI p9)), (2, .int (nI a)), (3, .int 2), (4, .int (nI x)), (5, .int (nI y))] := hl
  refine lv_iload_n hx hb d_Mo_order_0 rfl (lv_at hl 3 rfl) ?_
  refine lv_iconst (v := 1) hx hb d_Mo_order_1 (by decide) ?_
  refine lv_icmp_lt (tgt := 19) hx hb d_Mo_order_2 (by decide) (fun h0 => absurd h0 (by decide)) (fun _ => ?_)
  refine lv_iload_n hx hb d_Mo_order_5 rfl (lv_at hl 3 rfl) ?_
  refine lv_iconst (v := 3) hx hb d_Mo_order_6 (by decide) ?_
  refine lv_icmp_gt (tgt := 19) hx hb d_Mo_order_7 (by decide) (fun h0 => absurd h0 (by decide)) (fun _ => ?_)
  refine lv_aload_n hx hb d_Mo_order_10 rfl (lv_at hl 0 rfl) ?_
  refine lv_iload hx hb d_Mo_order_11 (lv_at hl 4 rfl) ?_
  have hPc := hP.sub (ws' := [(g0, .inr (6, [.int co, .int (nI n), .ref m_sea, .ref m_center, .ref m_home, .ref m_borders, .int 1, .int mt, .ref m_owner, .ref m_units, .ref m_kind, .ref m_toX, .ref m_toY, .ref m_results, .ref m_known, .ref m_reached, .ref m_way, .ref m_aside, .ref m_origin, .ref m_retreats, .ref m_contested, .ref m_moved, .int msh, .ref m_past]))]) [0] rfl
  refine vp_callSi (va_Run.run (va_runV (As := [.int (nI x)]) (rest := []) ⟨hx, hb, hml, hown, hts⟩ (c_Mo_isAreaY l D cI cZ cJ cS aT ceT  g0 m_sea m_center m_home m_borders m_owner m_units m_kind m_toX m_toY m_results m_known m_reached m_way m_aside m_origin m_retreats m_contested m_moved m_past n co 1 mt msh x hn h_x) (cwV 1 hts (tb_4 wd_790 wd_792 wp_36 wd_8 (tb_c wd_793)) rfl rfl rfl ⟨rfl, by decide, by decide, by decide +kernel⟩ ⟨Nat.le_of_ble_eq_true rfl, Nat.le_of_ble_eq_true rfl⟩) (tP_V hK hX (hS.2.1 aT hXl hXn) hPc (q := 0) rfl rfl) rfl rfl hl.1 rfl (lv_room (Nat.le_of_ble_eq_true rfl)) d_Mo_order_13 ⟨Nat.le_of_ble_eq_true rfl, Nat.le_of_ble_eq_true rfl⟩)) (fun r3 hr9 => ?_)
  rw [hr9]
  refine lv_if_eq (tgt := 42) hx hb d_Mo_order_16 (by decide) (fun h0 => absurd h0 (by decide)) (fun _ => ?_)
  refine lv_iload_n hx hb d_Mo_order_19 rfl (lv_at hl 3 rfl) ?_
  refine lv_iconst (v := 2) hx hb d_Mo_order_20 (by decide) ?_
  refine lv_icmp_lt (tgt := 38) hx hb d_Mo_order_21 (by decide) (fun h0 => absurd h0 (by decide)) (fun _ => ?_)
  refine lv_iload_n hx hb d_Mo_order_24 rfl (lv_at hl 3 rfl) ?_
  refine lv_iconst (v := 3) hx hb d_Mo_order_25 (by decide) ?_
  refine lv_icmp_gt (tgt := 38) hx hb d_Mo_order_26 (by decide) (fun h0 => absurd h0 (by decide)) (fun _ => ?_)
  refine lv_aload_n hx hb d_Mo_order_29 rfl (lv_at hl 0 rfl) ?_
  refine lv_iload hx hb d_Mo_order_30 (lv_at hl 5 rfl) ?_
  have hPc := hP.sub (ws' := [(g0, .inr (6, [.int co, .int (nI n), .ref m_sea, .ref m_center, .ref m_home, .ref m_borders, .int 1, .int mt, .ref m_owner, .ref m_units, .ref m_kind, .ref m_toX, .ref m_toY, .ref m_results, .ref m_known, .ref m_reached, .ref m_way, .ref m_aside, .ref m_origin, .ref m_retreats, .ref m_contested, .ref m_moved, .int msh, .ref m_past]))]) [0] rfl
  refine vp_callSi (va_Run.run (va_runV (As := [.int (nI y)]) (rest := []) ⟨hx, hb, hml, hown, hts⟩ (c_Mo_isAreaY l D cI cZ cJ cS aT ceT  g0 m_sea m_center m_home m_borders m_owner m_units m_kind m_toX m_toY m_results m_known m_reached m_way m_aside m_origin m_retreats m_contested m_moved m_past n co 1 mt msh y hn h_y) (cwV 1 hts (tb_4 wd_790 wd_792 wp_36 wd_8 (tb_c wd_793)) rfl rfl rfl ⟨rfl, by decide, by decide, by decide +kernel⟩ ⟨Nat.le_of_ble_eq_true rfl, Nat.le_of_ble_eq_true rfl⟩) (tP_V hK hX (hS.2.1 aT hXl hXn) hPc (q := 0) rfl rfl) rfl rfl hl.1 rfl (lv_room (Nat.le_of_ble_eq_true rfl)) d_Mo_order_32 ⟨Nat.le_of_ble_eq_true rfl, Nat.le_of_ble_eq_true rfl⟩)) (fun r7 hr9 => ?_)
  rw [hr9]
  refine lv_if_eq (tgt := 42) hx hb d_Mo_order_35 (by decide) (fun h0 => absurd h0 (by decide)) (fun _ => ?_)
  refine lv_iconst (v := 1) hx hb d_Mo_order_38 (by decide) ?_
  refine lv_goto (tgt := 43) hx hb d_Mo_order_39 (by decide) ?_
  refine lv_istore (lv' := [(6, .int 1), (0, .ref g0), (1, .int (nI p9)), (2, .int (nI a)), (3, .int 2), (4, .int (nI x)), (5, .int (nI y))]) hx hb d_Mo_order_43 hl (by decide) rfl (fun ls hl => ?_)
  refine lv_aload_n hx hb d_Mo_order_45 rfl (lv_at hl 1 rfl) ?_
  refine lv_iload_n hx hb d_Mo_order_46 rfl (lv_at hl 2 rfl) ?_
  have hPc := hP.sub (ws' := []) [] rfl
  refine vp_callSi (va_Run.run (va_runS (As := [.int (nI p9)]) (rest := [.ref g0]) ⟨hx, hb, hml, hown, hts⟩ (c_Mo_isPlayerY l D cI cZ cJ cS aT ceT  p9 h_p) (va_cwS 1 hts (tb_3 wd_802 wd_803 wd_8 (tb_c wd_804)) rfl rfl rfl ⟨by decide, by decide, by decide +kernel⟩ ⟨Nat.le_of_ble_eq_true rfl, Nat.le_of_ble_eq_true rfl⟩) (tP_S hK hX (hS.2.1 aT hXl hXn) hPc) rfl rfl hl.1 rfl (lv_room (Nat.le_of_ble_eq_true rfl)) d_Mo_order_47 ⟨Nat.le_of_ble_eq_true rfl, Nat.le_of_ble_eq_true rfl⟩)) (fun r9 hr9 => ?_)
  rw [hr9]
  refine lv_if_eq (tgt := 75) hx hb d_Mo_order_50 (by decide) (fun h0 => absurd h0 (by decide)) (fun _ => ?_)
  refine lv_aload_n hx hb d_Mo_order_53 rfl (lv_at hl 1 rfl) ?_
  refine lv_iload_n hx hb d_Mo_order_54 rfl (lv_at hl 3 rfl) ?_
  have hPc := hP.sub (ws' := [(g0, .inr (6, [.int co, .int (nI n), .ref m_sea, .ref m_center, .ref m_home, .ref m_borders, .int 1, .int mt, .ref m_owner, .ref m_units, .ref m_kind, .ref m_toX, .ref m_toY, .ref m_results, .ref m_known, .ref m_reached, .ref m_way, .ref m_aside, .ref m_origin, .ref m_retreats, .ref m_contested, .ref m_moved, .int msh, .ref m_past]))]) [0] rfl
  refine vp_callSi (va_Run.run (va_runV (As := [.int (nI a)]) (rest := [.ref g0]) ⟨hx, hb, hml, hown, hts⟩ (c_Mo_isAreaY l D cI cZ cJ cS aT ceT  g0 m_sea m_center m_home m_borders m_owner m_units m_kind m_toX m_toY m_results m_known m_reached m_way m_aside m_origin m_retreats m_contested m_moved m_past n co 1 mt msh a hn h_a) (cwV 1 hts (tb_4 wd_790 wd_792 wp_36 wd_8 (tb_c wd_793)) rfl rfl rfl ⟨rfl, by decide, by decide, by decide +kernel⟩ ⟨Nat.le_of_ble_eq_true rfl, Nat.le_of_ble_eq_true rfl⟩) (tP_V hK hX (hS.2.1 aT hXl hXn) hPc (q := 0) rfl rfl) rfl rfl hl.1 rfl (lv_room (Nat.le_of_ble_eq_true rfl)) d_Mo_order_55 ⟨Nat.le_of_ble_eq_true rfl, Nat.le_of_ble_eq_true rfl⟩)) (fun r11 hr9 => ?_)
  rw [hr9]
  refine lv_if_eq (tgt := 75) hx hb d_Mo_order_58 (by decide) (fun h0 => absurd h0 (by decide)) (fun _ => ?_)
  refine lv_iload_n hx hb d_Mo_order_61 rfl (lv_at hl 4 rfl) ?_
  refine lv_if_lt (tgt := 75) hx hb d_Mo_order_62 (by decide) (fun h0 => absurd h0 (by decide)) (fun _ => ?_)
  refine lv_iload_n hx hb d_Mo_order_65 rfl (lv_at hl 4 rfl) ?_
  refine lv_iconst (v := 3) hx hb d_Mo_order_66 (by decide) ?_
  refine lv_icmp_gt (tgt := 75) hx hb d_Mo_order_67 (by decide) (fun h0 => absurd h0 (by decide)) (fun _ => ?_)
  refine lv_iload hx hb d_Mo_order_70 (lv_at hl 0 rfl) ?_
  refine lv_if_ne (tgt := 79) hx hb d_Mo_order_72 (by decide) (fun _ => ?_) (fun h0 => absurd h0 (by decide))
  refine lv_aload_n hx hb d_Mo_order_79 rfl (lv_at hl 1 rfl) ?_
  refine va_get (D := D) (ci := 6) (v := .int 1) (C := R_Mo) (T := T_Mo) (N := 24) hx hb hts hin_Mo hown hK hP 0 rfl rfl 6 (by decide) (hts _ wd_710) (fun _ h9 => h9) rfl d_Mo_order_80 ?_
  refine lv_iconst (v := 1) hx hb d_Mo_order_83 (by decide) ?_
  refine lv_icmp_eq (tgt := 91) hx hb d_Mo_order_84 (by decide) (fun _ => ?_) (fun h0 => absurd (by decide) h0)
  refine lv_iconst (v := 0) hx hb d_Mo_order_91 (by decide) ?_
  refine va_put (D := D) (ci := 6) (v := .int 0) (ty := .int) (C := R_Mo) (T := T_Mo) (N := 24) hx hb hts hin_Mo ty_Mo tyok_Mo nm_Mo hown hK hP hD hS 0 rfl rfl 0 (by decide) (hts _ wd_704) (fun _ h9 => h9) rfl (by decide +kernel) rfl rfl (Nat.le_of_ble_eq_true rfl) d_Mo_order_92 (fun H locs hP hD hS => ?_)
  have hP : va_P D vwCl [(g0, .inr (6, [.int 0, .int (nI n), .ref m_sea, .ref m_center, .ref m_home, .ref m_borders, .int 1, .int mt, .ref m_owner, .ref m_units, .ref m_kind, .ref m_toX, .ref m_toY, .ref m_results, .ref m_known, .ref m_reached, .ref m_way, .ref m_aside, .ref m_origin, .ref m_retreats, .ref m_contested, .ref m_moved, .int msh, .ref m_past])), (m_sea, .inl (cZ, 12, .inl (fun j => bI (S j)))), (m_borders, .inl (cZ, 144, .inl (fun j => bI (Bo j)))), (m_units, .inl (cI, 12, .inl fu)), (m_kind, .inl (cI, 12, .inl (fun j => nI (Kd j)))), (m_toX, .inl (cI, 12, .inl (fun j => nI (X j)))), (m_toY, .inl (cI, 12, .inl (fun j => nI (Y j))))] H := hP
  have hD : va_D A [(g0, .inr (6, [.int 0, .int (nI n), .ref m_sea, .ref m_center, .ref m_home, .ref m_borders, .int 1, .int mt, .ref m_owner, .ref m_units, .ref m_kind, .ref m_toX, .ref m_toY, .ref m_results, .ref m_known, .ref m_reached, .ref m_way, .ref m_aside, .ref m_origin, .ref m_retreats, .ref m_contested, .ref m_moved, .int msh, .ref m_past])), (m_sea, .inl (cZ, 12, .inl (fun j => bI (S j)))), (m_borders, .inl (cZ, 144, .inl (fun j => bI (Bo j)))), (m_units, .inl (cI, 12, .inl fu)), (m_kind, .inl (cI, 12, .inl (fun j => nI (Kd j)))), (m_toX, .inl (cI, 12, .inl (fun j => nI (X j)))), (m_toY, .inl (cI, 12, .inl (fun j => nI (Y j))))] := hD
  refine lv_aload_n hx hb d_Mo_order_95 rfl (lv_at hl 1 rfl) ?_
  refine va_get (D := D) (ci := 6) (v := .int 0) (C := R_Mo) (T := T_Mo) (N := 24) hx hb hts hin_Mo hown hK hP 0 rfl rfl 0 (by decide) (hts _ wd_704) (fun _ h9 => h9) rfl d_Mo_order_96 ?_
  refine lv_if_eq (tgt := 104) hx hb d_Mo_order_99 (by decide) (fun _ => ?_) (fun h0 => absurd (by decide) h0)
  refine lv_aload_n hx hb d_Mo_order_104 rfl (lv_at hl 1 rfl) ?_
  refine va_get (D := D) (ci := 6) (v := .ref m_units) (C := R_Mo) (T := T_Mo) (N := 24) hx hb hts hin_Mo hown hK hP 0 rfl rfl 9 (by decide) (hts _ wd_713) (fun _ h9 => h9) rfl d_Mo_order_105 ?_
  refine lv_iload_n hx hb d_Mo_order_108 rfl (lv_at hl 3 rfl) ?_
  refine tr_iald (v := fu a) hx hb hK hP 3 0 rfl rfl a (Nat.lt_of_lt_of_le h_a hn) (by decide) rfl d_Mo_order_109 ?_
  refine lv_if_lt (tgt := 125) hx hb d_Mo_order_110 (by decide) (fun hc18 => ?_) (fun hc18 => ?_)
  · -- 110 taken
    refine lv_iconst (v := 1) hx hb d_Mo_order_125 (by decide) ?_
    have hP9 := hP.sub (ws' := [(g0, .inr (6, [.int 0, .int (nI n), .ref m_sea, .ref m_center, .ref m_home, .ref m_borders, .int 1, .int mt, .ref m_owner, .ref m_units, .ref m_kind, .ref m_toX, .ref m_toY, .ref m_results, .ref m_known, .ref m_reached, .ref m_way, .ref m_aside, .ref m_origin, .ref m_retreats, .ref m_contested, .ref m_moved, .int msh, .ref m_past])), (m_sea, .inl (cZ, 12, .inl (fun j => bI (S j)))), (m_borders, .inl (cZ, 144, .inl (fun j => bI (Bo j)))), (m_units, .inl (cI, 12, .inl fu)), (m_kind, .inl (cI, 12, .inl (fun j => nI (Kd j)))), (m_toX, .inl (cI, 12, .inl (fun j => nI (X j)))), (m_toY, .inl (cI, 12, .inl (fun j => nI (Y j))))]) [0, 1, 2, 3, 4, 5, 6] rfl
    have hD9 := hD.sub (ws' := [(g0, .inr (6, [.int 0, .int (nI n), .ref m_sea, .ref m_center, .ref m_home, .ref m_borders, .int 1, .int mt, .ref m_owner, .ref m_units, .ref m_kind, .ref m_toX, .ref m_toY, .ref m_results, .ref m_known, .ref m_reached, .ref m_way, .ref m_aside, .ref m_origin, .ref m_retreats, .ref m_contested, .ref m_moved, .int msh, .ref m_past])), (m_sea, .inl (cZ, 12, .inl (fun j => bI (S j)))), (m_borders, .inl (cZ, 144, .inl (fun j => bI (Bo j)))), (m_units, .inl (cI, 12, .inl fu)), (m_kind, .inl (cI, 12, .inl (fun j => nI (Kd j)))), (m_toX, .inl (cI, 12, .inl (fun j => nI (X j)))), (m_toY, .inl (cI, 12, .inl (fun j => nI (Y j))))]) [0, 1, 2, 3, 4, 5, 6] (by decide) rfl
    have ej : odR (!decide (fu a < 0) && decide (fu a / 2 = nI p9)) (hsU Bo S fu a x y) = 1 := by simp only [odR] <;> simp [hc18]
    have hP9 : va_P D vwCl [(g0, .inr (6, [.int 0, .int (nI n), .ref m_sea, .ref m_center, .ref m_home, .ref m_borders, .int 1, .int mt, .ref m_owner, .ref m_units, .ref m_kind, .ref m_toX, .ref m_toY, .ref m_results, .ref m_known, .ref m_reached, .ref m_way, .ref m_aside, .ref m_origin, .ref m_retreats, .ref m_contested, .ref m_moved, .int msh, .ref m_past])), (m_sea, .inl (cZ, 12, .inl (fun j => bI (S j)))), (m_borders, .inl (cZ, 144, .inl (fun j => bI (Bo j)))), (m_units, .inl (cI, 12, .inl fu)), (m_kind, .inl (cI, 12, .inl (fun j => nI (okN (odR (!decide (fu a < 0) && decide (fu a / 2 = nI p9)) (hsU Bo S fu a x y)) Kd a 2 j)))), (m_toX, .inl (cI, 12, .inl (fun j => nI (okN (odR (!decide (fu a < 0) && decide (fu a / 2 = nI p9)) (hsU Bo S fu a x y)) X a x j)))), (m_toY, .inl (cI, 12, .inl (fun j => nI (okN (odR (!decide (fu a < 0) && decide (fu a / 2 = nI p9)) (hsU Bo S fu a x y)) Y a y j))))] H := by rw [ej]; exact hP9
    have hD9 : va_D A [(g0, .inr (6, [.int 0, .int (nI n), .ref m_sea, .ref m_center, .ref m_home, .ref m_borders, .int 1, .int mt, .ref m_owner, .ref m_units, .ref m_kind, .ref m_toX, .ref m_toY, .ref m_results, .ref m_known, .ref m_reached, .ref m_way, .ref m_aside, .ref m_origin, .ref m_retreats, .ref m_contested, .ref m_moved, .int msh, .ref m_past])), (m_sea, .inl (cZ, 12, .inl (fun j => bI (S j)))), (m_borders, .inl (cZ, 144, .inl (fun j => bI (Bo j)))), (m_units, .inl (cI, 12, .inl fu)), (m_kind, .inl (cI, 12, .inl (fun j => nI (okN (odR (!decide (fu a < 0) && decide (fu a / 2 = nI p9)) (hsU Bo S fu a x y)) Kd a 2 j)))), (m_toX, .inl (cI, 12, .inl (fun j => nI (okN (odR (!decide (fu a < 0) && decide (fu a / 2 = nI p9)) (hsU Bo S fu a x y)) X a x j)))), (m_toY, .inl (cI, 12, .inl (fun j => nI (okN (odR (!decide (fu a < 0) && decide (fu a / 2 = nI p9)) (hsU Bo S fu a x y)) Y a y j))))] := by rw [ej]; exact hD9
    exact W.iret (v := 1) hx hb hr (fun t ht hW => ⟨⟨1, (), rfl, by rw [ej]; rfl, by rw [ht]; exact hP9, hD9⟩, hS.F ht⟩) hS.2.2 d_Mo_order_126
  · -- 110 not taken
    refine lv_aload_n hx hb d_Mo_order_113 rfl (lv_at hl 1 rfl) ?_
    refine va_get (D := D) (ci := 6) (v := .ref m_units) (C := R_Mo) (T := T_Mo) (N := 24) hx hb hts hin_Mo hown hK hP 0 rfl rfl 9 (by decide) (hts _ wd_713) (fun _ h9 => h9) rfl d_Mo_order_114 ?_
    refine lv_iload_n hx hb d_Mo_order_117 rfl (lv_at hl 3 rfl) ?_
    refine tr_iald (v := fu a) hx hb hK hP 3 0 rfl rfl a (Nat.lt_of_lt_of_le h_a hn) (by decide) rfl d_Mo_order_118 ?_
    refine lv_iconst (v := 2) hx hb d_Mo_order_119 (by decide) ?_
    refine lv_idiv hx hb d_Mo_order_120 (by decide) ?_
    refine lv_iload_n hx hb d_Mo_order_121 rfl (lv_at hl 2 rfl) ?_
    refine lv_icmp_eq (tgt := 127) hx hb d_Mo_order_122 (by decide) (fun hc19 => ?_) (fun hc19 => ?_)
    · -- 122 taken
      refine lv_aload_n hx hb d_Mo_order_127 rfl (lv_at hl 1 rfl) ?_
      refine lv_iload_n hx hb d_Mo_order_128 rfl (lv_at hl 3 rfl) ?_
      refine lv_iload_n hx hb d_Mo_order_129 rfl (lv_at hl 4 rfl) ?_
      refine lv_iload hx hb d_Mo_order_130 (lv_at hl 5 rfl) ?_
      refine lv_iload hx hb d_Mo_order_132 (lv_at hl 6 rfl) ?_
      have hPc := hP.sub (ws' := [(g0, .inr (6, [.int 0, .int (nI n), .ref m_sea, .ref m_center, .ref m_home, .ref m_borders, .int 1, .int mt, .ref m_owner, .ref m_units, .ref m_kind, .ref m_toX, .ref m_toY, .ref m_results, .ref m_known, .ref m_reached, .ref m_way, .ref m_aside, .ref m_origin, .ref m_retreats, .ref m_contested, .ref m_moved, .int msh, .ref m_past])), (m_sea, .inl (cZ, 12, .inl (fun j => bI (S j)))), (m_borders, .inl (cZ, 144, .inl (fun j => bI (Bo j)))), (m_units, .inl (cI, 12, .inl fu))]) [0, 1, 2, 3] rfl
      refine vp_callSi (va_Run.run (va_runV (As := [.int (nI a), .int 2, .int (nI x), .int (nI y)]) (rest := []) ⟨hx, hb, hml, hown, hts⟩ (c_Mo_canHave2 l D cI cZ cJ cS aT ceT  g0 m_sea m_center m_home m_borders m_owner m_units m_kind m_toX m_toY m_results m_known m_reached m_way m_aside m_origin m_retreats m_contested m_moved m_past n 0 1 mt msh S Bo fu a x y (Nat.lt_of_lt_of_le h_a hn) (Nat.lt_of_lt_of_le h_x hn) (Nat.lt_of_lt_of_le h_y hn)) (cwV 4 hts (tb_4 wd_825 wd_827 wp_41 wd_8 (tb_c wd_828)) rfl rfl rfl ⟨rfl, by decide, by decide, by decide +kernel⟩ ⟨Nat.le_of_ble_eq_true rfl, Nat.le_of_ble_eq_true rfl⟩) (tP_V hK hX (hS.2.1 aT hXl hXn) hPc (q := 0) rfl rfl) rfl rfl hl.1 rfl (lv_room (Nat.le_of_ble_eq_true rfl)) d_Mo_order_134 ⟨Nat.le_of_ble_eq_true rfl, Nat.le_of_ble_eq_true rfl⟩)) (fun r20 hr9 => ?_)
      rw [hr9]
      rcases bI_c (hsU Bo S fu a x y) with ⟨hb22, e9⟩ | ⟨hb22, e9⟩
      · refine tr_top e9 ?_
        refine lv_if_ne (tgt := 142) hx hb d_Mo_order_137 (by decide) (fun _ => ?_) (fun h0 => absurd h0 (by decide))
        refine lv_aload_n hx hb d_Mo_order_142 rfl (lv_at hl 1 rfl) ?_
        refine va_get (D := D) (ci := 6) (v := .ref m_kind) (C := R_Mo) (T := T_Mo) (N := 24) hx hb hts hin_Mo hown hK hP 0 rfl rfl 10 (by decide) (hts _ wd_714) (fun _ h9 => h9) rfl d_Mo_order_143 ?_
        refine lv_iload_n hx hb d_Mo_order_146 rfl (lv_at hl 3 rfl) ?_
        refine lv_iload_n hx hb d_Mo_order_147 rfl (lv_at hl 4 rfl) ?_
        refine tr_iast (g := fun j => nI (upN Kd a 2 j)) hx hb hK hP hD hS 4 0 rfl rfl a (Nat.lt_of_lt_of_le h_a hn) (by decide) (upN_I Kd a 2) d_Mo_order_148 (fun H locs hP hD hS => ?_)
        have hP : va_P D vwCl [(g0, .inr (6, [.int 0, .int (nI n), .ref m_sea, .ref m_center, .ref m_home, .ref m_borders, .int 1, .int mt, .ref m_owner, .ref m_units, .ref m_kind, .ref m_toX, .ref m_toY, .ref m_results, .ref m_known, .ref m_reached, .ref m_way, .ref m_aside, .ref m_origin, .ref m_retreats, .ref m_contested, .ref m_moved, .int msh, .ref m_past])), (m_sea, .inl (cZ, 12, .inl (fun j => bI (S j)))), (m_borders, .inl (cZ, 144, .inl (fun j => bI (Bo j)))), (m_units, .inl (cI, 12, .inl fu)), (m_kind, .inl (cI, 12, .inl (fun j => nI (upN Kd a 2 j)))), (m_toX, .inl (cI, 12, .inl (fun j => nI (X j)))), (m_toY, .inl (cI, 12, .inl (fun j => nI (Y j))))] H := hP
        have hD : va_D A [(g0, .inr (6, [.int 0, .int (nI n), .ref m_sea, .ref m_center, .ref m_home, .ref m_borders, .int 1, .int mt, .ref m_owner, .ref m_units, .ref m_kind, .ref m_toX, .ref m_toY, .ref m_results, .ref m_known, .ref m_reached, .ref m_way, .ref m_aside, .ref m_origin, .ref m_retreats, .ref m_contested, .ref m_moved, .int msh, .ref m_past])), (m_sea, .inl (cZ, 12, .inl (fun j => bI (S j)))), (m_borders, .inl (cZ, 144, .inl (fun j => bI (Bo j)))), (m_units, .inl (cI, 12, .inl fu)), (m_kind, .inl (cI, 12, .inl (fun j => nI (upN Kd a 2 j)))), (m_toX, .inl (cI, 12, .inl (fun j => nI (X j)))), (m_toY, .inl (cI, 12, .inl (fun j => nI (Y j))))] := hD
        refine lv_aload_n hx hb d_Mo_order_149 rfl (lv_at hl 1 rfl) ?_
        refine va_get (D := D) (ci := 6) (v := .ref m_toX) (C := R_Mo) (T := T_Mo) (N := 24) hx hb hts hin_Mo hown hK hP 0 rfl rfl 11 (by decide) (hts _ wd_715) (fun _ h9 => h9) rfl d_Mo_order_150 ?_
        refine lv_iload_n hx hb d_Mo_order_153 rfl (lv_at hl 3 rfl) ?_
        refine lv_iload_n hx hb d_Mo_order_154 rfl (lv_at hl 4 rfl) ?_
        refine lv_if_le (tgt := 163) hx hb d_Mo_order_155 (by decide) (fun h0 => absurd h0 (by decide)) (fun _ => ?_)
        refine lv_iload hx hb d_Mo_order_158 (lv_at hl 5 rfl) ?_
        refine lv_goto (tgt := 164) hx hb d_Mo_order_160 (by decide) ?_
        refine tr_iast (g := fun j => nI (upN X a x j)) hx hb hK hP hD hS 5 0 rfl rfl a (Nat.lt_of_lt_of_le h_a hn) (by decide) (upN_I X a x) d_Mo_order_164 (fun H locs hP hD hS => ?_)
        have hP : va_P D vwCl [(g0, .inr (6, [.int 0, .int (nI n), .ref m_sea, .ref m_center, .ref m_home, .ref m_borders, .int 1, .int mt, .ref m_owner, .ref m_units, .ref m_kind, .ref m_toX, .ref m_toY, .ref m_results, .ref m_known, .ref m_reached, .ref m_way, .ref m_aside, .ref m_origin, .ref m_retreats, .ref m_contested, .ref m_moved, .int msh, .ref m_past])), (m_sea, .inl (cZ, 12, .inl (fun j => bI (S j)))), (m_borders, .inl (cZ, 144, .inl (fun j => bI (Bo j)))), (m_units, .inl (cI, 12, .inl fu)), (m_kind, .inl (cI, 12, .inl (fun j => nI (upN Kd a 2 j)))), (m_toX, .inl (cI, 12, .inl (fun j => nI (upN X a x j)))), (m_toY, .inl (cI, 12, .inl (fun j => nI (Y j))))] H := hP
        have hD : va_D A [(g0, .inr (6, [.int 0, .int (nI n), .ref m_sea, .ref m_center, .ref m_home, .ref m_borders, .int 1, .int mt, .ref m_owner, .ref m_units, .ref m_kind, .ref m_toX, .ref m_toY, .ref m_results, .ref m_known, .ref m_reached, .ref m_way, .ref m_aside, .ref m_origin, .ref m_retreats, .ref m_contested, .ref m_moved, .int msh, .ref m_past])), (m_sea, .inl (cZ, 12, .inl (fun j => bI (S j)))), (m_borders, .inl (cZ, 144, .inl (fun j => bI (Bo j)))), (m_units, .inl (cI, 12, .inl fu)), (m_kind, .inl (cI, 12, .inl (fun j => nI (upN Kd a 2 j)))), (m_toX, .inl (cI, 12, .inl (fun j => nI (upN X a x j)))), (m_toY, .inl (cI, 12, .inl (fun j => nI (Y j))))] := hD
        refine lv_aload_n hx hb d_Mo_order_165 rfl (lv_at hl 1 rfl) ?_
        refine va_get (D := D) (ci := 6) (v := .ref m_toY) (C := R_Mo) (T := T_Mo) (N := 24) hx hb hts hin_Mo hown hK hP 0 rfl rfl 12 (by decide) (hts _ wd_716) (fun _ h9 => h9) rfl d_Mo_order_166 ?_
        refine lv_iload_n hx hb d_Mo_order_169 rfl (lv_at hl 3 rfl) ?_
        refine lv_iload_n hx hb d_Mo_order_170 rfl (lv_at hl 4 rfl) ?_
        refine lv_iconst (v := 1) hx hb d_Mo_order_171 (by decide) ?_
        refine lv_icmp_le (tgt := 180) hx hb d_Mo_order_172 (by decide) (fun h0 => absurd h0 (by decide)) (fun _ => ?_)
        refine lv_iload hx hb d_Mo_order_175 (lv_at hl 6 rfl) ?_
        refine lv_goto (tgt := 181) hx hb d_Mo_order_177 (by decide) ?_
        refine tr_iast (g := fun j => nI (upN Y a y j)) hx hb hK hP hD hS 6 0 rfl rfl a (Nat.lt_of_lt_of_le h_a hn) (by decide) (upN_I Y a y) d_Mo_order_181 (fun H locs hP hD hS => ?_)
        have hP : va_P D vwCl [(g0, .inr (6, [.int 0, .int (nI n), .ref m_sea, .ref m_center, .ref m_home, .ref m_borders, .int 1, .int mt, .ref m_owner, .ref m_units, .ref m_kind, .ref m_toX, .ref m_toY, .ref m_results, .ref m_known, .ref m_reached, .ref m_way, .ref m_aside, .ref m_origin, .ref m_retreats, .ref m_contested, .ref m_moved, .int msh, .ref m_past])), (m_sea, .inl (cZ, 12, .inl (fun j => bI (S j)))), (m_borders, .inl (cZ, 144, .inl (fun j => bI (Bo j)))), (m_units, .inl (cI, 12, .inl fu)), (m_kind, .inl (cI, 12, .inl (fun j => nI (upN Kd a 2 j)))), (m_toX, .inl (cI, 12, .inl (fun j => nI (upN X a x j)))), (m_toY, .inl (cI, 12, .inl (fun j => nI (upN Y a y j))))] H := hP
        have hD : va_D A [(g0, .inr (6, [.int 0, .int (nI n), .ref m_sea, .ref m_center, .ref m_home, .ref m_borders, .int 1, .int mt, .ref m_owner, .ref m_units, .ref m_kind, .ref m_toX, .ref m_toY, .ref m_results, .ref m_known, .ref m_reached, .ref m_way, .ref m_aside, .ref m_origin, .ref m_retreats, .ref m_contested, .ref m_moved, .int msh, .ref m_past])), (m_sea, .inl (cZ, 12, .inl (fun j => bI (S j)))), (m_borders, .inl (cZ, 144, .inl (fun j => bI (Bo j)))), (m_units, .inl (cI, 12, .inl fu)), (m_kind, .inl (cI, 12, .inl (fun j => nI (upN Kd a 2 j)))), (m_toX, .inl (cI, 12, .inl (fun j => nI (upN X a x j)))), (m_toY, .inl (cI, 12, .inl (fun j => nI (upN Y a y j))))] := hD
        refine lv_iconst (v := 0) hx hb d_Mo_order_182 (by decide) ?_
        have hP9 := hP.sub (ws' := [(g0, .inr (6, [.int 0, .int (nI n), .ref m_sea, .ref m_center, .ref m_home, .ref m_borders, .int 1, .int mt, .ref m_owner, .ref m_units, .ref m_kind, .ref m_toX, .ref m_toY, .ref m_results, .ref m_known, .ref m_reached, .ref m_way, .ref m_aside, .ref m_origin, .ref m_retreats, .ref m_contested, .ref m_moved, .int msh, .ref m_past])), (m_sea, .inl (cZ, 12, .inl (fun j => bI (S j)))), (m_borders, .inl (cZ, 144, .inl (fun j => bI (Bo j)))), (m_units, .inl (cI, 12, .inl fu)), (m_kind, .inl (cI, 12, .inl (fun j => nI (upN Kd a 2 j)))), (m_toX, .inl (cI, 12, .inl (fun j => nI (upN X a x j)))), (m_toY, .inl (cI, 12, .inl (fun j => nI (upN Y a y j))))]) [0, 1, 2, 3, 4, 5, 6] rfl
        have hD9 := hD.sub (ws' := [(g0, .inr (6, [.int 0, .int (nI n), .ref m_sea, .ref m_center, .ref m_home, .ref m_borders, .int 1, .int mt, .ref m_owner, .ref m_units, .ref m_kind, .ref m_toX, .ref m_toY, .ref m_results, .ref m_known, .ref m_reached, .ref m_way, .ref m_aside, .ref m_origin, .ref m_retreats, .ref m_contested, .ref m_moved, .int msh, .ref m_past])), (m_sea, .inl (cZ, 12, .inl (fun j => bI (S j)))), (m_borders, .inl (cZ, 144, .inl (fun j => bI (Bo j)))), (m_units, .inl (cI, 12, .inl fu)), (m_kind, .inl (cI, 12, .inl (fun j => nI (upN Kd a 2 j)))), (m_toX, .inl (cI, 12, .inl (fun j => nI (upN X a x j)))), (m_toY, .inl (cI, 12, .inl (fun j => nI (upN Y a y j))))]) [0, 1, 2, 3, 4, 5, 6] (by decide) rfl
        have ej : odR (!decide (fu a < 0) && decide (fu a / 2 = nI p9)) (hsU Bo S fu a x y) = 0 := by simp only [odR, hb22] <;> simp [hc18, hc19, hb22]
        have hP9 : va_P D vwCl [(g0, .inr (6, [.int 0, .int (nI n), .ref m_sea, .ref m_center, .ref m_home, .ref m_borders, .int 1, .int mt, .ref m_owner, .ref m_units, .ref m_kind, .ref m_toX, .ref m_toY, .ref m_results, .ref m_known, .ref m_reached, .ref m_way, .ref m_aside, .ref m_origin, .ref m_retreats, .ref m_contested, .ref m_moved, .int msh, .ref m_past])), (m_sea, .inl (cZ, 12, .inl (fun j => bI (S j)))), (m_borders, .inl (cZ, 144, .inl (fun j => bI (Bo j)))), (m_units, .inl (cI, 12, .inl fu)), (m_kind, .inl (cI, 12, .inl (fun j => nI (okN (odR (!decide (fu a < 0) && decide (fu a / 2 = nI p9)) (hsU Bo S fu a x y)) Kd a 2 j)))), (m_toX, .inl (cI, 12, .inl (fun j => nI (okN (odR (!decide (fu a < 0) && decide (fu a / 2 = nI p9)) (hsU Bo S fu a x y)) X a x j)))), (m_toY, .inl (cI, 12, .inl (fun j => nI (okN (odR (!decide (fu a < 0) && decide (fu a / 2 = nI p9)) (hsU Bo S fu a x y)) Y a y j))))] H := by rw [ej]; exact hP9
        have hD9 : va_D A [(g0, .inr (6, [.int 0, .int (nI n), .ref m_sea, .ref m_center, .ref m_home, .ref m_borders, .int 1, .int mt, .ref m_owner, .ref m_units, .ref m_kind, .ref m_toX, .ref m_toY, .ref m_results, .ref m_known, .ref m_reached, .ref m_way, .ref m_aside, .ref m_origin, .ref m_retreats, .ref m_contested, .ref m_moved, .int msh, .ref m_past])), (m_sea, .inl (cZ, 12, .inl (fun j => bI (S j)))), (m_borders, .inl (cZ, 144, .inl (fun j => bI (Bo j)))), (m_units, .inl (cI, 12, .inl fu)), (m_kind, .inl (cI, 12, .inl (fun j => nI (okN (odR (!decide (fu a < 0) && decide (fu a / 2 = nI p9)) (hsU Bo S fu a x y)) Kd a 2 j)))), (m_toX, .inl (cI, 12, .inl (fun j => nI (okN (odR (!decide (fu a < 0) && decide (fu a / 2 = nI p9)) (hsU Bo S fu a x y)) X a x j)))), (m_toY, .inl (cI, 12, .inl (fun j => nI (okN (odR (!decide (fu a < 0) && decide (fu a / 2 = nI p9)) (hsU Bo S fu a x y)) Y a y j))))] := by rw [ej]; exact hD9
        exact W.iret (v := 0) hx hb hr (fun t ht hW => ⟨⟨0, (), rfl, by rw [ej]; rfl, by rw [ht]; exact hP9, hD9⟩, hS.F ht⟩) hS.2.2 d_Mo_order_183
      · refine tr_top e9 ?_
        refine lv_if_ne (tgt := 142) hx hb d_Mo_order_137 (by decide) (fun h0 => absurd (by decide) h0) (fun _ => ?_)
        refine lv_iconst (v := 2) hx hb d_Mo_order_140 (by decide) ?_
        have hP9 := hP.sub (ws' := [(g0, .inr (6, [.int 0, .int (nI n), .ref m_sea, .ref m_center, .ref m_home, .ref m_borders, .int 1, .int mt, .ref m_owner, .ref m_units, .ref m_kind, .ref m_toX, .ref m_toY, .ref m_results, .ref m_known, .ref m_reached, .ref m_way, .ref m_aside, .ref m_origin, .ref m_retreats, .ref m_contested, .ref m_moved, .int msh, .ref m_past])), (m_sea, .inl (cZ, 12, .inl (fun j => bI (S j)))), (m_borders, .inl (cZ, 144, .inl (fun j => bI (Bo j)))), (m_units, .inl (cI, 12, .inl fu)), (m_kind, .inl (cI, 12, .inl (fun j => nI (Kd j)))), (m_toX, .inl (cI, 12, .inl (fun j => nI (X j)))), (m_toY, .inl (cI, 12, .inl (fun j => nI (Y j))))]) [0, 1, 2, 3, 4, 5, 6] rfl
        have hD9 := hD.sub (ws' := [(g0, .inr (6, [.int 0, .int (nI n), .ref m_sea, .ref m_center, .ref m_home, .ref m_borders, .int 1, .int mt, .ref m_owner, .ref m_units, .ref m_kind, .ref m_toX, .ref m_toY, .ref m_results, .ref m_known, .ref m_reached, .ref m_way, .ref m_aside, .ref m_origin, .ref m_retreats, .ref m_contested, .ref m_moved, .int msh, .ref m_past])), (m_sea, .inl (cZ, 12, .inl (fun j => bI (S j)))), (m_borders, .inl (cZ, 144, .inl (fun j => bI (Bo j)))), (m_units, .inl (cI, 12, .inl fu)), (m_kind, .inl (cI, 12, .inl (fun j => nI (Kd j)))), (m_toX, .inl (cI, 12, .inl (fun j => nI (X j)))), (m_toY, .inl (cI, 12, .inl (fun j => nI (Y j))))]) [0, 1, 2, 3, 4, 5, 6] (by decide) rfl
        have ej : odR (!decide (fu a < 0) && decide (fu a / 2 = nI p9)) (hsU Bo S fu a x y) = 2 := by simp only [odR, hb22] <;> simp [hc18, hc19, hb22]
        have hP9 : va_P D vwCl [(g0, .inr (6, [.int 0, .int (nI n), .ref m_sea, .ref m_center, .ref m_home, .ref m_borders, .int 1, .int mt, .ref m_owner, .ref m_units, .ref m_kind, .ref m_toX, .ref m_toY, .ref m_results, .ref m_known, .ref m_reached, .ref m_way, .ref m_aside, .ref m_origin, .ref m_retreats, .ref m_contested, .ref m_moved, .int msh, .ref m_past])), (m_sea, .inl (cZ, 12, .inl (fun j => bI (S j)))), (m_borders, .inl (cZ, 144, .inl (fun j => bI (Bo j)))), (m_units, .inl (cI, 12, .inl fu)), (m_kind, .inl (cI, 12, .inl (fun j => nI (okN (odR (!decide (fu a < 0) && decide (fu a / 2 = nI p9)) (hsU Bo S fu a x y)) Kd a 2 j)))), (m_toX, .inl (cI, 12, .inl (fun j => nI (okN (odR (!decide (fu a < 0) && decide (fu a / 2 = nI p9)) (hsU Bo S fu a x y)) X a x j)))), (m_toY, .inl (cI, 12, .inl (fun j => nI (okN (odR (!decide (fu a < 0) && decide (fu a / 2 = nI p9)) (hsU Bo S fu a x y)) Y a y j))))] H := by rw [ej]; exact hP9
        have hD9 : va_D A [(g0, .inr (6, [.int 0, .int (nI n), .ref m_sea, .ref m_center, .ref m_home, .ref m_borders, .int 1, .int mt, .ref m_owner, .ref m_units, .ref m_kind, .ref m_toX, .ref m_toY, .ref m_results, .ref m_known, .ref m_reached, .ref m_way, .ref m_aside, .ref m_origin, .ref m_retreats, .ref m_contested, .ref m_moved, .int msh, .ref m_past])), (m_sea, .inl (cZ, 12, .inl (fun j => bI (S j)))), (m_borders, .inl (cZ, 144, .inl (fun j => bI (Bo j)))), (m_units, .inl (cI, 12, .inl fu)), (m_kind, .inl (cI, 12, .inl (fun j => nI (okN (odR (!decide (fu a < 0) && decide (fu a / 2 = nI p9)) (hsU Bo S fu a x y)) Kd a 2 j)))), (m_toX, .inl (cI, 12, .inl (fun j => nI (okN (odR (!decide (fu a < 0) && decide (fu a / 2 = nI p9)) (hsU Bo S fu a x y)) X a x j)))), (m_toY, .inl (cI, 12, .inl (fun j => nI (okN (odR (!decide (fu a < 0) && decide (fu a / 2 = nI p9)) (hsU Bo S fu a x y)) Y a y j))))] := by rw [ej]; exact hD9
        exact W.iret (v := 2) hx hb hr (fun t ht hW => ⟨⟨2, (), rfl, by rw [ej]; rfl, by rw [ht]; exact hP9, hD9⟩, hS.F ht⟩) hS.2.2 d_Mo_order_141
    · -- 122 not taken
      refine lv_iconst (v := 1) hx hb d_Mo_order_125 (by decide) ?_
      have hP9 := hP.sub (ws' := [(g0, .inr (6, [.int 0, .int (nI n), .ref m_sea, .ref m_center, .ref m_home, .ref m_borders, .int 1, .int mt, .ref m_owner, .ref m_units, .ref m_kind, .ref m_toX, .ref m_toY, .ref m_results, .ref m_known, .ref m_reached, .ref m_way, .ref m_aside, .ref m_origin, .ref m_retreats, .ref m_contested, .ref m_moved, .int msh, .ref m_past])), (m_sea, .inl (cZ, 12, .inl (fun j => bI (S j)))), (m_borders, .inl (cZ, 144, .inl (fun j => bI (Bo j)))), (m_units, .inl (cI, 12, .inl fu)), (m_kind, .inl (cI, 12, .inl (fun j => nI (Kd j)))), (m_toX, .inl (cI, 12, .inl (fun j => nI (X j)))), (m_toY, .inl (cI, 12, .inl (fun j => nI (Y j))))]) [0, 1, 2, 3, 4, 5, 6] rfl
      have hD9 := hD.sub (ws' := [(g0, .inr (6, [.int 0, .int (nI n), .ref m_sea, .ref m_center, .ref m_home, .ref m_borders, .int 1, .int mt, .ref m_owner, .ref m_units, .ref m_kind, .ref m_toX, .ref m_toY, .ref m_results, .ref m_known, .ref m_reached, .ref m_way, .ref m_aside, .ref m_origin, .ref m_retreats, .ref m_contested, .ref m_moved, .int msh, .ref m_past])), (m_sea, .inl (cZ, 12, .inl (fun j => bI (S j)))), (m_borders, .inl (cZ, 144, .inl (fun j => bI (Bo j)))), (m_units, .inl (cI, 12, .inl fu)), (m_kind, .inl (cI, 12, .inl (fun j => nI (Kd j)))), (m_toX, .inl (cI, 12, .inl (fun j => nI (X j)))), (m_toY, .inl (cI, 12, .inl (fun j => nI (Y j))))]) [0, 1, 2, 3, 4, 5, 6] (by decide) rfl
      have ej : odR (!decide (fu a < 0) && decide (fu a / 2 = nI p9)) (hsU Bo S fu a x y) = 1 := by simp only [odR] <;> simp [hc18, hc19]
      have hP9 : va_P D vwCl [(g0, .inr (6, [.int 0, .int (nI n), .ref m_sea, .ref m_center, .ref m_home, .ref m_borders, .int 1, .int mt, .ref m_owner, .ref m_units, .ref m_kind, .ref m_toX, .ref m_toY, .ref m_results, .ref m_known, .ref m_reached, .ref m_way, .ref m_aside, .ref m_origin, .ref m_retreats, .ref m_contested, .ref m_moved, .int msh, .ref m_past])), (m_sea, .inl (cZ, 12, .inl (fun j => bI (S j)))), (m_borders, .inl (cZ, 144, .inl (fun j => bI (Bo j)))), (m_units, .inl (cI, 12, .inl fu)), (m_kind, .inl (cI, 12, .inl (fun j => nI (okN (odR (!decide (fu a < 0) && decide (fu a / 2 = nI p9)) (hsU Bo S fu a x y)) Kd a 2 j)))), (m_toX, .inl (cI, 12, .inl (fun j => nI (okN (odR (!decide (fu a < 0) && decide (fu a / 2 = nI p9)) (hsU Bo S fu a x y)) X a x j)))), (m_toY, .inl (cI, 12, .inl (fun j => nI (okN (odR (!decide (fu a < 0) && decide (fu a / 2 = nI p9)) (hsU Bo S fu a x y)) Y a y j))))] H := by rw [ej]; exact hP9
      have hD9 : va_D A [(g0, .inr (6, [.int 0, .int (nI n), .ref m_sea, .ref m_center, .ref m_home, .ref m_borders, .int 1, .int mt, .ref m_owner, .ref m_units, .ref m_kind, .ref m_toX, .ref m_toY, .ref m_results, .ref m_known, .ref m_reached, .ref m_way, .ref m_aside, .ref m_origin, .ref m_retreats, .ref m_contested, .ref m_moved, .int msh, .ref m_past])), (m_sea, .inl (cZ, 12, .inl (fun j => bI (S j)))), (m_borders, .inl (cZ, 144, .inl (fun j => bI (Bo j)))), (m_units, .inl (cI, 12, .inl fu)), (m_kind, .inl (cI, 12, .inl (fun j => nI (okN (odR (!decide (fu a < 0) && decide (fu a / 2 = nI p9)) (hsU Bo S fu a x y)) Kd a 2 j)))), (m_toX, .inl (cI, 12, .inl (fun j => nI (okN (odR (!decide (fu a < 0) && decide (fu a / 2 = nI p9)) (hsU Bo S fu a x y)) X a x j)))), (m_toY, .inl (cI, 12, .inl (fun j => nI (okN (odR (!decide (fu a < 0) && decide (fu a / 2 = nI p9)) (hsU Bo S fu a x y)) Y a y j))))] := by rw [ej]; exact hD9
      exact W.iret (v := 1) hx hb hr (fun t ht hW => ⟨⟨1, (), rfl, by rw [ej]; rfl, by rw [ht]; exact hP9, hD9⟩, hS.F ht⟩) hS.2.2 d_Mo_order_126


set_option maxHeartbeats 4000000 in
set_option maxRecDepth 100000 in
theorem c_Mo_order3 (l : Launch) (D : va_G) (cI cZ cJ cS : ClassId) (aT : Nat) (ceT : Cell) (sz : Nat) (g0 m_sea m_center m_home m_borders m_owner m_units m_kind m_toX m_toY m_results m_known m_reached m_way m_aside m_origin m_retreats m_contested m_moved m_past : Nat) (n : Nat) (co mt msh : Int32) (S : Nat → Bool) (Bo : Nat → Bool) (fu : Nat → Int32) (Kd : Nat → Nat) (X : Nat → Nat) (Y : Nat → Nat) (p9 a x y : Nat) (hKd : ∀ j, Kd j < 4) (hX9 : ∀ j, X j < 12) (hY9 : ∀ j, Y j < 12) (hn : n ≤ 12) (h_a : a < n) (h_p : p9 < 4) (h_x : x < n) (h_y : y < n) : Met l y_Mo_order w_Mo_order ({ frames := 3, cells := 0, slots := 0, locals := 70 }) (tH D cI cZ cJ cS aT ceT [.ref g0, .int (nI p9), .int (nI a), .int 3, .int (nI x), .int (nI y)] sz [(g0, .inr (6, [.int co, .int (nI n), .ref m_sea, .ref m_center, .ref m_home, .ref m_borders, .int 1, .int mt, .ref m_owner, .ref m_units, .ref m_kind, .ref m_toX, .ref m_toY, .ref m_results, .ref m_known, .ref m_reached, .ref m_way, .ref m_aside, .ref m_origin, .ref m_retreats, .ref m_contested, .ref m_moved, .int msh, .ref m_past])), (m_sea, .inl (cZ, 12, .inl (fun j => bI (S j)))), (m_borders, .inl (cZ, 144, .inl (fun j => bI (Bo j)))), (m_units, .inl (cI, 12, .inl fu)), (m_kind, .inl (cI, 12, .inl (fun j => nI (Kd j)))), (m_toX, .inl (cI, 12, .inl (fun j => nI (X j)))), (m_toY, .inl (cI, 12, .inl (fun j => nI (Y j))))]) (va_Qi (fun (r : Int32) (_ : Unit) => r = nI (odR (!decide (fu a < 0) && decide (fu a / 2 = nI p9)) (hcR S fu a x y))) (fun _ t => tB D (va_A [(g0, .inr (6, [.int co, .int (nI n), .ref m_sea, .ref m_center, .ref m_home, .ref m_borders, .int 1, .int mt, .ref m_owner, .ref m_units, .ref m_kind, .ref m_toX, .ref m_toY, .ref m_results, .ref m_known, .ref m_reached, .ref m_way, .ref m_aside, .ref m_origin, .ref m_retreats, .ref m_contested, .ref m_moved, .int msh, .ref m_past])), (m_sea, .inl (cZ, 12, .inl (fun j => bI (S j)))), (m_borders, .inl (cZ, 144, .inl (fun j => bI (Bo j)))), (m_units, .inl (cI, 12, .inl fu)), (m_kind, .inl (cI, 12, .inl (fun j => nI (Kd j)))), (m_toX, .inl (cI, 12, .inl (fun j => nI (X j)))), (m_toY, .inl (cI, 12, .inl (fun j => nI (Y j))))] sz) [(g0, .inr (6, [.int 0, .int (nI n), .ref m_sea, .ref m_center, .ref m_home, .ref m_borders, .int 1, .int mt, .ref m_owner, .ref m_units, .ref m_kind, .ref m_toX, .ref m_toY, .ref m_results, .ref m_known, .ref m_reached, .ref m_way, .ref m_aside, .ref m_origin, .ref m_retreats, .ref m_contested, .ref m_moved, .int msh, .ref m_past])), (m_sea, .inl (cZ, 12, .inl (fun j => bI (S j)))), (m_borders, .inl (cZ, 144, .inl (fun j => bI (Bo j)))), (m_units, .inl (cI, 12, .inl fu)), (m_kind, .inl (cI, 12, .inl (fun j => nI (okN (odR (!decide (fu a < 0) && decide (fu a / 2 = nI p9)) (hcR S fu a x y)) Kd a 3 j)))), (m_toX, .inl (cI, 12, .inl (fun j => nI (okN (odR (!decide (fu a < 0) && decide (fu a / 2 = nI p9)) (hcR S fu a x y)) X a x j)))), (m_toY, .inl (cI, 12, .inl (fun j => nI (okN (odR (!decide (fu a < 0) && decide (fu a / 2 = nI p9)) (hcR S fu a x y)) Y a y j))))] t) (va_A [(g0, .inr (6, [.int co, .int (nI n), .ref m_sea, .ref m_center, .ref m_home, .ref m_borders, .int 1, .int mt, .ref m_owner, .ref m_units, .ref m_kind, .ref m_toX, .ref m_toY, .ref m_results, .ref m_known, .ref m_reached, .ref m_way, .ref m_aside, .ref m_origin, .ref m_retreats, .ref m_contested, .ref m_moved, .int msh, .ref m_past])), (m_sea, .inl (cZ, 12, .inl (fun j => bI (S j)))), (m_borders, .inl (cZ, 144, .inl (fun j => bI (Bo j)))), (m_units, .inl (cI, 12, .inl fu)), (m_kind, .inl (cI, 12, .inl (fun j => nI (Kd j)))), (m_toX, .inl (cI, 12, .inl (fun j => nI (X j)))), (m_toY, .inl (cI, 12, .inl (fun j => nI (Y j))))] sz)) 0 0 (va_A [(g0, .inr (6, [.int co, .int (nI n), .ref m_sea, .ref m_center, .ref m_home, .ref m_borders, .int 1, .int mt, .ref m_owner, .ref m_units, .ref m_kind, .ref m_toX, .ref m_toY, .ref m_results, .ref m_known, .ref m_reached, .ref m_way, .ref m_aside, .ref m_origin, .ref m_retreats, .ref m_contested, .ref m_moved, .int msh, .ref m_past])), (m_sea, .inl (cZ, 12, .inl (fun j => bI (S j)))), (m_borders, .inl (cZ, 144, .inl (fun j => bI (Bo j)))), (m_units, .inl (cI, 12, .inl fu)), (m_kind, .inl (cI, 12, .inl (fun j => nI (Kd j)))), (m_toX, .inl (cI, 12, .inl (fun j => nI (X j)))), (m_toY, .inl (cI, 12, .inl (fun j => nI (Y j))))] sz) := by
  refine Met.ofW (cc := b_Mo_order) (maxL := 7) (ret := (some .int)) (by decide) rfl ?_
  intro p e s m args below meth c s₁ B hml hv
  obtain ⟨rfl, hsz, hP, hK, hD0, hX⟩ := hv
  have hx := B.exec
  have hb := B.bytes
  have hr := B.returns
  have hts0 := atoms_spec (ws := w_Mo_order) B.pre
  have hts : ∀ w ∈ TB, w.before _ s = true := fun w h => hts0 w (List.mem_cons_of_mem _ h)
  have hown : s.vm.findClass R_Mo = some m.cls := findClass_of_methodNamed B.named
  have hlocks := B.notSynchronized
  subst hsz
  have hXl := tx_lt hX
  have hXn := tx_far hP hX
  have hD := hD0.self (sz := s.heap.size)
  generalize hAe : va_A [(g0, .inr (6, [.int co, .int (nI n), .ref m_sea, .ref m_center, .ref m_home, .ref m_borders, .int 1, .int mt, .ref m_owner, .ref m_units, .ref m_kind, .ref m_toX, .ref m_toY, .ref m_results, .ref m_known, .ref m_reached, .ref m_way, .ref m_aside, .ref m_origin, .ref m_retreats, .ref m_contested, .ref m_moved, .int msh, .ref m_past])), (m_sea, .inl (cZ, 12, .inl (fun j => bI (S j)))), (m_borders, .inl (cZ, 144, .inl (fun j => bI (Bo j)))), (m_units, .inl (cI, 12, .inl fu)), (m_kind, .inl (cI, 12, .inl (fun j => nI (Kd j)))), (m_toX, .inl (cI, 12, .inl (fun j => nI (X j)))), (m_toY, .inl (cI, 12, .inl (fun j => nI (Y j))))] s.heap.size = A at hD hXn ⊢
  have hA : ∀ q : Nat, s.heap.size ≤ q → A q := fun q h => by rw [← hAe]; exact Or.inr h
  have hS : va_S A s.heap s.heap [] := va_S.rf
  have hXH : s.heap[aT]? = s.heap[aT]? := rfl
  have hl := lv_entry ([.ref g0, .int (nI p9), .int (nI a), .int 3, .int (nI x), .int (nI y)]) (n := 7) (Nat.le_of_ble_eq_true rfl)
  rw [lg_entry_eq]
  generalize (lg_sl ([.ref g0, .int (nI p9), .int (nI a), .int 3, .int (nI x), .int (nI y)]) ++ List.replicate (7 - (lg_sl ([.ref g0, .int (nI p9), .int (nI a), .int 3, .int (nI x), .int (nI y)])).length) Slot.unset).toArray = ls at hl ⊢
  have hl : lv_has ls 7 [(0, .ref g0), (1, .int (nI p9)), (2, .int (nI a)), (3, .int 3), (4, .int (nI x)), (5, .int (nI y))] := hl
  refine lv_iload_n hx hb d_Mo_order_0 rfl (lv_at hl 3 rfl) ?_
  refine lv_iconst (v := 1) hx hb d_Mo_order_1 (by decide) ?_
  refine lv_icmp_lt (tgt := 19) hx hb d_Mo_order_2 (by decide) (fun h0 => absurd h0 (by decide)) (fun _ => ?_)
  refine lv_iload_n hx hb d_Mo_order_5 rfl (lv_at hl 3 rfl) ?_
  refine lv_iconst (v := 3) hx hb d_Mo_order_6 (by decide) ?_
  refine lv_icmp_gt (tgt := 19) hx hb d_Mo_order_7 (by decide) (fun h0 => absurd h0 (by decide)) (fun _ => ?_)
  refine lv_aload_n hx hb d_Mo_order_10 rfl (lv_at hl 0 rfl) ?_
  refine lv_iload hx hb d_Mo_order_11 (lv_at hl 4 rfl) ?_
  have hPc := hP.sub (ws' := [(g0, .inr (6, [.int co, .int (nI n), .ref m_sea, .ref m_center, .ref m_home, .ref m_borders, .int 1, .int mt, .ref m_owner, .ref m_units, .ref m_kind, .ref m_toX, .ref m_toY, .ref m_results, .ref m_known, .ref m_reached, .ref m_way, .ref m_aside, .ref m_origin, .ref m_retreats, .ref m_contested, .ref m_moved, .int msh, .ref m_past]))]) [0] rfl
  refine vp_callSi (va_Run.run (va_runV (As := [.int (nI x)]) (rest := []) ⟨hx, hb, hml, hown, hts⟩ (c_Mo_isAreaY l D cI cZ cJ cS aT ceT  g0 m_sea m_center m_home m_borders m_owner m_units m_kind m_toX m_toY m_results m_known m_reached m_way m_aside m_origin m_retreats m_contested m_moved m_past n co 1 mt msh x hn h_x) (cwV 1 hts (tb_4 wd_790 wd_792 wp_36 wd_8 (tb_c wd_793)) rfl rfl rfl ⟨rfl, by decide, by decide, by decide +kernel⟩ ⟨Nat.le_of_ble_eq_true rfl, Nat.le_of_ble_eq_true rfl⟩) (tP_V hK hX (hS.2.1 aT hXl hXn) hPc (q := 0) rfl rfl) rfl rfl hl.1 rfl (lv_room (Nat.le_of_ble_eq_true rfl)) d_Mo_order_13 ⟨Nat.le_of_ble_eq_true rfl, Nat.le_of_ble_eq_true rfl⟩)) (fun r3 hr9 => ?_)
  rw [hr9]
  refine lv_if_eq (tgt := 42) hx hb d_Mo_order_16 (by decide) (fun h0 => absurd h0 (by decide)) (fun _ => ?_)
  refine lv_iload_n hx hb d_Mo_order_19 rfl (lv_at hl 3 rfl) ?_
  refine lv_iconst (v := 2) hx hb d_Mo_order_20 (by decide) ?_
  refine lv_icmp_lt (tgt := 38) hx hb d_Mo_order_21 (by decide) (fun h0 => absurd h0 (by decide)) (fun _ => ?_)
  refine lv_iload_n hx hb d_Mo_order_24 rfl (lv_at hl 3 rfl) ?_
  refine lv_iconst (v := 3) hx hb d_Mo_order_25 (by decide) ?_
  refine lv_icmp_gt (tgt := 38) hx hb d_Mo_order_26 (by decide) (fun h0 => absurd h0 (by decide)) (fun _ => ?_)
  refine lv_aload_n hx hb d_Mo_order_29 rfl (lv_at hl 0 rfl) ?_
  refine lv_iload hx hb d_Mo_order_30 (lv_at hl 5 rfl) ?_
  have hPc := hP.sub (ws' := [(g0, .inr (6, [.int co, .int (nI n), .ref m_sea, .ref m_center, .ref m_home, .ref m_borders, .int 1, .int mt, .ref m_owner, .ref m_units, .ref m_kind, .ref m_toX, .ref m_toY, .ref m_results, .ref m_known, .ref m_reached, .ref m_way, .ref m_aside, .ref m_origin, .ref m_retreats, .ref m_contested, .ref m_moved, .int msh, .ref m_past]))]) [0] rfl
  refine vp_callSi (va_Run.run (va_runV (As := [.int (nI y)]) (rest := []) ⟨hx, hb, hml, hown, hts⟩ (c_Mo_isAreaY l D cI cZ cJ cS aT ceT  g0 m_sea m_center m_home m_borders m_owner m_units m_kind m_toX m_toY m_results m_known m_reached m_way m_aside m_origin m_retreats m_contested m_moved m_past n co 1 mt msh y hn h_y) (cwV 1 hts (tb_4 wd_790 wd_792 wp_36 wd_8 (tb_c wd_793)) rfl rfl rfl ⟨rfl, by decide, by decide, by decide +kernel⟩ ⟨Nat.le_of_ble_eq_true rfl, Nat.le_of_ble_eq_true rfl⟩) (tP_V hK hX (hS.2.1 aT hXl hXn) hPc (q := 0) rfl rfl) rfl rfl hl.1 rfl (lv_room (Nat.le_of_ble_eq_true rfl)) d_Mo_order_32 ⟨Nat.le_of_ble_eq_true rfl, Nat.le_of_ble_eq_true rfl⟩)) (fun r7 hr9 => ?_)
  rw [hr9]
  refine lv_if_eq (tgt := 42) hx hb d_Mo_order_35 (by decide) (fun h0 => absurd h0 (by decide)) (fun _ => ?_)
  refine lv_iconst (v := 1) hx hb d_Mo_order_38 (by decide) ?_
  refine lv_goto (tgt := 43) hx hb d_Mo_order_39 (by decide) ?_
  refine lv_istore (lv' := [(6, .int 1), (0, .ref g0), (1, .int (nI p9)), (2, .int (nI a)), (3, .int 3), (4, .int (nI x)), (5, .int (nI y))]) hx hb d_Mo_order_43 hl (by decide) rfl (fun ls hl => ?_)
  refine lv_aload_n hx hb d_Mo_order_45 rfl (lv_at hl 1 rfl) ?_
  refine lv_iload_n hx hb d_Mo_order_46 rfl (lv_at hl 2 rfl) ?_
  have hPc := hP.sub (ws' := []) [] rfl
  refine vp_callSi (va_Run.run (va_runS (As := [.int (nI p9)]) (rest := [.ref g0]) ⟨hx, hb, hml, hown, hts⟩ (c_Mo_isPlayerY l D cI cZ cJ cS aT ceT  p9 h_p) (va_cwS 1 hts (tb_3 wd_802 wd_803 wd_8 (tb_c wd_804)) rfl rfl rfl ⟨by decide, by decide, by decide +kernel⟩ ⟨Nat.le_of_ble_eq_true rfl, Nat.le_of_ble_eq_true rfl⟩) (tP_S hK hX (hS.2.1 aT hXl hXn) hPc) rfl rfl hl.1 rfl (lv_room (Nat.le_of_ble_eq_true rfl)) d_Mo_order_47 ⟨Nat.le_of_ble_eq_true rfl, Nat.le_of_ble_eq_true rfl⟩)) (fun r9 hr9 => ?_)
  rw [hr9]
  refine lv_if_eq (tgt := 75) hx hb d_Mo_order_50 (by decide) (fun h0 => absurd h0 (by decide)) (fun _ => ?_)
  refine lv_aload_n hx hb d_Mo_order_53 rfl (lv_at hl 1 rfl) ?_
  refine lv_iload_n hx hb d_Mo_order_54 rfl (lv_at hl 3 rfl) ?_
  have hPc := hP.sub (ws' := [(g0, .inr (6, [.int co, .int (nI n), .ref m_sea, .ref m_center, .ref m_home, .ref m_borders, .int 1, .int mt, .ref m_owner, .ref m_units, .ref m_kind, .ref m_toX, .ref m_toY, .ref m_results, .ref m_known, .ref m_reached, .ref m_way, .ref m_aside, .ref m_origin, .ref m_retreats, .ref m_contested, .ref m_moved, .int msh, .ref m_past]))]) [0] rfl
  refine vp_callSi (va_Run.run (va_runV (As := [.int (nI a)]) (rest := [.ref g0]) ⟨hx, hb, hml, hown, hts⟩ (c_Mo_isAreaY l D cI cZ cJ cS aT ceT  g0 m_sea m_center m_home m_borders m_owner m_units m_kind m_toX m_toY m_results m_known m_reached m_way m_aside m_origin m_retreats m_contested m_moved m_past n co 1 mt msh a hn h_a) (cwV 1 hts (tb_4 wd_790 wd_792 wp_36 wd_8 (tb_c wd_793)) rfl rfl rfl ⟨rfl, by decide, by decide, by decide +kernel⟩ ⟨Nat.le_of_ble_eq_true rfl, Nat.le_of_ble_eq_true rfl⟩) (tP_V hK hX (hS.2.1 aT hXl hXn) hPc (q := 0) rfl rfl) rfl rfl hl.1 rfl (lv_room (Nat.le_of_ble_eq_true rfl)) d_Mo_order_55 ⟨Nat.le_of_ble_eq_true rfl, Nat.le_of_ble_eq_true rfl⟩)) (fun r11 hr9 => ?_)
  rw [hr9]
  refine lv_if_eq (tgt := 75) hx hb d_Mo_order_58 (by decide) (fun h0 => absurd h0 (by decide)) (fun _ => ?_)
  refine lv_iload_n hx hb d_Mo_order_61 rfl (lv_at hl 4 rfl) ?_
  refine lv_if_lt (tgt := 75) hx hb d_Mo_order_62 (by decide) (fun h0 => absurd h0 (by decide)) (fun _ => ?_)
  refine lv_iload_n hx hb d_Mo_order_65 rfl (lv_at hl 4 rfl) ?_
  refine lv_iconst (v := 3) hx hb d_Mo_order_66 (by decide) ?_
  refine lv_icmp_gt (tgt := 75) hx hb d_Mo_order_67 (by decide) (fun h0 => absurd h0 (by decide)) (fun _ => ?_)
  refine lv_iload hx hb d_Mo_order_70 (lv_at hl 0 rfl) ?_
  refine lv_if_ne (tgt := 79) hx hb d_Mo_order_72 (by decide) (fun _ => ?_) (fun h0 => absurd h0 (by decide))
  refine lv_aload_n hx hb d_Mo_order_79 rfl (lv_at hl 1 rfl) ?_
  refine va_get (D := D) (ci := 6) (v := .int 1) (C := R_Mo) (T := T_Mo) (N := 24) hx hb hts hin_Mo hown hK hP 0 rfl rfl 6 (by decide) (hts _ wd_710) (fun _ h9 => h9) rfl d_Mo_order_80 ?_
  refine lv_iconst (v := 1) hx hb d_Mo_order_83 (by decide) ?_
  refine lv_icmp_eq (tgt := 91) hx hb d_Mo_order_84 (by decide) (fun _ => ?_) (fun h0 => absurd (by decide) h0)
  refine lv_iconst (v := 0) hx hb d_Mo_order_91 (by decide) ?_
  refine va_put (D := D) (ci := 6) (v := .int 0) (ty := .int) (C := R_Mo) (T := T_Mo) (N := 24) hx hb hts hin_Mo ty_Mo tyok_Mo nm_Mo hown hK hP hD hS 0 rfl rfl 0 (by decide) (hts _ wd_704) (fun _ h9 => h9) rfl (by decide +kernel) rfl rfl (Nat.le_of_ble_eq_true rfl) d_Mo_order_92 (fun H locs hP hD hS => ?_)
  have hP : va_P D vwCl [(g0, .inr (6, [.int 0, .int (nI n), .ref m_sea, .ref m_center, .ref m_home, .ref m_borders, .int 1, .int mt, .ref m_owner, .ref m_units, .ref m_kind, .ref m_toX, .ref m_toY, .ref m_results, .ref m_known, .ref m_reached, .ref m_way, .ref m_aside, .ref m_origin, .ref m_retreats, .ref m_contested, .ref m_moved, .int msh, .ref m_past])), (m_sea, .inl (cZ, 12, .inl (fun j => bI (S j)))), (m_borders, .inl (cZ, 144, .inl (fun j => bI (Bo j)))), (m_units, .inl (cI, 12, .inl fu)), (m_kind, .inl (cI, 12, .inl (fun j => nI (Kd j)))), (m_toX, .inl (cI, 12, .inl (fun j => nI (X j)))), (m_toY, .inl (cI, 12, .inl (fun j => nI (Y j))))] H := hP
  have hD : va_D A [(g0, .inr (6, [.int 0, .int (nI n), .ref m_sea, .ref m_center, .ref m_home, .ref m_borders, .int 1, .int mt, .ref m_owner, .ref m_units, .ref m_kind, .ref m_toX, .ref m_toY, .ref m_results, .ref m_known, .ref m_reached, .ref m_way, .ref m_aside, .ref m_origin, .ref m_retreats, .ref m_contested, .ref m_moved, .int msh, .ref m_past])), (m_sea, .inl (cZ, 12, .inl (fun j => bI (S j)))), (m_borders, .inl (cZ, 144, .inl (fun j => bI (Bo j)))), (m_units, .inl (cI, 12, .inl fu)), (m_kind, .inl (cI, 12, .inl (fun j => nI (Kd j)))), (m_toX, .inl (cI, 12, .inl (fun j => nI (X j)))), (m_toY, .inl (cI, 12, .inl (fun j => nI (Y j))))] := hD
  refine lv_aload_n hx hb d_Mo_order_95 rfl (lv_at hl 1 rfl) ?_
  refine va_get (D := D) (ci := 6) (v := .int 0) (C := R_Mo) (T := T_Mo) (N := 24) hx hb hts hin_Mo hown hK hP 0 rfl rfl 0 (by decide) (hts _ wd_704) (fun _ h9 => h9) rfl d_Mo_order_96 ?_
  refine lv_if_eq (tgt := 104) hx hb d_Mo_order_99 (by decide) (fun _ => ?_) (fun h0 => absurd (by decide) h0)
  refine lv_aload_n hx hb d_Mo_order_104 rfl (lv_at hl 1 rfl) ?_
  refine va_get (D := D) (ci := 6) (v := .ref m_units) (C := R_Mo) (T := T_Mo) (N := 24) hx hb hts hin_Mo hown hK hP 0 rfl rfl 9 (by decide) (hts _ wd_713) (fun _ h9 => h9) rfl d_Mo_order_105 ?_
  refine lv_iload_n hx hb d_Mo_order_108 rfl (lv_at hl 3 rfl) ?_
  refine tr_iald (v := fu a) hx hb hK hP 3 0 rfl rfl a (Nat.lt_of_lt_of_le h_a hn) (by decide) rfl d_Mo_order_109 ?_
  refine lv_if_lt (tgt := 125) hx hb d_Mo_order_110 (by decide) (fun hc18 => ?_) (fun hc18 => ?_)
  · -- 110 taken
    refine lv_iconst (v := 1) hx hb d_Mo_order_125 (by decide) ?_
    have hP9 := hP.sub (ws' := [(g0, .inr (6, [.int 0, .int (nI n), .ref m_sea, .ref m_center, .ref m_home, .ref m_borders, .int 1, .int mt, .ref m_owner, .ref m_units, .ref m_kind, .ref m_toX, .ref m_toY, .ref m_results, .ref m_known, .ref m_reached, .ref m_way, .ref m_aside, .ref m_origin, .ref m_retreats, .ref m_contested, .ref m_moved, .int msh, .ref m_past])), (m_sea, .inl (cZ, 12, .inl (fun j => bI (S j)))), (m_borders, .inl (cZ, 144, .inl (fun j => bI (Bo j)))), (m_units, .inl (cI, 12, .inl fu)), (m_kind, .inl (cI, 12, .inl (fun j => nI (Kd j)))), (m_toX, .inl (cI, 12, .inl (fun j => nI (X j)))), (m_toY, .inl (cI, 12, .inl (fun j => nI (Y j))))]) [0, 1, 2, 3, 4, 5, 6] rfl
    have hD9 := hD.sub (ws' := [(g0, .inr (6, [.int 0, .int (nI n), .ref m_sea, .ref m_center, .ref m_home, .ref m_borders, .int 1, .int mt, .ref m_owner, .ref m_units, .ref m_kind, .ref m_toX, .ref m_toY, .ref m_results, .ref m_known, .ref m_reached, .ref m_way, .ref m_aside, .ref m_origin, .ref m_retreats, .ref m_contested, .ref m_moved, .int msh, .ref m_past])), (m_sea, .inl (cZ, 12, .inl (fun j => bI (S j)))), (m_borders, .inl (cZ, 144, .inl (fun j => bI (Bo j)))), (m_units, .inl (cI, 12, .inl fu)), (m_kind, .inl (cI, 12, .inl (fun j => nI (Kd j)))), (m_toX, .inl (cI, 12, .inl (fun j => nI (X j)))), (m_toY, .inl (cI, 12, .inl (fun j => nI (Y j))))]) [0, 1, 2, 3, 4, 5, 6] (by decide) rfl
    have ej : odR (!decide (fu a < 0) && decide (fu a / 2 = nI p9)) (hcR S fu a x y) = 1 := by simp only [odR] <;> simp [hc18]
    have hP9 : va_P D vwCl [(g0, .inr (6, [.int 0, .int (nI n), .ref m_sea, .ref m_center, .ref m_home, .ref m_borders, .int 1, .int mt, .ref m_owner, .ref m_units, .ref m_kind, .ref m_toX, .ref m_toY, .ref m_results, .ref m_known, .ref m_reached, .ref m_way, .ref m_aside, .ref m_origin, .ref m_retreats, .ref m_contested, .ref m_moved, .int msh, .ref m_past])), (m_sea, .inl (cZ, 12, .inl (fun j => bI (S j)))), (m_borders, .inl (cZ, 144, .inl (fun j => bI (Bo j)))), (m_units, .inl (cI, 12, .inl fu)), (m_kind, .inl (cI, 12, .inl (fun j => nI (okN (odR (!decide (fu a < 0) && decide (fu a / 2 = nI p9)) (hcR S fu a x y)) Kd a 3 j)))), (m_toX, .inl (cI, 12, .inl (fun j => nI (okN (odR (!decide (fu a < 0) && decide (fu a / 2 = nI p9)) (hcR S fu a x y)) X a x j)))), (m_toY, .inl (cI, 12, .inl (fun j => nI (okN (odR (!decide (fu a < 0) && decide (fu a / 2 = nI p9)) (hcR S fu a x y)) Y a y j))))] H := by rw [ej]; exact hP9
    have hD9 : va_D A [(g0, .inr (6, [.int 0, .int (nI n), .ref m_sea, .ref m_center, .ref m_home, .ref m_borders, .int 1, .int mt, .ref m_owner, .ref m_units, .ref m_kind, .ref m_toX, .ref m_toY, .ref m_results, .ref m_known, .ref m_reached, .ref m_way, .ref m_aside, .ref m_origin, .ref m_retreats, .ref m_contested, .ref m_moved, .int msh, .ref m_past])), (m_sea, .inl (cZ, 12, .inl (fun j => bI (S j)))), (m_borders, .inl (cZ, 144, .inl (fun j => bI (Bo j)))), (m_units, .inl (cI, 12, .inl fu)), (m_kind, .inl (cI, 12, .inl (fun j => nI (okN (odR (!decide (fu a < 0) && decide (fu a / 2 = nI p9)) (hcR S fu a x y)) Kd a 3 j)))), (m_toX, .inl (cI, 12, .inl (fun j => nI (okN (odR (!decide (fu a < 0) && decide (fu a / 2 = nI p9)) (hcR S fu a x y)) X a x j)))), (m_toY, .inl (cI, 12, .inl (fun j => nI (okN (odR (!decide (fu a < 0) && decide (fu a / 2 = nI p9)) (hcR S fu a x y)) Y a y j))))] := by rw [ej]; exact hD9
    exact W.iret (v := 1) hx hb hr (fun t ht hW => ⟨⟨1, (), rfl, by rw [ej]; rfl, by rw [ht]; exact hP9, hD9⟩, hS.F ht⟩) hS.2.2 d_Mo_order_126
  · -- 110 not taken
    refine lv_aload_n hx hb d_Mo_order_113 rfl (lv_at hl 1 rfl) ?_
    refine va_get (D := D) (ci := 6) (v := .ref m_units) (C := R_Mo) (T := T_Mo) (N := 24) hx hb hts hin_Mo hown hK hP 0 rfl rfl 9 (by decide) (hts _ wd_713) (fun _ h9 => h9) rfl d_Mo_order_114 ?_
    refine lv_iload_n hx hb d_Mo_order_117 rfl (lv_at hl 3 rfl) ?_
    refine tr_iald (v := fu a) hx hb hK hP 3 0 rfl rfl a (Nat.lt_of_lt_of_le h_a hn) (by decide) rfl d_Mo_order_118 ?_
    refine lv_iconst (v := 2) hx hb d_Mo_order_119 (by decide) ?_
    refine lv_idiv hx hb d_Mo_order_120 (by decide) ?_
    refine lv_iload_n hx hb d_Mo_order_121 rfl (lv_at hl 2 rfl) ?_
    refine lv_icmp_eq (tgt := 127) hx hb d_Mo_order_122 (by decide) (fun hc19 => ?_) (fun hc19 => ?_)
    · -- 122 taken
      refine lv_aload_n hx hb d_Mo_order_127 rfl (lv_at hl 1 rfl) ?_
      refine lv_iload_n hx hb d_Mo_order_128 rfl (lv_at hl 3 rfl) ?_
      refine lv_iload_n hx hb d_Mo_order_129 rfl (lv_at hl 4 rfl) ?_
      refine lv_iload hx hb d_Mo_order_130 (lv_at hl 5 rfl) ?_
      refine lv_iload hx hb d_Mo_order_132 (lv_at hl 6 rfl) ?_
      have hPc := hP.sub (ws' := [(g0, .inr (6, [.int 0, .int (nI n), .ref m_sea, .ref m_center, .ref m_home, .ref m_borders, .int 1, .int mt, .ref m_owner, .ref m_units, .ref m_kind, .ref m_toX, .ref m_toY, .ref m_results, .ref m_known, .ref m_reached, .ref m_way, .ref m_aside, .ref m_origin, .ref m_retreats, .ref m_contested, .ref m_moved, .int msh, .ref m_past])), (m_sea, .inl (cZ, 12, .inl (fun j => bI (S j)))), (m_borders, .inl (cZ, 144, .inl (fun j => bI (Bo j)))), (m_units, .inl (cI, 12, .inl fu))]) [0, 1, 2, 3] rfl
      refine vp_callSi (va_Run.run (va_runV (As := [.int (nI a), .int 3, .int (nI x), .int (nI y)]) (rest := []) ⟨hx, hb, hml, hown, hts⟩ (c_Mo_canHave3 l D cI cZ cJ cS aT ceT  g0 m_sea m_center m_home m_borders m_owner m_units m_kind m_toX m_toY m_results m_known m_reached m_way m_aside m_origin m_retreats m_contested m_moved m_past n 0 1 mt msh S Bo fu a x y (Nat.lt_of_lt_of_le h_a hn) (Nat.lt_of_lt_of_le h_x hn) (Nat.lt_of_lt_of_le h_y hn)) (cwV 4 hts (tb_4 wd_825 wd_827 wp_41 wd_8 (tb_c wd_828)) rfl rfl rfl ⟨rfl, by decide, by decide, by decide +kernel⟩ ⟨Nat.le_of_ble_eq_true rfl, Nat.le_of_ble_eq_true rfl⟩) (tP_V hK hX (hS.2.1 aT hXl hXn) hPc (q := 0) rfl rfl) rfl rfl hl.1 rfl (lv_room (Nat.le_of_ble_eq_true rfl)) d_Mo_order_134 ⟨Nat.le_of_ble_eq_true rfl, Nat.le_of_ble_eq_true rfl⟩)) (fun r20 hr9 => ?_)
      rw [hr9]
      rcases bI_c (hcR S fu a x y) with ⟨hb22, e9⟩ | ⟨hb22, e9⟩
      · refine tr_top e9 ?_
        refine lv_if_ne (tgt := 142) hx hb d_Mo_order_137 (by decide) (fun _ => ?_) (fun h0 => absurd h0 (by decide))
        refine lv_aload_n hx hb d_Mo_order_142 rfl (lv_at hl 1 rfl) ?_
        refine va_get (D := D) (ci := 6) (v := .ref m_kind) (C := R_Mo) (T := T_Mo) (N := 24) hx hb hts hin_Mo hown hK hP 0 rfl rfl 10 (by decide) (hts _ wd_714) (fun _ h9 => h9) rfl d_Mo_order_143 ?_
        refine lv_iload_n hx hb d_Mo_order_146 rfl (lv_at hl 3 rfl) ?_
        refine lv_iload_n hx hb d_Mo_order_147 rfl (lv_at hl 4 rfl) ?_
        refine tr_iast (g := fun j => nI (upN Kd a 3 j)) hx hb hK hP hD hS 4 0 rfl rfl a (Nat.lt_of_lt_of_le h_a hn) (by decide) (upN_I Kd a 3) d_Mo_order_148 (fun H locs hP hD hS => ?_)
        have hP : va_P D vwCl [(g0, .inr (6, [.int 0, .int (nI n), .ref m_sea, .ref m_center, .ref m_home, .ref m_borders, .int 1, .int mt, .ref m_owner, .ref m_units, .ref m_kind, .ref m_toX, .ref m_toY, .ref m_results, .ref m_known, .ref m_reached, .ref m_way, .ref m_aside, .ref m_origin, .ref m_retreats, .ref m_contested, .ref m_moved, .int msh, .ref m_past])), (m_sea, .inl (cZ, 12, .inl (fun j => bI (S j)))), (m_borders, .inl (cZ, 144, .inl (fun j => bI (Bo j)))), (m_units, .inl (cI, 12, .inl fu)), (m_kind, .inl (cI, 12, .inl (fun j => nI (upN Kd a 3 j)))), (m_toX, .inl (cI, 12, .inl (fun j => nI (X j)))), (m_toY, .inl (cI, 12, .inl (fun j => nI (Y j))))] H := hP
        have hD : va_D A [(g0, .inr (6, [.int 0, .int (nI n), .ref m_sea, .ref m_center, .ref m_home, .ref m_borders, .int 1, .int mt, .ref m_owner, .ref m_units, .ref m_kind, .ref m_toX, .ref m_toY, .ref m_results, .ref m_known, .ref m_reached, .ref m_way, .ref m_aside, .ref m_origin, .ref m_retreats, .ref m_contested, .ref m_moved, .int msh, .ref m_past])), (m_sea, .inl (cZ, 12, .inl (fun j => bI (S j)))), (m_borders, .inl (cZ, 144, .inl (fun j => bI (Bo j)))), (m_units, .inl (cI, 12, .inl fu)), (m_kind, .inl (cI, 12, .inl (fun j => nI (upN Kd a 3 j)))), (m_toX, .inl (cI, 12, .inl (fun j => nI (X j)))), (m_toY, .inl (cI, 12, .inl (fun j => nI (Y j))))] := hD
        refine lv_aload_n hx hb d_Mo_order_149 rfl (lv_at hl 1 rfl) ?_
        refine va_get (D := D) (ci := 6) (v := .ref m_toX) (C := R_Mo) (T := T_Mo) (N := 24) hx hb hts hin_Mo hown hK hP 0 rfl rfl 11 (by decide) (hts _ wd_715) (fun _ h9 => h9) rfl d_Mo_order_150 ?_
        refine lv_iload_n hx hb d_Mo_order_153 rfl (lv_at hl 3 rfl) ?_
        refine lv_iload_n hx hb d_Mo_order_154 rfl (lv_at hl 4 rfl) ?_
        refine lv_if_le (tgt := 163) hx hb d_Mo_order_155 (by decide) (fun h0 => absurd h0 (by decide)) (fun _ => ?_)
        refine lv_iload hx hb d_Mo_order_158 (lv_at hl 5 rfl) ?_
        refine lv_goto (tgt := 164) hx hb d_Mo_order_160 (by decide) ?_
        refine tr_iast (g := fun j => nI (upN X a x j)) hx hb hK hP hD hS 5 0 rfl rfl a (Nat.lt_of_lt_of_le h_a hn) (by decide) (upN_I X a x) d_Mo_order_164 (fun H locs hP hD hS => ?_)
        have hP : va_P D vwCl [(g0, .inr (6, [.int 0, .int (nI n), .ref m_sea, .ref m_center, .ref m_home, .ref m_borders, .int 1, .int mt, .ref m_owner, .ref m_units, .ref m_kind, .ref m_toX, .ref m_toY, .ref m_results, .ref m_known, .ref m_reached, .ref m_way, .ref m_aside, .ref m_origin, .ref m_retreats, .ref m_contested, .ref m_moved, .int msh, .ref m_past])), (m_sea, .inl (cZ, 12, .inl (fun j => bI (S j)))), (m_borders, .inl (cZ, 144, .inl (fun j => bI (Bo j)))), (m_units, .inl (cI, 12, .inl fu)), (m_kind, .inl (cI, 12, .inl (fun j => nI (upN Kd a 3 j)))), (m_toX, .inl (cI, 12, .inl (fun j => nI (upN X a x j)))), (m_toY, .inl (cI, 12, .inl (fun j => nI (Y j))))] H := hP
        have hD : va_D A [(g0, .inr (6, [.int 0, .int (nI n), .ref m_sea, .ref m_center, .ref m_home, .ref m_borders, .int 1, .int mt, .ref m_owner, .ref m_units, .ref m_kind, .ref m_toX, .ref m_toY, .ref m_results, .ref m_known, .ref m_reached, .ref m_way, .ref m_aside, .ref m_origin, .ref m_retreats, .ref m_contested, .ref m_moved, .int msh, .ref m_past])), (m_sea, .inl (cZ, 12, .inl (fun j => bI (S j)))), (m_borders, .inl (cZ, 144, .inl (fun j => bI (Bo j)))), (m_units, .inl (cI, 12, .inl fu)), (m_kind, .inl (cI, 12, .inl (fun j => nI (upN Kd a 3 j)))), (m_toX, .inl (cI, 12, .inl (fun j => nI (upN X a x j)))), (m_toY, .inl (cI, 12, .inl (fun j => nI (Y j))))] := hD
        refine lv_aload_n hx hb d_Mo_order_165 rfl (lv_at hl 1 rfl) ?_
        refine va_get (D := D) (ci := 6) (v := .ref m_toY) (C := R_Mo) (T := T_Mo) (N := 24) hx hb hts hin_Mo hown hK hP 0 rfl rfl 12 (by decide) (hts _ wd_716) (fun _ h9 => h9) rfl d_Mo_order_166 ?_
        refine lv_iload_n hx hb d_Mo_order_169 rfl (lv_at hl 3 rfl) ?_
        refine lv_iload_n hx hb d_Mo_order_170 rfl (lv_at hl 4 rfl) ?_
        refine lv_iconst (v := 1) hx hb d_Mo_order_171 (by decide) ?_
        refine lv_icmp_le (tgt := 180) hx hb d_Mo_order_172 (by decide) (fun h0 => absurd h0 (by decide)) (fun _ => ?_)
        refine lv_iload hx hb d_Mo_order_175 (lv_at hl 6 rfl) ?_
        refine lv_goto (tgt := 181) hx hb d_Mo_order_177 (by decide) ?_
        refine tr_iast (g := fun j => nI (upN Y a y j)) hx hb hK hP hD hS 6 0 rfl rfl a (Nat.lt_of_lt_of_le h_a hn) (by decide) (upN_I Y a y) d_Mo_order_181 (fun H locs hP hD hS => ?_)
        have hP : va_P D vwCl [(g0, .inr (6, [.int 0, .int (nI n), .ref m_sea, .ref m_center, .ref m_home, .ref m_borders, .int 1, .int mt, .ref m_owner, .ref m_units, .ref m_kind, .ref m_toX, .ref m_toY, .ref m_results, .ref m_known, .ref m_reached, .ref m_way, .ref m_aside, .ref m_origin, .ref m_retreats, .ref m_contested, .ref m_moved, .int msh, .ref m_past])), (m_sea, .inl (cZ, 12, .inl (fun j => bI (S j)))), (m_borders, .inl (cZ, 144, .inl (fun j => bI (Bo j)))), (m_units, .inl (cI, 12, .inl fu)), (m_kind, .inl (cI, 12, .inl (fun j => nI (upN Kd a 3 j)))), (m_toX, .inl (cI, 12, .inl (fun j => nI (upN X a x j)))), (m_toY, .inl (cI, 12, .inl (fun j => nI (upN Y a y j))))] H := hP
        have hD : va_D A [(g0, .inr (6, [.int 0, .int (nI n), .ref m_sea, .ref m_center, .ref m_home, .ref m_borders, .int 1, .int mt, .ref m_owner, .ref m_units, .ref m_kind, .ref m_toX, .ref m_toY, .ref m_results, .ref m_known, .ref m_reached, .ref m_way, .ref m_aside, .ref m_origin, .ref m_retreats, .ref m_contested, .ref m_moved, .int msh, .ref m_past])), (m_sea, .inl (cZ, 12, .inl (fun j => bI (S j)))), (m_borders, .inl (cZ, 144, .inl (fun j => bI (Bo j)))), (m_units, .inl (cI, 12, .inl fu)), (m_kind, .inl (cI, 12, .inl (fun j => nI (upN Kd a 3 j)))), (m_toX, .inl (cI, 12, .inl (fun j => nI (upN X a x j)))), (m_toY, .inl (cI, 12, .inl (fun j => nI (upN Y a y j))))] := hD
        refine lv_iconst (v := 0) hx hb d_Mo_order_182 (by decide) ?_
        have hP9 := hP.sub (ws' := [(g0, .inr (6, [.int 0, .int (nI n), .ref m_sea, .ref m_center, .ref m_home, .ref m_borders, .int 1, .int mt, .ref m_owner, .ref m_units, .ref m_kind, .ref m_toX, .ref m_toY, .ref m_results, .ref m_known, .ref m_reached, .ref m_way, .ref m_aside, .ref m_origin, .ref m_retreats, .ref m_contested, .ref m_moved, .int msh, .ref m_past])), (m_sea, .inl (cZ, 12, .inl (fun j => bI (S j)))), (m_borders, .inl (cZ, 144, .inl (fun j => bI (Bo j)))), (m_units, .inl (cI, 12, .inl fu)), (m_kind, .inl (cI, 12, .inl (fun j => nI (upN Kd a 3 j)))), (m_toX, .inl (cI, 12, .inl (fun j => nI (upN X a x j)))), (m_toY, .inl (cI, 12, .inl (fun j => nI (upN Y a y j))))]) [0, 1, 2, 3, 4, 5, 6] rfl
        have hD9 := hD.sub (ws' := [(g0, .inr (6, [.int 0, .int (nI n), .ref m_sea, .ref m_center, .ref m_home, .ref m_borders, .int 1, .int mt, .ref m_owner, .ref m_units, .ref m_kind, .ref m_toX, .ref m_toY, .ref m_results, .ref m_known, .ref m_reached, .ref m_way, .ref m_aside, .ref m_origin, .ref m_retreats, .ref m_contested, .ref m_moved, .int msh, .ref m_past])), (m_sea, .inl (cZ, 12, .inl (fun j => bI (S j)))), (m_borders, .inl (cZ, 144, .inl (fun j => bI (Bo j)))), (m_units, .inl (cI, 12, .inl fu)), (m_kind, .inl (cI, 12, .inl (fun j => nI (upN Kd a 3 j)))), (m_toX, .inl (cI, 12, .inl (fun j => nI (upN X a x j)))), (m_toY, .inl (cI, 12, .inl (fun j => nI (upN Y a y j))))]) [0, 1, 2, 3, 4, 5, 6] (by decide) rfl
        have ej : odR (!decide (fu a < 0) && decide (fu a / 2 = nI p9)) (hcR S fu a x y) = 0 := by simp only [odR, hb22] <;> simp [hc18, hc19, hb22]
        have hP9 : va_P D vwCl [(g0, .inr (6, [.int 0, .int (nI n), .ref m_sea, .ref m_center, .ref m_home, .ref m_borders, .int 1, .int mt, .ref m_owner, .ref m_units, .ref m_kind, .ref m_toX, .ref m_toY, .ref m_results, .ref m_known, .ref m_reached, .ref m_way, .ref m_aside, .ref m_origin, .ref m_retreats, .ref m_contested, .ref m_moved, .int msh, .ref m_past])), (m_sea, .inl (cZ, 12, .inl (fun j => bI (S j)))), (m_borders, .inl (cZ, 144, .inl (fun j => bI (Bo j)))), (m_units, .inl (cI, 12, .inl fu)), (m_kind, .inl (cI, 12, .inl (fun j => nI (okN (odR (!decide (fu a < 0) && decide (fu a / 2 = nI p9)) (hcR S fu a x y)) Kd a 3 j)))), (m_toX, .inl (cI, 12, .inl (fun j => nI (okN (odR (!decide (fu a < 0) && decide (fu a / 2 = nI p9)) (hcR S fu a x y)) X a x j)))), (m_toY, .inl (cI, 12, .inl (fun j => nI (okN (odR (!decide (fu a < 0) && decide (fu a / 2 = nI p9)) (hcR S fu a x y)) Y a y j))))] H := by rw [ej]; exact hP9
        have hD9 : va_D A [(g0, .inr (6, [.int 0, .int (nI n), .ref m_sea, .ref m_center, .ref m_home, .ref m_borders, .int 1, .int mt, .ref m_owner, .ref m_units, .ref m_kind, .ref m_toX, .ref m_toY, .ref m_results, .ref m_known, .ref m_reached, .ref m_way, .ref m_aside, .ref m_origin, .ref m_retreats, .ref m_contested, .ref m_moved, .int msh, .ref m_past])), (m_sea, .inl (cZ, 12, .inl (fun j => bI (S j)))), (m_borders, .inl (cZ, 144, .inl (fun j => bI (Bo j)))), (m_units, .inl (cI, 12, .inl fu)), (m_kind, .inl (cI, 12, .inl (fun j => nI (okN (odR (!decide (fu a < 0) && decide (fu a / 2 = nI p9)) (hcR S fu a x y)) Kd a 3 j)))), (m_toX, .inl (cI, 12, .inl (fun j => nI (okN (odR (!decide (fu a < 0) && decide (fu a / 2 = nI p9)) (hcR S fu a x y)) X a x j)))), (m_toY, .inl (cI, 12, .inl (fun j => nI (okN (odR (!decide (fu a < 0) && decide (fu a / 2 = nI p9)) (hcR S fu a x y)) Y a y j))))] := by rw [ej]; exact hD9
        exact W.iret (v := 0) hx hb hr (fun t ht hW => ⟨⟨0, (), rfl, by rw [ej]; rfl, by rw [ht]; exact hP9, hD9⟩, hS.F ht⟩) hS.2.2 d_Mo_order_183
      · refine tr_top e9 ?_
        refine lv_if_ne (tgt := 142) hx hb d_Mo_order_137 (by decide) (fun h0 => absurd (by decide) h0) (fun _ => ?_)
        refine lv_iconst (v := 2) hx hb d_Mo_order_140 (by decide) ?_
        have hP9 := hP.sub (ws' := [(g0, .inr (6, [.int 0, .int (nI n), .ref m_sea, .ref m_center, .ref m_home, .ref m_borders, .int 1, .int mt, .ref m_owner, .ref m_units, .ref m_kind, .ref m_toX, .ref m_toY, .ref m_results, .ref m_known, .ref m_reached, .ref m_way, .ref m_aside, .ref m_origin, .ref m_retreats, .ref m_contested, .ref m_moved, .int msh, .ref m_past])), (m_sea, .inl (cZ, 12, .inl (fun j => bI (S j)))), (m_borders, .inl (cZ, 144, .inl (fun j => bI (Bo j)))), (m_units, .inl (cI, 12, .inl fu)), (m_kind, .inl (cI, 12, .inl (fun j => nI (Kd j)))), (m_toX, .inl (cI, 12, .inl (fun j => nI (X j)))), (m_toY, .inl (cI, 12, .inl (fun j => nI (Y j))))]) [0, 1, 2, 3, 4, 5, 6] rfl
        have hD9 := hD.sub (ws' := [(g0, .inr (6, [.int 0, .int (nI n), .ref m_sea, .ref m_center, .ref m_home, .ref m_borders, .int 1, .int mt, .ref m_owner, .ref m_units, .ref m_kind, .ref m_toX, .ref m_toY, .ref m_results, .ref m_known, .ref m_reached, .ref m_way, .ref m_aside, .ref m_origin, .ref m_retreats, .ref m_contested, .ref m_moved, .int msh, .ref m_past])), (m_sea, .inl (cZ, 12, .inl (fun j => bI (S j)))), (m_borders, .inl (cZ, 144, .inl (fun j => bI (Bo j)))), (m_units, .inl (cI, 12, .inl fu)), (m_kind, .inl (cI, 12, .inl (fun j => nI (Kd j)))), (m_toX, .inl (cI, 12, .inl (fun j => nI (X j)))), (m_toY, .inl (cI, 12, .inl (fun j => nI (Y j))))]) [0, 1, 2, 3, 4, 5, 6] (by decide) rfl
        have ej : odR (!decide (fu a < 0) && decide (fu a / 2 = nI p9)) (hcR S fu a x y) = 2 := by simp only [odR, hb22] <;> simp [hc18, hc19, hb22]
        have hP9 : va_P D vwCl [(g0, .inr (6, [.int 0, .int (nI n), .ref m_sea, .ref m_center, .ref m_home, .ref m_borders, .int 1, .int mt, .ref m_owner, .ref m_units, .ref m_kind, .ref m_toX, .ref m_toY, .ref m_results, .ref m_known, .ref m_reached, .ref m_way, .ref m_aside, .ref m_origin, .ref m_retreats, .ref m_contested, .ref m_moved, .int msh, .ref m_past])), (m_sea, .inl (cZ, 12, .inl (fun j => bI (S j)))), (m_borders, .inl (cZ, 144, .inl (fun j => bI (Bo j)))), (m_units, .inl (cI, 12, .inl fu)), (m_kind, .inl (cI, 12, .inl (fun j => nI (okN (odR (!decide (fu a < 0) && decide (fu a / 2 = nI p9)) (hcR S fu a x y)) Kd a 3 j)))), (m_toX, .inl (cI, 12, .inl (fun j => nI (okN (odR (!decide (fu a < 0) && decide (fu a / 2 = nI p9)) (hcR S fu a x y)) X a x j)))), (m_toY, .inl (cI, 12, .inl (fun j => nI (okN (odR (!decide (fu a < 0) && decide (fu a / 2 = nI p9)) (hcR S fu a x y)) Y a y j))))] H := by rw [ej]; exact hP9
        have hD9 : va_D A [(g0, .inr (6, [.int 0, .int (nI n), .ref m_sea, .ref m_center, .ref m_home, .ref m_borders, .int 1, .int mt, .ref m_owner, .ref m_units, .ref m_kind, .ref m_toX, .ref m_toY, .ref m_results, .ref m_known, .ref m_reached, .ref m_way, .ref m_aside, .ref m_origin, .ref m_retreats, .ref m_contested, .ref m_moved, .int msh, .ref m_past])), (m_sea, .inl (cZ, 12, .inl (fun j => bI (S j)))), (m_borders, .inl (cZ, 144, .inl (fun j => bI (Bo j)))), (m_units, .inl (cI, 12, .inl fu)), (m_kind, .inl (cI, 12, .inl (fun j => nI (okN (odR (!decide (fu a < 0) && decide (fu a / 2 = nI p9)) (hcR S fu a x y)) Kd a 3 j)))), (m_toX, .inl (cI, 12, .inl (fun j => nI (okN (odR (!decide (fu a < 0) && decide (fu a / 2 = nI p9)) (hcR S fu a x y)) X a x j)))), (m_toY, .inl (cI, 12, .inl (fun j => nI (okN (odR (!decide (fu a < 0) && decide (fu a / 2 = nI p9)) (hcR S fu a x y)) Y a y j))))] := by rw [ej]; exact hD9
        exact W.iret (v := 2) hx hb hr (fun t ht hW => ⟨⟨2, (), rfl, by rw [ej]; rfl, by rw [ht]; exact hP9, hD9⟩, hS.F ht⟩) hS.2.2 d_Mo_order_141
    · -- 122 not taken
      refine lv_iconst (v := 1) hx hb d_Mo_order_125 (by decide) ?_
      have hP9 := hP.sub (ws' := [(g0, .inr (6, [.int 0, .int (nI n), .ref m_sea, .ref m_center, .ref m_home, .ref m_borders, .int 1, .int mt, .ref m_owner, .ref m_units, .ref m_kind, .ref m_toX, .ref m_toY, .ref m_results, .ref m_known, .ref m_reached, .ref m_way, .ref m_aside, .ref m_origin, .ref m_retreats, .ref m_contested, .ref m_moved, .int msh, .ref m_past])), (m_sea, .inl (cZ, 12, .inl (fun j => bI (S j)))), (m_borders, .inl (cZ, 144, .inl (fun j => bI (Bo j)))), (m_units, .inl (cI, 12, .inl fu)), (m_kind, .inl (cI, 12, .inl (fun j => nI (Kd j)))), (m_toX, .inl (cI, 12, .inl (fun j => nI (X j)))), (m_toY, .inl (cI, 12, .inl (fun j => nI (Y j))))]) [0, 1, 2, 3, 4, 5, 6] rfl
      have hD9 := hD.sub (ws' := [(g0, .inr (6, [.int 0, .int (nI n), .ref m_sea, .ref m_center, .ref m_home, .ref m_borders, .int 1, .int mt, .ref m_owner, .ref m_units, .ref m_kind, .ref m_toX, .ref m_toY, .ref m_results, .ref m_known, .ref m_reached, .ref m_way, .ref m_aside, .ref m_origin, .ref m_retreats, .ref m_contested, .ref m_moved, .int msh, .ref m_past])), (m_sea, .inl (cZ, 12, .inl (fun j => bI (S j)))), (m_borders, .inl (cZ, 144, .inl (fun j => bI (Bo j)))), (m_units, .inl (cI, 12, .inl fu)), (m_kind, .inl (cI, 12, .inl (fun j => nI (Kd j)))), (m_toX, .inl (cI, 12, .inl (fun j => nI (X j)))), (m_toY, .inl (cI, 12, .inl (fun j => nI (Y j))))]) [0, 1, 2, 3, 4, 5, 6] (by decide) rfl
      have ej : odR (!decide (fu a < 0) && decide (fu a / 2 = nI p9)) (hcR S fu a x y) = 1 := by simp only [odR] <;> simp [hc18, hc19]
      have hP9 : va_P D vwCl [(g0, .inr (6, [.int 0, .int (nI n), .ref m_sea, .ref m_center, .ref m_home, .ref m_borders, .int 1, .int mt, .ref m_owner, .ref m_units, .ref m_kind, .ref m_toX, .ref m_toY, .ref m_results, .ref m_known, .ref m_reached, .ref m_way, .ref m_aside, .ref m_origin, .ref m_retreats, .ref m_contested, .ref m_moved, .int msh, .ref m_past])), (m_sea, .inl (cZ, 12, .inl (fun j => bI (S j)))), (m_borders, .inl (cZ, 144, .inl (fun j => bI (Bo j)))), (m_units, .inl (cI, 12, .inl fu)), (m_kind, .inl (cI, 12, .inl (fun j => nI (okN (odR (!decide (fu a < 0) && decide (fu a / 2 = nI p9)) (hcR S fu a x y)) Kd a 3 j)))), (m_toX, .inl (cI, 12, .inl (fun j => nI (okN (odR (!decide (fu a < 0) && decide (fu a / 2 = nI p9)) (hcR S fu a x y)) X a x j)))), (m_toY, .inl (cI, 12, .inl (fun j => nI (okN (odR (!decide (fu a < 0) && decide (fu a / 2 = nI p9)) (hcR S fu a x y)) Y a y j))))] H := by rw [ej]; exact hP9
      have hD9 : va_D A [(g0, .inr (6, [.int 0, .int (nI n), .ref m_sea, .ref m_center, .ref m_home, .ref m_borders, .int 1, .int mt, .ref m_owner, .ref m_units, .ref m_kind, .ref m_toX, .ref m_toY, .ref m_results, .ref m_known, .ref m_reached, .ref m_way, .ref m_aside, .ref m_origin, .ref m_retreats, .ref m_contested, .ref m_moved, .int msh, .ref m_past])), (m_sea, .inl (cZ, 12, .inl (fun j => bI (S j)))), (m_borders, .inl (cZ, 144, .inl (fun j => bI (Bo j)))), (m_units, .inl (cI, 12, .inl fu)), (m_kind, .inl (cI, 12, .inl (fun j => nI (okN (odR (!decide (fu a < 0) && decide (fu a / 2 = nI p9)) (hcR S fu a x y)) Kd a 3 j)))), (m_toX, .inl (cI, 12, .inl (fun j => nI (okN (odR (!decide (fu a < 0) && decide (fu a / 2 = nI p9)) (hcR S fu a x y)) X a x j)))), (m_toY, .inl (cI, 12, .inl (fun j => nI (okN (odR (!decide (fu a < 0) && decide (fu a / 2 = nI p9)) (hcR S fu a x y)) Y a y j))))] := by rw [ej]; exact hD9
      exact W.iret (v := 1) hx hb hr (fun t ht hW => ⟨⟨1, (), rfl, by rw [ej]; rfl, by rw [ht]; exact hP9, hD9⟩, hS.F ht⟩) hS.2.2 d_Mo_order_126
