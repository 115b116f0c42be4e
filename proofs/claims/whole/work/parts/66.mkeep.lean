/-- the sheet's six values of area a, laid down from p on; those of the areas below i -/
def kp1 (fu fw : Nat → Int32) (Kd X Y Rs : Nat → Nat) (g : Nat → Int32) (p a : Nat) : Nat → Int32 := upd (upd (upd (upd (upd (upd g (p + 1 + a) (fu a)) (p + 13 + a) (fw a)) (p + 25 + a) (nI (Kd a))) (p + 37 + a) (nI (X a))) (p + 49 + a) (nI (Y a))) (p + 61 + a) (nI (Rs a))
def kpL (fu fw : Nat → Int32) (Kd X Y Rs : Nat → Nat) (g : Nat → Int32) (p : Nat) : Nat → Nat → Int32
  | 0 => g
  | i + 1 => kp1 fu fw Kd X Y Rs (kpL fu fw Kd X Y Rs g p i) p i

theorem d_Mo_keep_0 : decode b_Mo_keep 0 = .ok (.aload_n 0, 1) := by decide +kernel
theorem d_Mo_keep_1 : decode b_Mo_keep 1 = .ok (.getfield 174, 3) := by decide +kernel
theorem d_Mo_keep_4 : decode b_Mo_keep 4 = .ok (.bipush 8, 2) := by decide +kernel
theorem d_Mo_keep_6 : decode b_Mo_keep 6 = .ok (.if_icmp .ne 43, 3) := by decide +kernel
theorem d_Mo_keep_9 : decode b_Mo_keep 9 = .ok (.iconst 0, 1) := by decide +kernel
theorem d_Mo_keep_10 : decode b_Mo_keep 10 = .ok (.istore_n 1, 1) := by decide +kernel
theorem d_Mo_keep_11 : decode b_Mo_keep 11 = .ok (.iload_n 1, 1) := by decide +kernel
theorem d_Mo_keep_12 : decode b_Mo_keep 12 = .ok (.sipush 511, 3) := by decide +kernel
theorem d_Mo_keep_15 : decode b_Mo_keep 15 = .ok (.if_icmp .ge 24, 3) := by decide +kernel
theorem d_Mo_keep_18 : decode b_Mo_keep 18 = .ok (.aload_n 0, 1) := by decide +kernel
theorem d_Mo_keep_19 : decode b_Mo_keep 19 = .ok (.getfield 65, 3) := by decide +kernel
theorem d_Mo_keep_22 : decode b_Mo_keep 22 = .ok (.iload_n 1, 1) := by decide +kernel
theorem d_Mo_keep_23 : decode b_Mo_keep 23 = .ok (.aload_n 0, 1) := by decide +kernel
theorem d_Mo_keep_24 : decode b_Mo_keep 24 = .ok (.getfield 65, 3) := by decide +kernel
theorem d_Mo_keep_27 : decode b_Mo_keep 27 = .ok (.iload_n 1, 1) := by decide +kernel
theorem d_Mo_keep_28 : decode b_Mo_keep 28 = .ok (.bipush 73, 2) := by decide +kernel
theorem d_Mo_keep_30 : decode b_Mo_keep 30 = .ok (.iadd, 1) := by decide +kernel
theorem d_Mo_keep_31 : decode b_Mo_keep 31 = .ok (.iaload, 1) := by decide +kernel
theorem d_Mo_keep_32 : decode b_Mo_keep 32 = .ok (.iastore, 1) := by decide +kernel
theorem d_Mo_keep_33 : decode b_Mo_keep 33 = .ok (.iinc 1 1, 3) := by decide +kernel
theorem d_Mo_keep_36 : decode b_Mo_keep 36 = .ok (.goto (-25), 3) := by decide +kernel
theorem d_Mo_keep_39 : decode b_Mo_keep 39 = .ok (.aload_n 0, 1) := by decide +kernel
theorem d_Mo_keep_40 : decode b_Mo_keep 40 = .ok (.dup, 1) := by decide +kernel
theorem d_Mo_keep_41 : decode b_Mo_keep 41 = .ok (.getfield 174, 3) := by decide +kernel
theorem d_Mo_keep_44 : decode b_Mo_keep 44 = .ok (.iconst 1, 1) := by decide +kernel
theorem d_Mo_keep_45 : decode b_Mo_keep 45 = .ok (.isub, 1) := by decide +kernel
theorem d_Mo_keep_46 : decode b_Mo_keep 46 = .ok (.putfield 174, 3) := by decide +kernel
theorem d_Mo_keep_49 : decode b_Mo_keep 49 = .ok (.bipush 73, 2) := by decide +kernel
theorem d_Mo_keep_51 : decode b_Mo_keep 51 = .ok (.aload_n 0, 1) := by decide +kernel
theorem d_Mo_keep_52 : decode b_Mo_keep 52 = .ok (.getfield 174, 3) := by decide +kernel
theorem d_Mo_keep_55 : decode b_Mo_keep 55 = .ok (.imul, 1) := by decide +kernel
theorem d_Mo_keep_56 : decode b_Mo_keep 56 = .ok (.istore_n 1, 1) := by decide +kernel
theorem d_Mo_keep_57 : decode b_Mo_keep 57 = .ok (.aload_n 0, 1) := by decide +kernel
theorem d_Mo_keep_58 : decode b_Mo_keep 58 = .ok (.getfield 65, 3) := by decide +kernel
theorem d_Mo_keep_61 : decode b_Mo_keep 61 = .ok (.iload_n 1, 1) := by decide +kernel
theorem d_Mo_keep_62 : decode b_Mo_keep 62 = .ok (.aload_n 0, 1) := by decide +kernel
theorem d_Mo_keep_63 : decode b_Mo_keep 63 = .ok (.getfield 95, 3) := by decide +kernel
theorem d_Mo_keep_66 : decode b_Mo_keep 66 = .ok (.iastore, 1) := by decide +kernel
theorem d_Mo_keep_67 : decode b_Mo_keep 67 = .ok (.iconst 0, 1) := by decide +kernel
theorem d_Mo_keep_68 : decode b_Mo_keep 68 = .ok (.istore_n 2, 1) := by decide +kernel
theorem d_Mo_keep_69 : decode b_Mo_keep 69 = .ok (.iload_n 2, 1) := by decide +kernel
theorem d_Mo_keep_70 : decode b_Mo_keep 70 = .ok (.bipush 12, 2) := by decide +kernel
theorem d_Mo_keep_72 : decode b_Mo_keep 72 = .ok (.if_icmp .ge 110, 3) := by decide +kernel
theorem d_Mo_keep_75 : decode b_Mo_keep 75 = .ok (.aload_n 0, 1) := by decide +kernel
theorem d_Mo_keep_76 : decode b_Mo_keep 76 = .ok (.getfield 65, 3) := by decide +kernel
theorem d_Mo_keep_79 : decode b_Mo_keep 79 = .ok (.iload_n 1, 1) := by decide +kernel
theorem d_Mo_keep_80 : decode b_Mo_keep 80 = .ok (.iconst 1, 1) := by decide +kernel
theorem d_Mo_keep_81 : decode b_Mo_keep 81 = .ok (.iadd, 1) := by decide +kernel
theorem d_Mo_keep_82 : decode b_Mo_keep 82 = .ok (.iload_n 2, 1) := by decide +kernel
theorem d_Mo_keep_83 : decode b_Mo_keep 83 = .ok (.iadd, 1) := by decide +kernel
theorem d_Mo_keep_84 : decode b_Mo_keep 84 = .ok (.aload_n 0, 1) := by decide +kernel
theorem d_Mo_keep_85 : decode b_Mo_keep 85 = .ok (.getfield 26, 3) := by decide +kernel
theorem d_Mo_keep_88 : decode b_Mo_keep 88 = .ok (.iload_n 2, 1) := by decide +kernel
theorem d_Mo_keep_89 : decode b_Mo_keep 89 = .ok (.iaload, 1) := by decide +kernel
theorem d_Mo_keep_90 : decode b_Mo_keep 90 = .ok (.iastore, 1) := by decide +kernel
theorem d_Mo_keep_91 : decode b_Mo_keep 91 = .ok (.aload_n 0, 1) := by decide +kernel
theorem d_Mo_keep_92 : decode b_Mo_keep 92 = .ok (.getfield 65, 3) := by decide +kernel
theorem d_Mo_keep_95 : decode b_Mo_keep 95 = .ok (.iload_n 1, 1) := by decide +kernel
theorem d_Mo_keep_96 : decode b_Mo_keep 96 = .ok (.bipush 13, 2) := by decide +kernel
theorem d_Mo_keep_98 : decode b_Mo_keep 98 = .ok (.iadd, 1) := by decide +kernel
theorem d_Mo_keep_99 : decode b_Mo_keep 99 = .ok (.iload_n 2, 1) := by decide +kernel
theorem d_Mo_keep_100 : decode b_Mo_keep 100 = .ok (.iadd, 1) := by decide +kernel
theorem d_Mo_keep_101 : decode b_Mo_keep 101 = .ok (.aload_n 0, 1) := by decide +kernel
theorem d_Mo_keep_102 : decode b_Mo_keep 102 = .ok (.getfield 23, 3) := by decide +kernel
theorem d_Mo_keep_105 : decode b_Mo_keep 105 = .ok (.iload_n 2, 1) := by decide +kernel
theorem d_Mo_keep_106 : decode b_Mo_keep 106 = .ok (.iaload, 1) := by decide +kernel
theorem d_Mo_keep_107 : decode b_Mo_keep 107 = .ok (.iastore, 1) := by decide +kernel
theorem d_Mo_keep_108 : decode b_Mo_keep 108 = .ok (.aload_n 0, 1) := by decide +kernel
theorem d_Mo_keep_109 : decode b_Mo_keep 109 = .ok (.getfield 65, 3) := by decide +kernel
theorem d_Mo_keep_112 : decode b_Mo_keep 112 = .ok (.iload_n 1, 1) := by decide +kernel
theorem d_Mo_keep_113 : decode b_Mo_keep 113 = .ok (.bipush 25, 2) := by decide +kernel
theorem d_Mo_keep_115 : decode b_Mo_keep 115 = .ok (.iadd, 1) := by decide +kernel
theorem d_Mo_keep_116 : decode b_Mo_keep 116 = .ok (.iload_n 2, 1) := by decide +kernel
theorem d_Mo_keep_117 : decode b_Mo_keep 117 = .ok (.iadd, 1) := by decide +kernel
theorem d_Mo_keep_118 : decode b_Mo_keep 118 = .ok (.aload_n 0, 1) := by decide +kernel
theorem d_Mo_keep_119 : decode b_Mo_keep 119 = .ok (.getfield 29, 3) := by decide +kernel
theorem d_Mo_keep_122 : decode b_Mo_keep 122 = .ok (.iload_n 2, 1) := by decide +kernel
theorem d_Mo_keep_123 : decode b_Mo_keep 123 = .ok (.iaload, 1) := by decide +kernel
theorem d_Mo_keep_124 : decode b_Mo_keep 124 = .ok (.iastore, 1) := by decide +kernel
theorem d_Mo_keep_125 : decode b_Mo_keep 125 = .ok (.aload_n 0, 1) := by decide +kernel
theorem d_Mo_keep_126 : decode b_Mo_keep 126 = .ok (.getfield 65, 3) := by decide +kernel
theorem d_Mo_keep_129 : decode b_Mo_keep 129 = .ok (.iload_n 1, 1) := by decide +kernel
theorem d_Mo_keep_130 : decode b_Mo_keep 130 = .ok (.bipush 37, 2) := by decide +kernel
theorem d_Mo_keep_132 : decode b_Mo_keep 132 = .ok (.iadd, 1) := by decide +kernel
theorem d_Mo_keep_133 : decode b_Mo_keep 133 = .ok (.iload_n 2, 1) := by decide +kernel
theorem d_Mo_keep_134 : decode b_Mo_keep 134 = .ok (.iadd, 1) := by decide +kernel
theorem d_Mo_keep_135 : decode b_Mo_keep 135 = .ok (.aload_n 0, 1) := by decide +kernel
theorem d_Mo_keep_136 : decode b_Mo_keep 136 = .ok (.getfield 32, 3) := by decide +kernel
theorem d_Mo_keep_139 : decode b_Mo_keep 139 = .ok (.iload_n 2, 1) := by decide +kernel
theorem d_Mo_keep_140 : decode b_Mo_keep 140 = .ok (.iaload, 1) := by decide +kernel
theorem d_Mo_keep_141 : decode b_Mo_keep 141 = .ok (.iastore, 1) := by decide +kernel
theorem d_Mo_keep_142 : decode b_Mo_keep 142 = .ok (.aload_n 0, 1) := by decide +kernel
theorem d_Mo_keep_143 : decode b_Mo_keep 143 = .ok (.getfield 65, 3) := by decide +kernel
theorem d_Mo_keep_146 : decode b_Mo_keep 146 = .ok (.iload_n 1, 1) := by decide +kernel
theorem d_Mo_keep_147 : decode b_Mo_keep 147 = .ok (.bipush 49, 2) := by decide +kernel
theorem d_Mo_keep_149 : decode b_Mo_keep 149 = .ok (.iadd, 1) := by decide +kernel
theorem d_Mo_keep_150 : decode b_Mo_keep 150 = .ok (.iload_n 2, 1) := by decide +kernel
theorem d_Mo_keep_151 : decode b_Mo_keep 151 = .ok (.iadd, 1) := by decide +kernel
theorem d_Mo_keep_152 : decode b_Mo_keep 152 = .ok (.aload_n 0, 1) := by decide +kernel
theorem d_Mo_keep_153 : decode b_Mo_keep 153 = .ok (.getfield 35, 3) := by decide +kernel
theorem d_Mo_keep_156 : decode b_Mo_keep 156 = .ok (.iload_n 2, 1) := by decide +kernel
theorem d_Mo_keep_157 : decode b_Mo_keep 157 = .ok (.iaload, 1) := by decide +kernel
theorem d_Mo_keep_158 : decode b_Mo_keep 158 = .ok (.iastore, 1) := by decide +kernel
theorem d_Mo_keep_159 : decode b_Mo_keep 159 = .ok (.aload_n 0, 1) := by decide +kernel
theorem d_Mo_keep_160 : decode b_Mo_keep 160 = .ok (.getfield 65, 3) := by decide +kernel
theorem d_Mo_keep_163 : decode b_Mo_keep 163 = .ok (.iload_n 1, 1) := by decide +kernel
theorem d_Mo_keep_164 : decode b_Mo_keep 164 = .ok (.bipush 61, 2) := by decide +kernel
theorem d_Mo_keep_166 : decode b_Mo_keep 166 = .ok (.iadd, 1) := by decide +kernel
theorem d_Mo_keep_167 : decode b_Mo_keep 167 = .ok (.iload_n 2, 1) := by decide +kernel
theorem d_Mo_keep_168 : decode b_Mo_keep 168 = .ok (.iadd, 1) := by decide +kernel
theorem d_Mo_keep_169 : decode b_Mo_keep 169 = .ok (.aload_n 0, 1) := by decide +kernel
theorem d_Mo_keep_170 : decode b_Mo_keep 170 = .ok (.getfield 38, 3) := by decide +kernel
theorem d_Mo_keep_173 : decode b_Mo_keep 173 = .ok (.iload_n 2, 1) := by decide +kernel
theorem d_Mo_keep_174 : decode b_Mo_keep 174 = .ok (.iaload, 1) := by decide +kernel
theorem d_Mo_keep_175 : decode b_Mo_keep 175 = .ok (.iastore, 1) := by decide +kernel
theorem d_Mo_keep_176 : decode b_Mo_keep 176 = .ok (.iinc 2 1, 3) := by decide +kernel
theorem d_Mo_keep_179 : decode b_Mo_keep 179 = .ok (.goto (-110), 3) := by decide +kernel
theorem d_Mo_keep_182 : decode b_Mo_keep 182 = .ok (.aload_n 0, 1) := by decide +kernel
theorem d_Mo_keep_183 : decode b_Mo_keep 183 = .ok (.dup, 1) := by decide +kernel
theorem d_Mo_keep_184 : decode b_Mo_keep 184 = .ok (.getfield 174, 3) := by decide +kernel
theorem d_Mo_keep_187 : decode b_Mo_keep 187 = .ok (.iconst 1, 1) := by decide +kernel
theorem d_Mo_keep_188 : decode b_Mo_keep 188 = .ok (.iadd, 1) := by decide +kernel
theorem d_Mo_keep_189 : decode b_Mo_keep 189 = .ok (.putfield 174, 3) := by decide +kernel
theorem d_Mo_keep_192 : decode b_Mo_keep 192 = .ok (.return_, 1) := by decide +kernel

set_option maxHeartbeats 4000000 in
set_option maxRecDepth 100000 in
theorem c_Mo_keepN (l : Launch) (D : va_G) (cI cZ cJ cS : ClassId) (aT : Nat) (ceT : Cell) (sz : Nat) (g0 m_sea m_center m_home m_borders m_owner m_units m_kind m_toX m_toY m_results m_known m_reached m_way m_aside m_origin m_retreats m_contested m_moved m_past : Nat) (n sh : Nat) (co mp mt : Int32) (fu : Nat → Int32) (fw : Nat → Int32) (Kd : Nat → Nat) (X : Nat → Nat) (Y : Nat → Nat) (Rs : Nat → Nat) (fp : Nat → Int32) (hsh : sh < 8) : Met l y_Mo_keep w_Mo_keep ({ frames := 0, cells := 0, slots := 0, locals := 0 }) (tH D cI cZ cJ cS aT ceT [.ref g0] sz [(g0, .inr (6, [.int co, .int (nI n), .ref m_sea, .ref m_center, .ref m_home, .ref m_borders, .int mp, .int mt, .ref m_owner, .ref m_units, .ref m_kind, .ref m_toX, .ref m_toY, .ref m_results, .ref m_known, .ref m_reached, .ref m_way, .ref m_aside, .ref m_origin, .ref m_retreats, .ref m_contested, .ref m_moved, .int (nI sh), .ref m_past])), (m_units, .inl (cI, 12, .inl fu)), (m_owner, .inl (cI, 12, .inl fw)), (m_kind, .inl (cI, 12, .inl (fun j => nI (Kd j)))), (m_toX, .inl (cI, 12, .inl (fun j => nI (X j)))), (m_toY, .inl (cI, 12, .inl (fun j => nI (Y j)))), (m_results, .inl (cI, 12, .inl (fun j => nI (Rs j)))), (m_past, .inl (cI, 584, .inl fp))]) (va_Qv (fun _ : Unit => True) (fun _ t => tB D (va_A [(g0, .inr (6, [.int co, .int (nI n), .ref m_sea, .ref m_center, .ref m_home, .ref m_borders, .int mp, .int mt, .ref m_owner, .ref m_units, .ref m_kind, .ref m_toX, .ref m_toY, .ref m_results, .ref m_known, .ref m_reached, .ref m_way, .ref m_aside, .ref m_origin, .ref m_retreats, .ref m_contested, .ref m_moved, .int (nI sh), .ref m_past])), (m_units, .inl (cI, 12, .inl fu)), (m_owner, .inl (cI, 12, .inl fw)), (m_kind, .inl (cI, 12, .inl (fun j => nI (Kd j)))), (m_toX, .inl (cI, 12, .inl (fun j => nI (X j)))), (m_toY, .inl (cI, 12, .inl (fun j => nI (Y j)))), (m_results, .inl (cI, 12, .inl (fun j => nI (Rs j)))), (m_past, .inl (cI, 584, .inl fp))] sz) [(g0, .inr (6, [.int co, .int (nI n), .ref m_sea, .ref m_center, .ref m_home, .ref m_borders, .int mp, .int mt, .ref m_owner, .ref m_units, .ref m_kind, .ref m_toX, .ref m_toY, .ref m_results, .ref m_known, .ref m_reached, .ref m_way, .ref m_aside, .ref m_origin, .ref m_retreats, .ref m_contested, .ref m_moved, .int (nI (sh + 1)), .ref m_past])), (m_units, .inl (cI, 12, .inl fu)), (m_owner, .inl (cI, 12, .inl fw)), (m_kind, .inl (cI, 12, .inl (fun j => nI (Kd j)))), (m_toX, .inl (cI, 12, .inl (fun j => nI (X j)))), (m_toY, .inl (cI, 12, .inl (fun j => nI (Y j)))), (m_results, .inl (cI, 12, .inl (fun j => nI (Rs j)))), (m_past, .inl (cI, 584, .inl (kpL fu fw Kd X Y Rs (upd fp (73 * sh) mt) (73 * sh) 12)))] t) (va_A [(g0, .inr (6, [.int co, .int (nI n), .ref m_sea, .ref m_center, .ref m_home, .ref m_borders, .int mp, .int mt, .ref m_owner, .ref m_units, .ref m_kind, .ref m_toX, .ref m_toY, .ref m_results, .ref m_known, .ref m_reached, .ref m_way, .ref m_aside, .ref m_origin, .ref m_retreats, .ref m_contested, .ref m_moved, .int (nI sh), .ref m_past])), (m_units, .inl (cI, 12, .inl fu)), (m_owner, .inl (cI, 12, .inl fw)), (m_kind, .inl (cI, 12, .inl (fun j => nI (Kd j)))), (m_toX, .inl (cI, 12, .inl (fun j => nI (X j)))), (m_toY, .inl (cI, 12, .inl (fun j => nI (Y j)))), (m_results, .inl (cI, 12, .inl (fun j => nI (Rs j)))), (m_past, .inl (cI, 584, .inl fp))] sz)) 0 0 (va_A [(g0, .inr (6, [.int co, .int (nI n), .ref m_sea, .ref m_center, .ref m_home, .ref m_borders, .int mp, .int mt, .ref m_owner, .ref m_units, .ref m_kind, .ref m_toX, .ref m_toY, .ref m_results, .ref m_known, .ref m_reached, .ref m_way, .ref m_aside, .ref m_origin, .ref m_retreats, .ref m_contested, .ref m_moved, .int (nI sh), .ref m_past])), (m_units, .inl (cI, 12, .inl fu)), (m_owner, .inl (cI, 12, .inl fw)), (m_kind, .inl (cI, 12, .inl (fun j => nI (Kd j)))), (m_toX, .inl (cI, 12, .inl (fun j => nI (X j)))), (m_toY, .inl (cI, 12, .inl (fun j => nI (Y j)))), (m_results, .inl (cI, 12, .inl (fun j => nI (Rs j)))), (m_past, .inl (cI, 584, .inl fp))] sz) := by
  refine Met.ofW (cc := b_Mo_keep) (maxL := 3) (ret := none) (by decide) rfl ?_
  intro p e s m args below meth c s₁ B hml hv
  obtain ⟨rfl, hsz, hP, hK, hD0, hX⟩ := hv
  have hx := B.exec
  have hb := B.bytes
  have hr := B.returns
  have hts0 := atoms_spec (ws := w_Mo_keep) B.pre
  have hts : ∀ w ∈ TB, w.before _ s = true := fun w h => hts0 w (List.mem_cons_of_mem _ h)
  have hown : s.vm.findClass R_Mo = some m.cls := findClass_of_methodNamed B.named
  have hlocks := B.notSynchronized
  subst hsz
  have hXl := tx_lt hX
  have hXn := tx_far hP hX
  have hD := hD0.self (sz := s.heap.size)
  generalize hAe : va_A [(g0, .inr (6, [.int co, .int (nI n), .ref m_sea, .ref m_center, .ref m_home, .ref m_borders, .int mp, .int mt, .ref m_owner, .ref m_units, .ref m_kind, .ref m_toX, .ref m_toY, .ref m_results, .ref m_known, .ref m_reached, .ref m_way, .ref m_aside, .ref m_origin, .ref m_retreats, .ref m_contested, .ref m_moved, .int (nI sh), .ref m_past])), (m_units, .inl (cI, 12, .inl fu)), (m_owner, .inl (cI, 12, .inl fw)), (m_kind, .inl (cI, 12, .inl (fun j => nI (Kd j)))), (m_toX, .inl (cI, 12, .inl (fun j => nI (X j)))), (m_toY, .inl (cI, 12, .inl (fun j => nI (Y j)))), (m_results, .inl (cI, 12, .inl (fun j => nI (Rs j)))), (m_past, .inl (cI, 584, .inl fp))] s.heap.size = A at hD hXn ⊢
  have hA : ∀ q : Nat, s.heap.size ≤ q → A q := fun q h => by rw [← hAe]; exact Or.inr h
  have hS : va_S A s.heap s.heap [] := va_S.rf
  have hXH : s.heap[aT]? = s.heap[aT]? := rfl
  have hl := lv_entry ([.ref g0]) (n := 3) (Nat.le_of_ble_eq_true rfl)
  rw [lg_entry_eq]
  generalize (lg_sl ([.ref g0]) ++ List.replicate (3 - (lg_sl ([.ref g0])).length) Slot.unset).toArray = ls at hl ⊢
  have hl : lv_has ls 3 [(0, .ref g0)] := hl
  refine lv_aload_n hx hb d_Mo_keep_0 rfl (lv_at hl 0 rfl) ?_
  refine va_get (D := D) (ci := 6) (v := .int (nI sh)) (C := R_Mo) (T := T_Mo) (N := 24) hx hb hts hin_Mo hown hK hP 0 rfl rfl 22 (by decide) (hts _ wd_726) (fun _ h9 => h9) rfl d_Mo_keep_1 ?_
  refine lv_bipush (v := 8) hx hb d_Mo_keep_4 (by decide) ?_
  refine lv_icmp_ne (tgt := 49) hx hb d_Mo_keep_6 (by decide) (fun _ => ?_) (fun h0 => absurd ((nI_lit (by omega) (by decide)).mp h0) (Nat.ne_of_lt hsh))
  refine lv_bipush (v := 73) hx hb d_Mo_keep_49 (by decide) ?_
  refine lv_aload_n hx hb d_Mo_keep_51 rfl (lv_at hl 0 rfl) ?_
  refine va_get (D := D) (ci := 6) (v := .int (nI sh)) (C := R_Mo) (T := T_Mo) (N := 24) hx hb hts hin_Mo hown hK hP 0 rfl rfl 22 (by decide) (hts _ wd_726) (fun _ h9 => h9) rfl d_Mo_keep_52 ?_
  refine lv_imul hx hb d_Mo_keep_55 ?_
  refine tr_top (y := nI (73 * sh)) (pk_mul 73 sh) ?_
  refine lv_istore_n (lv' := [(1, .int (nI (73 * sh))), (0, .ref g0)]) hx hb d_Mo_keep_56 rfl hl (by decide) rfl (fun ls hl => ?_)
  refine lv_aload_n hx hb d_Mo_keep_57 rfl (lv_at hl 1 rfl) ?_
  refine va_get (D := D) (ci := 6) (v := .ref m_past) (C := R_Mo) (T := T_Mo) (N := 24) hx hb hts hin_Mo hown hK hP 0 rfl rfl 23 (by decide) (hts _ wd_727) (fun _ h9 => h9) rfl d_Mo_keep_58 ?_
  refine lv_iload_n hx hb d_Mo_keep_61 rfl (lv_at hl 0 rfl) ?_
  refine lv_aload_n hx hb d_Mo_keep_62 rfl (lv_at hl 1 rfl) ?_
  refine va_get (D := D) (ci := 6) (v := .int mt) (C := R_Mo) (T := T_Mo) (N := 24) hx hb hts hin_Mo hown hK hP 0 rfl rfl 7 (by decide) (hts _ wd_711) (fun _ h9 => h9) rfl d_Mo_keep_63 ?_
  refine tr_iast (g := upd fp (73 * sh) mt) hx hb hK hP hD hS 7 0 rfl rfl (73 * sh) (by omega) (by decide) rfl d_Mo_keep_66 (fun H locs hP hD hS => ?_)
  have hP : va_P D vwCl [(g0, .inr (6, [.int co, .int (nI n), .ref m_sea, .ref m_center, .ref m_home, .ref m_borders, .int mp, .int mt, .ref m_owner, .ref m_units, .ref m_kind, .ref m_toX, .ref m_toY, .ref m_results, .ref m_known, .ref m_reached, .ref m_way, .ref m_aside, .ref m_origin, .ref m_retreats, .ref m_contested, .ref m_moved, .int (nI sh), .ref m_past])), (m_units, .inl (cI, 12, .inl fu)), (m_owner, .inl (cI, 12, .inl fw)), (m_kind, .inl (cI, 12, .inl (fun j => nI (Kd j)))), (m_toX, .inl (cI, 12, .inl (fun j => nI (X j)))), (m_toY, .inl (cI, 12, .inl (fun j => nI (Y j)))), (m_results, .inl (cI, 12, .inl (fun j => nI (Rs j)))), (m_past, .inl (cI, 584, .inl (upd fp (73 * sh) mt)))] H := hP
  have hD : va_D A [(g0, .inr (6, [.int co, .int (nI n), .ref m_sea, .ref m_center, .ref m_home, .ref m_borders, .int mp, .int mt, .ref m_owner, .ref m_units, .ref m_kind, .ref m_toX, .ref m_toY, .ref m_results, .ref m_known, .ref m_reached, .ref m_way, .ref m_aside, .ref m_origin, .ref m_retreats, .ref m_contested, .ref m_moved, .int (nI sh), .ref m_past])), (m_units, .inl (cI, 12, .inl fu)), (m_owner, .inl (cI, 12, .inl fw)), (m_kind, .inl (cI, 12, .inl (fun j => nI (Kd j)))), (m_toX, .inl (cI, 12, .inl (fun j => nI (X j)))), (m_toY, .inl (cI, 12, .inl (fun j => nI (Y j)))), (m_results, .inl (cI, 12, .inl (fun j => nI (Rs j)))), (m_past, .inl (cI, 584, .inl (upd fp (73 * sh) mt)))] := hD
  refine lv_iconst (v := 0) hx hb d_Mo_keep_67 (by decide) ?_
  refine lv_istore_n (lv' := [(2, .int 0), (1, .int (nI (73 * sh))), (0, .ref g0)]) hx hb d_Mo_keep_68 rfl hl (by decide) rfl (fun ls hl => ?_)
  have loop4 : ∀ (k i : Nat) (ls : Array Slot) (H : Heap) (locs : List Loc), i + k = 12 → lv_has ls 3 [(2, .int (nI i)), (1, .int (nI (73 * sh))), (0, .ref g0)] → va_P D vwCl [(g0, .inr (6, [.int co, .int (nI n), .ref m_sea, .ref m_center, .ref m_home, .ref m_borders, .int mp, .int mt, .ref m_owner, .ref m_units, .ref m_kind, .ref m_toX, .ref m_toY, .ref m_results, .ref m_known, .ref m_reached, .ref m_way, .ref m_aside, .ref m_origin, .ref m_retreats, .ref m_contested, .ref m_moved, .int (nI sh), .ref m_past])), (m_units, .inl (cI, 12, .inl fu)), (m_owner, .inl (cI, 12, .inl fw)), (m_kind, .inl (cI, 12, .inl (fun j => nI (Kd j)))), (m_toX, .inl (cI, 12, .inl (fun j => nI (X j)))), (m_toY, .inl (cI, 12, .inl (fun j => nI (Y j)))), (m_results, .inl (cI, 12, .inl (fun j => nI (Rs j)))), (m_past, .inl (cI, 584, .inl (kpL fu fw Kd X Y Rs (upd fp (73 * sh) mt) (73 * sh) i)))] H → va_D A [(g0, .inr (6, [.int co, .int (nI n), .ref m_sea, .ref m_center, .ref m_home, .ref m_borders, .int mp, .int mt, .ref m_owner, .ref m_units, .ref m_kind, .ref m_toX, .ref m_toY, .ref m_results, .ref m_known, .ref m_reached, .ref m_way, .ref m_aside, .ref m_origin, .ref m_retreats, .ref m_contested, .ref m_moved, .int (nI sh), .ref m_past])), (m_units, .inl (cI, 12, .inl fu)), (m_owner, .inl (cI, 12, .inl fw)), (m_kind, .inl (cI, 12, .inl (fun j => nI (Kd j)))), (m_toX, .inl (cI, 12, .inl (fun j => nI (X j)))), (m_toY, .inl (cI, 12, .inl (fun j => nI (Y j)))), (m_results, .inl (cI, 12, .inl (fun j => nI (Rs j)))), (m_past, .inl (cI, 584, .inl (kpL fu fw Kd X Y Rs (upd fp (73 * sh) mt) (73 * sh) i)))] → va_S A s.heap H locs → W p l e (headSpec w_Mo_keep ({ frames := 0, cells := 0, slots := 0, locals := 0 })).room s m ([.ref g0]).toArray below meth c H locs 0 0 (MQ below (va_Qv (fun _ : Unit => True) (fun _ t => tB D A [(g0, .inr (6, [.int co, .int (nI n), .ref m_sea, .ref m_center, .ref m_home, .ref m_borders, .int mp, .int mt, .ref m_owner, .ref m_units, .ref m_kind, .ref m_toX, .ref m_toY, .ref m_results, .ref m_known, .ref m_reached, .ref m_way, .ref m_aside, .ref m_origin, .ref m_retreats, .ref m_contested, .ref m_moved, .int (nI (sh + 1)), .ref m_past])), (m_units, .inl (cI, 12, .inl fu)), (m_owner, .inl (cI, 12, .inl fw)), (m_kind, .inl (cI, 12, .inl (fun j => nI (Kd j)))), (m_toX, .inl (cI, 12, .inl (fun j => nI (X j)))), (m_toY, .inl (cI, 12, .inl (fun j => nI (Y j)))), (m_results, .inl (cI, 12, .inl (fun j => nI (Rs j)))), (m_past, .inl (cI, 584, .inl (kpL fu fw Kd X Y Rs (upd fp (73 * sh) mt) (73 * sh) 12)))] t) A) ([.ref g0]).toArray s 0 0 A) (F0 m 69 ls []) := by
    intro k
    induction k with
    | zero =>
      intro i ls H locs hi hl hP hD hS
      have hie : i = 12 := by omega
      rw [hie] at hl hP hD
      refine lv_iload_n hx hb d_Mo_keep_69 rfl (lv_at hl 0 rfl) ?_
      refine lv_bipush (v := 12) hx hb d_Mo_keep_70 (by decide) ?_
      refine lv_icmp_ge (tgt := 182) hx hb d_Mo_keep_72 (by decide) (fun _ => ?_) (fun h0 => absurd (by decide) h0)
      refine lv_aload_n hx hb d_Mo_keep_182 rfl (lv_at hl 2 rfl) ?_
      refine lv_dup hx hb d_Mo_keep_183 rfl ?_
      refine va_get (D := D) (ci := 6) (v := .int (nI sh)) (C := R_Mo) (T := T_Mo) (N := 24) hx hb hts hin_Mo hown hK hP 0 rfl rfl 22 (by decide) (hts _ wd_726) (fun _ h9 => h9) rfl d_Mo_keep_184 ?_
      refine lv_iconst (v := 1) hx hb d_Mo_keep_187 (by decide) ?_
      refine lv_iadd hx hb d_Mo_keep_188 ?_
      refine tr_top (y := nI (sh + 1)) (nI_add sh 1) ?_
      refine va_put (D := D) (ci := 6) (v := .int (nI (sh + 1))) (ty := .int) (C := R_Mo) (T := T_Mo) (N := 24) hx hb hts hin_Mo ty_Mo tyok_Mo nm_Mo hown hK hP hD hS 0 rfl rfl 22 (by decide) (hts _ wd_726) (fun _ h9 => h9) rfl (by decide +kernel) rfl rfl (Nat.le_of_ble_eq_true rfl) d_Mo_keep_189 (fun H locs hP hD hS => ?_)
      have hP : va_P D vwCl [(g0, .inr (6, [.int co, .int (nI n), .ref m_sea, .ref m_center, .ref m_home, .ref m_borders, .int mp, .int mt, .ref m_owner, .ref m_units, .ref m_kind, .ref m_toX, .ref m_toY, .ref m_results, .ref m_known, .ref m_reached, .ref m_way, .ref m_aside, .ref m_origin, .ref m_retreats, .ref m_contested, .ref m_moved, .int (nI (sh + 1)), .ref m_past])), (m_units, .inl (cI, 12, .inl fu)), (m_owner, .inl (cI, 12, .inl fw)), (m_kind, .inl (cI, 12, .inl (fun j => nI (Kd j)))), (m_toX, .inl (cI, 12, .inl (fun j => nI (X j)))), (m_toY, .inl (cI, 12, .inl (fun j => nI (Y j)))), (m_results, .inl (cI, 12, .inl (fun j => nI (Rs j)))), (m_past, .inl (cI, 584, .inl (kpL fu fw Kd X Y Rs (upd fp (73 * sh) mt) (73 * sh) 12)))] H := hP
      have hD : va_D A [(g0, .inr (6, [.int co, .int (nI n), .ref m_sea, .ref m_center, .ref m_home, .ref m_borders, .int mp, .int mt, .ref m_owner, .ref m_units, .ref m_kind, .ref m_toX, .ref m_toY, .ref m_results, .ref m_known, .ref m_reached, .ref m_way, .ref m_aside, .ref m_origin, .ref m_retreats, .ref m_contested, .ref m_moved, .int (nI (sh + 1)), .ref m_past])), (m_units, .inl (cI, 12, .inl fu)), (m_owner, .inl (cI, 12, .inl fw)), (m_kind, .inl (cI, 12, .inl (fun j => nI (Kd j)))), (m_toX, .inl (cI, 12, .inl (fun j => nI (X j)))), (m_toY, .inl (cI, 12, .inl (fun j => nI (Y j)))), (m_results, .inl (cI, 12, .inl (fun j => nI (Rs j)))), (m_past, .inl (cI, 584, .inl (kpL fu fw Kd X Y Rs (upd fp (73 * sh) mt) (73 * sh) 12)))] := hD
      have hP9 := hP.sub (ws' := [(g0, .inr (6, [.int co, .int (nI n), .ref m_sea, .ref m_center, .ref m_home, .ref m_borders, .int mp, .int mt, .ref m_owner, .ref m_units, .ref m_kind, .ref m_toX, .ref m_toY, .ref m_results, .ref m_known, .ref m_reached, .ref m_way, .ref m_aside, .ref m_origin, .ref m_retreats, .ref m_contested, .ref m_moved, .int (nI (sh + 1)), .ref m_past])), (m_units, .inl (cI, 12, .inl fu)), (m_owner, .inl (cI, 12, .inl fw)), (m_kind, .inl (cI, 12, .inl (fun j => nI (Kd j)))), (m_toX, .inl (cI, 12, .inl (fun j => nI (X j)))), (m_toY, .inl (cI, 12, .inl (fun j => nI (Y j)))), (m_results, .inl (cI, 12, .inl (fun j => nI (Rs j)))), (m_past, .inl (cI, 584, .inl (kpL fu fw Kd X Y Rs (upd fp (73 * sh) mt) (73 * sh) 12)))]) [0, 1, 2, 3, 4, 5, 6, 7] rfl
      have hD9 := hD.sub (ws' := [(g0, .inr (6, [.int co, .int (nI n), .ref m_sea, .ref m_center, .ref m_home, .ref m_borders, .int mp, .int mt, .ref m_owner, .ref m_units, .ref m_kind, .ref m_toX, .ref m_toY, .ref m_results, .ref m_known, .ref m_reached, .ref m_way, .ref m_aside, .ref m_origin, .ref m_retreats, .ref m_contested, .ref m_moved, .int (nI (sh + 1)), .ref m_past])), (m_units, .inl (cI, 12, .inl fu)), (m_owner, .inl (cI, 12, .inl fw)), (m_kind, .inl (cI, 12, .inl (fun j => nI (Kd j)))), (m_toX, .inl (cI, 12, .inl (fun j => nI (X j)))), (m_toY, .inl (cI, 12, .inl (fun j => nI (Y j)))), (m_results, .inl (cI, 12, .inl (fun j => nI (Rs j)))), (m_past, .inl (cI, 584, .inl (kpL fu fw Kd X Y Rs (upd fp (73 * sh) mt) (73 * sh) 12)))]) [0, 1, 2, 3, 4, 5, 6, 7] (by decide) rfl
      exact W.vret hx hb hr (fun t ht hW => ⟨⟨(), rfl, trivial, by rw [ht]; exact hP9, hD9⟩, hS.F ht⟩) hS.2.2 d_Mo_keep_192
    | succ k ih =>
      intro i ls H locs hi hl hP hD hS
      have hlt : i < 12 := by omega
      have hlt12 : i < 12 := by omega
      refine lv_iload_n hx hb d_Mo_keep_69 rfl (lv_at hl 0 rfl) ?_
      refine lv_bipush (v := 12) hx hb d_Mo_keep_70 (by decide) ?_
      refine lv_icmp_ge (tgt := 182) hx hb d_Mo_keep_72 (by decide) (fun h0 => absurd h0 (nI_ge hlt (by decide))) (fun _ => ?_)
      refine lv_aload_n hx hb d_Mo_keep_75 rfl (lv_at hl 2 rfl) ?_
      refine va_get (D := D) (ci := 6) (v := .ref m_past) (C := R_Mo) (T := T_Mo) (N := 24) hx hb hts hin_Mo hown hK hP 0 rfl rfl 23 (by decide) (hts _ wd_727) (fun _ h9 => h9) rfl d_Mo_keep_76 ?_
      refine lv_iload_n hx hb d_Mo_keep_79 rfl (lv_at hl 1 rfl) ?_
      refine lv_iconst (v := 1) hx hb d_Mo_keep_80 (by decide) ?_
      refine lv_iadd hx hb d_Mo_keep_81 ?_
      refine tr_top (y := nI ((73 * sh) + 1)) (nI_add (73 * sh) 1) ?_
      refine lv_iload_n hx hb d_Mo_keep_82 rfl (lv_at hl 0 rfl) ?_
      refine lv_iadd hx hb d_Mo_keep_83 ?_
      refine tr_top (y := nI (((73 * sh) + 1) + i)) (nI_add ((73 * sh) + 1) i) ?_
      refine lv_aload_n hx hb d_Mo_keep_84 rfl (lv_at hl 2 rfl) ?_
      refine va_get (D := D) (ci := 6) (v := .ref m_units) (C := R_Mo) (T := T_Mo) (N := 24) hx hb hts hin_Mo hown hK hP 0 rfl rfl 9 (by decide) (hts _ wd_713) (fun _ h9 => h9) rfl d_Mo_keep_85 ?_
      refine lv_iload_n hx hb d_Mo_keep_88 rfl (lv_at hl 0 rfl) ?_
      refine tr_iald (v := fu i) hx hb hK hP 1 0 rfl rfl i hlt12 (by decide) rfl d_Mo_keep_89 ?_
      refine tr_iast (g := upd (kpL fu fw Kd X Y Rs (upd fp (73 * sh) mt) (73 * sh) i) (((73 * sh) + 1) + i) (fu i)) hx hb hK hP hD hS 7 0 rfl rfl (((73 * sh) + 1) + i) (by omega) (by decide) rfl d_Mo_keep_90 (fun H locs hP hD hS => ?_)
      have hP : va_P D vwCl [(g0, .inr (6, [.int co, .int (nI n), .ref m_sea, .ref m_center, .ref m_home, .ref m_borders, .int mp, .int mt, .ref m_owner, .ref m_units, .ref m_kind, .ref m_toX, .ref m_toY, .ref m_results, .ref m_known, .ref m_reached, .ref m_way, .ref m_aside, .ref m_origin, .ref m_retreats, .ref m_contested, .ref m_moved, .int (nI sh), .ref m_past])), (m_units, .inl (cI, 12, .inl fu)), (m_owner, .inl (cI, 12, .inl fw)), (m_kind, .inl (cI, 12, .inl (fun j => nI (Kd j)))), (m_toX, .inl (cI, 12, .inl (fun j => nI (X j)))), (m_toY, .inl (cI, 12, .inl (fun j => nI (Y j)))), (m_results, .inl (cI, 12, .inl (fun j => nI (Rs j)))), (m_past, .inl (cI, 584, .inl (upd (kpL fu fw Kd X Y Rs (upd fp (73 * sh) mt) (73 * sh) i) (((73 * sh) + 1) + i) (fu i))))] H := hP
      have hD : va_D A [(g0, .inr (6, [.int co, .int (nI n), .ref m_sea, .ref m_center, .ref m_home, .ref m_borders, .int mp, .int mt, .ref m_owner, .ref m_units, .ref m_kind, .ref m_toX, .ref m_toY, .ref m_results, .ref m_known, .ref m_reached, .ref m_way, .ref m_aside, .ref m_origin, .ref m_retreats, .ref m_contested, .ref m_moved, .int (nI sh), .ref m_past])), (m_units, .inl (cI, 12, .inl fu)), (m_owner, .inl (cI, 12, .inl fw)), (m_kind, .inl (cI, 12, .inl (fun j => nI (Kd j)))), (m_toX, .inl (cI, 12, .inl (fun j => nI (X j)))), (m_toY, .inl (cI, 12, .inl (fun j => nI (Y j)))), (m_results, .inl (cI, 12, .inl (fun j => nI (Rs j)))), (m_past, .inl (cI, 584, .inl (upd (kpL fu fw Kd X Y Rs (upd fp (73 * sh) mt) (73 * sh) i) (((73 * sh) + 1) + i) (fu i))))] := hD
      refine lv_aload_n hx hb d_Mo_keep_91 rfl (lv_at hl 2 rfl) ?_
      refine va_get (D := D) (ci := 6) (v := .ref m_past) (C := R_Mo) (T := T_Mo) (N := 24) hx hb hts hin_Mo hown hK hP 0 rfl rfl 23 (by decide) (hts _ wd_727) (fun _ h9 => h9) rfl d_Mo_keep_92 ?_
      refine lv_iload_n hx hb d_Mo_keep_95 rfl (lv_at hl 1 rfl) ?_
      refine lv_bipush (v := 13) hx hb d_Mo_keep_96 (by decide) ?_
      refine lv_iadd hx hb d_Mo_keep_98 ?_
      refine tr_top (y := nI ((73 * sh) + 13)) (nI_add (73 * sh) 13) ?_
      refine lv_iload_n hx hb d_Mo_keep_99 rfl (lv_at hl 0 rfl) ?_
      refine lv_iadd hx hb d_Mo_keep_100 ?_
      refine tr_top (y := nI (((73 * sh) + 13) + i)) (nI_add ((73 * sh) + 13) i) ?_
      refine lv_aload_n hx hb d_Mo_keep_101 rfl (lv_at hl 2 rfl) ?_
      refine va_get (D := D) (ci := 6) (v := .ref m_owner) (C := R_Mo) (T := T_Mo) (N := 24) hx hb hts hin_Mo hown hK hP 0 rfl rfl 8 (by decide) (hts _ wd_712) (fun _ h9 => h9) rfl d_Mo_keep_102 ?_
      refine lv_iload_n hx hb d_Mo_keep_105 rfl (lv_at hl 0 rfl) ?_
      refine tr_iald (v := fw i) hx hb hK hP 2 0 rfl rfl i hlt12 (by decide) rfl d_Mo_keep_106 ?_
      refine tr_iast (g := upd (upd (kpL fu fw Kd X Y Rs (upd fp (73 * sh) mt) (73 * sh) i) (((73 * sh) + 1) + i) (fu i)) (((73 * sh) + 13) + i) (fw i)) hx hb hK hP hD hS 7 0 rfl rfl (((73 * sh) + 13) + i) (by omega) (by decide) rfl d_Mo_keep_107 (fun H locs hP hD hS => ?_)
      have hP : va_P D vwCl [(g0, .inr (6, [.int co, .int (nI n), .ref m_sea, .ref m_center, .ref m_home, .ref m_borders, .int mp, .int mt, .ref m_owner, .ref m_units, .ref m_kind, .ref m_toX, .ref m_toY, .ref m_results, .ref m_known, .ref m_reached, .ref m_way, .ref m_aside, .ref m_origin, .ref m_retreats, .ref m_contested, .ref m_moved, .int (nI sh), .ref m_past])), (m_units, .inl (cI, 12, .inl fu)), (m_owner, .inl (cI, 12, .inl fw)), (m_kind, .inl (cI, 12, .inl (fun j => nI (Kd j)))), (m_toX, .inl (cI, 12, .inl (fun j => nI (X j)))), (m_toY, .inl (cI, 12, .inl (fun j => nI (Y j)))), (m_results, .inl (cI, 12, .inl (fun j => nI (Rs j)))), (m_past, .inl (cI, 584, .inl (upd (upd (kpL fu fw Kd X Y Rs (upd fp (73 * sh) mt) (73 * sh) i) (((73 * sh) + 1) + i) (fu i)) (((73 * sh) + 13) + i) (fw i))))] H := hP
      have hD : va_D A [(g0, .inr (6, [.int co, .int (nI n), .ref m_sea, .ref m_center, .ref m_home, .ref m_borders, .int mp, .int mt, .ref m_owner, .ref m_units, .ref m_kind, .ref m_toX, .ref m_toY, .ref m_results, .ref m_known, .ref m_reached, .ref m_way, .ref m_aside, .ref m_origin, .ref m_retreats, .ref m_contested, .ref m_moved, .int (nI sh), .ref m_past])), (m_units, .inl (cI, 12, .inl fu)), (m_owner, .inl (cI, 12, .inl fw)), (m_kind, .inl (cI, 12, .inl (fun j => nI (Kd j)))), (m_toX, .inl (cI, 12, .inl (fun j => nI (X j)))), (m_toY, .inl (cI, 12, .inl (fun j => nI (Y j)))), (m_results, .inl (cI, 12, .inl (fun j => nI (Rs j)))), (m_past, .inl (cI, 584, .inl (upd (upd (kpL fu fw Kd X Y Rs (upd fp (73 * sh) mt) (73 * sh) i) (((73 * sh) + 1) + i) (fu i)) (((73 * sh) + 13) + i) (fw i))))] := hD
      refine lv_aload_n hx hb d_Mo_keep_108 rfl (lv_at hl 2 rfl) ?_
      refine va_get (D := D) (ci := 6) (v := .ref m_past) (C := R_Mo) (T := T_Mo) (N := 24) hx hb hts hin_Mo hown hK hP 0 rfl rfl 23 (by decide) (hts _ wd_727) (fun _ h9 => h9) rfl d_Mo_keep_109 ?_
      refine lv_iload_n hx hb d_Mo_keep_112 rfl (lv_at hl 1 rfl) ?_
      refine lv_bipush (v := 25) hx hb d_Mo_keep_113 (by decide) ?_
      refine lv_iadd hx hb d_Mo_keep_115 ?_
      refine tr_top (y := nI ((73 * sh) + 25)) (nI_add (73 * sh) 25) ?_
      refine lv_iload_n hx hb d_Mo_keep_116 rfl (lv_at hl 0 rfl) ?_
      refine lv_iadd hx hb d_Mo_keep_117 ?_
      refine tr_top (y := nI (((73 * sh) + 25) + i)) (nI_add ((73 * sh) + 25) i) ?_
      refine lv_aload_n hx hb d_Mo_keep_118 rfl (lv_at hl 2 rfl) ?_
      refine va_get (D := D) (ci := 6) (v := .ref m_kind) (C := R_Mo) (T := T_Mo) (N := 24) hx hb hts hin_Mo hown hK hP 0 rfl rfl 10 (by decide) (hts _ wd_714) (fun _ h9 => h9) rfl d_Mo_keep_119 ?_
      refine lv_iload_n hx hb d_Mo_keep_122 rfl (lv_at hl 0 rfl) ?_
      refine tr_iald (v := nI (Kd i)) hx hb hK hP 3 0 rfl rfl i hlt12 (by decide) rfl d_Mo_keep_123 ?_
      refine tr_iast (g := upd (upd (upd (kpL fu fw Kd X Y Rs (upd fp (73 * sh) mt) (73 * sh) i) (((73 * sh) + 1) + i) (fu i)) (((73 * sh) + 13) + i) (fw i)) (((73 * sh) + 25) + i) (nI (Kd i))) hx hb hK hP hD hS 7 0 rfl rfl (((73 * sh) + 25) + i) (by omega) (by decide) rfl d_Mo_keep_124 (fun H locs hP hD hS => ?_)
      have hP : va_P D vwCl [(g0, .inr (6, [.int co, .int (nI n), .ref m_sea, .ref m_center, .ref m_home, .ref m_borders, .int mp, .int mt, .ref m_owner, .ref m_units, .ref m_kind, .ref m_toX, .ref m_toY, .ref m_results, .ref m_known, .ref m_reached, .ref m_way, .ref m_aside, .ref m_origin, .ref m_retreats, .ref m_contested, .ref m_moved, .int (nI sh), .ref m_past])), (m_units, .inl (cI, 12, .inl fu)), (m_owner, .inl (cI, 12, .inl fw)), (m_kind, .inl (cI, 12, .inl (fun j => nI (Kd j)))), (m_toX, .inl (cI, 12, .inl (fun j => nI (X j)))), (m_toY, .inl (cI, 12, .inl (fun j => nI (Y j)))), (m_results, .inl (cI, 12, .inl (fun j => nI (Rs j)))), (m_past, .inl (cI, 584, .inl (upd (upd (upd (kpL fu fw Kd X Y Rs (upd fp (73 * sh) mt) (73 * sh) i) (((73 * sh) + 1) + i) (fu i)) (((73 * sh) + 13) + i) (fw i)) (((73 * sh) + 25) + i) (nI (Kd i)))))] H := hP
      have hD : va_D A [(g0, .inr (6, [.int co, .int (nI n), .ref m_sea, .ref m_center, .ref m_home, .ref m_borders, .int mp, .int mt, .ref m_owner, .ref m_units, .ref m_kind, .ref m_toX, .ref m_toY, .ref m_results, .ref m_known, .ref m_reached, .ref m_way, .ref m_aside, .ref m_origin, .ref m_retreats, .ref m_contested, .ref m_moved, .int (nI sh), .ref m_past])), (m_units, .inl (cI, 12, .inl fu)), (m_owner, .inl (cI, 12, .inl fw)), (m_kind, .inl (cI, 12, .inl (fun j => nI (Kd j)))), (m_toX, .inl (cI, 12, .inl (fun j => nI (X j)))), (m_toY, .inl (cI, 12, .inl (fun j => nI (Y j)))), (m_results, .inl (cI, 12, .inl (fun j => nI (Rs j)))), (m_past, .inl (cI, 584, .inl (upd (upd (upd (kpL fu fw Kd X Y Rs (upd fp (73 * sh) mt) (73 * sh) i) (((73 * sh) + 1) + i) (fu i)) (((73 * sh) + 13) + i) (fw i)) (((73 * sh) + 25) + i) (nI (Kd i)))))] := hD
      refine lv_aload_n hx hb d_Mo_keep_125 rfl (lv_at hl 2 rfl) ?_
      refine va_get (D := D) (ci := 6) (v := .ref m_past) (C := R_Mo) (T := T_Mo) (N := 24) hx hb hts hin_Mo hown hK hP 0 rfl rfl 23 (by decide) (hts _ wd_727) (fun _ h9 => h9) rfl d_Mo_keep_126 ?_
      refine lv_iload_n hx hb d_Mo_keep_129 rfl (lv_at hl 1 rfl) ?_
      refine lv_bipush (v := 37) hx hb d_Mo_keep_130 (by decide) ?_
      refine lv_iadd hx hb d_Mo_keep_132 ?_
      refine tr_top (y := nI ((73 * sh) + 37)) (nI_add (73 * sh) 37) ?_
      refine lv_iload_n hx hb d_Mo_keep_133 rfl (lv_at hl 0 rfl) ?_
      refine lv_iadd hx hb d_Mo_keep_134 ?_
      refine tr_top (y := nI (((73 * sh) + 37) + i)) (nI_add ((73 * sh) + 37) i) ?_
      refine lv_aload_n hx hb d_Mo_keep_135 rfl (lv_at hl 2 rfl) ?_
      refine va_get (D := D) (ci := 6) (v := .ref m_toX) (C := R_Mo) (T := T_Mo) (N := 24) hx hb hts hin_Mo hown hK hP 0 rfl rfl 11 (by decide) (hts _ wd_715) (fun _ h9 => h9) rfl d_Mo_keep_136 ?_
      refine lv_iload_n hx hb d_Mo_keep_139 rfl (lv_at hl 0 rfl) ?_
      refine tr_iald (v := nI (X i)) hx hb hK hP 4 0 rfl rfl i hlt12 (by decide) rfl d_Mo_keep_140 ?_
      refine tr_iast (g := upd (upd (upd (upd (kpL fu fw Kd X Y Rs (upd fp (73 * sh) mt) (73 * sh) i) (((73 * sh) + 1) + i) (fu i)) (((73 * sh) + 13) + i) (fw i)) (((73 * sh) + 25) + i) (nI (Kd i))) (((73 * sh) + 37) + i) (nI (X i))) hx hb hK hP hD hS 7 0 rfl rfl (((73 * sh) + 37) + i) (by omega) (by decide) rfl d_Mo_keep_141 (fun H locs hP hD hS => ?_)
      have hP : va_P D vwCl [(g0, .inr (6, [.int co, .int (nI n), .ref m_sea, .ref m_center, .ref m_home, .ref m_borders, .int mp, .int mt, .ref m_owner, .ref m_units, .ref m_kind, .ref m_toX, .ref m_toY, .ref m_results, .ref m_known, .ref m_reached, .ref m_way, .ref m_aside, .ref m_origin, .ref m_retreats, .ref m_contested, .ref m_moved, .int (nI sh), .ref m_past])), (m_units, .inl (cI, 12, .inl fu)), (m_owner, .inl (cI, 12, .inl fw)), (m_kind, .inl (cI, 12, .inl (fun j => nI (Kd j)))), (m_toX, .inl (cI, 12, .inl (fun j => nI (X j)))), (m_toY, .inl (cI, 12, .inl (fun j => nI (Y j)))), (m_results, .inl (cI, 12, .inl (fun j => nI (Rs j)))), (m_past, .inl (cI, 584, .inl (upd (upd (upd (upd (kpL fu fw Kd X Y Rs (upd fp (73 * sh) mt) (73 * sh) i) (((73 * sh) + 1) + i) (fu i)) (((73 * sh) + 13) + i) (fw i)) (((73 * sh) + 25) + i) (nI (Kd i))) (((73 * sh) + 37) + i) (nI (X i)))))] H := hP
      have hD : va_D A [(g0, .inr (6, [.int co, .int (nI n), .ref m_sea, .ref m_center, .ref m_home, .ref m_borders, .int mp, .int mt, .ref m_owner, .ref m_units, .ref m_kind, .ref m_toX, .ref m_toY, .ref m_results, .ref m_known, .ref m_reached, .ref m_way, .ref m_aside, .ref m_origin, .ref m_retreats, .ref m_contested, .ref m_moved, .int (nI sh), .ref m_past])), (m_units, .inl (cI, 12, .inl fu)), (m_owner, .inl (cI, 12, .inl fw)), (m_kind, .inl (cI, 12, .inl (fun j => nI (Kd j)))), (m_toX, .inl (cI, 12, .inl (fun j => nI (X j)))), (m_toY, .inl (cI, 12, .inl (fun j => nI (Y j)))), (m_results, .inl (cI, 12, .inl (fun j => nI (Rs j)))), (m_past, .inl (cI, 584, .inl (upd (upd (upd (upd (kpL fu fw Kd X Y Rs (upd fp (73 * sh) mt) (73 * sh) i) (((73 * sh) + 1) + i) (fu i)) (((73 * sh) + 13) + i) (fw i)) (((73 * sh) + 25) + i) (nI (Kd i))) (((73 * sh) + 37) + i) (nI (X i)))))] := hD
      refine lv_aload_n hx hb d_Mo_keep_142 rfl (lv_at hl 2 rfl) ?_
      refine va_get (D := D) (ci := 6) (v := .ref m_past) (C := R_Mo) (T := T_Mo) (N := 24) hx hb hts hin_Mo hown hK hP 0 rfl rfl 23 (by decide) (hts _ wd_727) (fun _ h9 => h9) rfl d_Mo_keep_143 ?_
      refine lv_iload_n hx hb d_Mo_keep_146 rfl (lv_at hl 1 rfl) ?_
      refine lv_bipush (v := 49) hx hb d_Mo_keep_147 (by decide) ?_
      refine lv_iadd hx hb d_Mo_keep_149 ?_
      refine tr_top (y := nI ((73 * sh) + 49)) (nI_add (73 * sh) 49) ?_
      refine lv_iload_n hx hb d_Mo_keep_150 rfl (lv_at hl 0 rfl) ?_
      refine lv_iadd hx hb d_Mo_keep_151 ?_
      refine tr_top (y := nI (((73 * sh) + 49) + i)) (nI_add ((73 * sh) + 49) i) ?_
      refine lv_aload_n hx hb d_Mo_keep_152 rfl (lv_at hl 2 rfl) ?_
      refine va_get (D := D) (ci := 6) (v := .ref m_toY) (C := R_Mo) (T := T_Mo) (N := 24) hx hb hts hin_Mo hown hK hP 0 rfl rfl 12 (by decide) (hts _ wd_716) (fun _ h9 => h9) rfl d_Mo_keep_153 ?_
      refine lv_iload_n hx hb d_Mo_keep_156 rfl (lv_at hl 0 rfl) ?_
      refine tr_iald (v := nI (Y i)) hx hb hK hP 5 0 rfl rfl i hlt12 (by decide) rfl d_Mo_keep_157 ?_
      refine tr_iast (g := upd (upd (upd (upd (upd (kpL fu fw Kd X Y Rs (upd fp (73 * sh) mt) (73 * sh) i) (((73 * sh) + 1) + i) (fu i)) (((73 * sh) + 13) + i) (fw i)) (((73 * sh) + 25) + i) (nI (Kd i))) (((73 * sh) + 37) + i) (nI (X i))) (((73 * sh) + 49) + i) (nI (Y i))) hx hb hK hP hD hS 7 0 rfl rfl (((73 * sh) + 49) + i) (by omega) (by decide) rfl d_Mo_keep_158 (fun H locs hP hD hS => ?_)
      have hP : va_P D vwCl [(g0, .inr (6, [.int co, .int (nI n), .ref m_sea, .ref m_center, .ref m_home, .ref m_borders, .int mp, .int mt, .ref m_owner, .ref m_units, .ref m_kind, .ref m_toX, .ref m_toY, .ref m_results, .ref m_known, .ref m_reached, .ref m_way, .ref m_aside, .ref m_origin, .ref m_retreats, .ref m_contested, .ref m_moved, .int (nI sh), .ref m_past])), (m_units, .inl (cI, 12, .inl fu)), (m_owner, .inl (cI, 12, .inl fw)), (m_kind, .inl (cI, 12, .inl (fun j => nI (Kd j)))), (m_toX, .inl (cI, 12, .inl (fun j => nI (X j)))), (m_toY, .inl (cI, 12, .inl (fun j => nI (Y j)))), (m_results, .inl (cI, 12, .inl (fun j => nI (Rs j)))), (m_past, .inl (cI, 584, .inl (upd (upd (upd (upd (upd (kpL fu fw Kd X Y Rs (upd fp (73 * sh) mt) (73 * sh) i) (((73 * sh) + 1) + i) (fu i)) (((73 * sh) + 13) + i) (fw i)) (((73 * sh) + 25) + i) (nI (Kd i))) (((73 * sh) + 37) + i) (nI (X i))) (((73 * sh) + 49) + i) (nI (Y i)))))] H := hP
      have hD : va_D A [(g0, .inr (6, [.int co, .int (nI n), .ref m_sea, .ref m_center, .ref m_home, .ref m_borders, .int mp, .int mt, .ref m_owner, .ref m_units, .ref m_kind, .ref m_toX, .ref m_toY, .ref m_results, .ref m_known, .ref m_reached, .ref m_way, .ref m_aside, .ref m_origin, .ref m_retreats, .ref m_contested, .ref m_moved, .int (nI sh), .ref m_past])), (m_units, .inl (cI, 12, .inl fu)), (m_owner, .inl (cI, 12, .inl fw)), (m_kind, .inl (cI, 12, .inl (fun j => nI (Kd j)))), (m_toX, .inl (cI, 12, .inl (fun j => nI (X j)))), (m_toY, .inl (cI, 12, .inl (fun j => nI (Y j)))), (m_results, .inl (cI, 12, .inl (fun j => nI (Rs j)))), (m_past, .inl (cI, 584, .inl (upd (upd (upd (upd (upd (kpL fu fw Kd X Y Rs (upd fp (73 * sh) mt) (73 * sh) i) (((73 * sh) + 1) + i) (fu i)) (((73 * sh) + 13) + i) (fw i)) (((73 * sh) + 25) + i) (nI (Kd i))) (((73 * sh) + 37) + i) (nI (X i))) (((73 * sh) + 49) + i) (nI (Y i)))))] := hD
      refine lv_aload_n hx hb d_Mo_keep_159 rfl (lv_at hl 2 rfl) ?_
      refine va_get (D := D) (ci := 6) (v := .ref m_past) (C := R_Mo) (T := T_Mo) (N := 24) hx hb hts hin_Mo hown hK hP 0 rfl rfl 23 (by decide) (hts _ wd_727) (fun _ h9 => h9) rfl d_Mo_keep_160 ?_
      refine lv_iload_n hx hb d_Mo_keep_163 rfl (lv_at hl 1 rfl) ?_
      refine lv_bipush (v := 61) hx hb d_Mo_keep_164 (by decide) ?_
      refine lv_iadd hx hb d_Mo_keep_166 ?_
      refine tr_top (y := nI ((73 * sh) + 61)) (nI_add (73 * sh) 61) ?_
      refine lv_iload_n hx hb d_Mo_keep_167 rfl (lv_at hl 0 rfl) ?_
      refine lv_iadd hx hb d_Mo_keep_168 ?_
      refine tr_top (y := nI (((73 * sh) + 61) + i)) (nI_add ((73 * sh) + 61) i) ?_
      refine lv_aload_n hx hb d_Mo_keep_169 rfl (lv_at hl 2 rfl) ?_
      refine va_get (D := D) (ci := 6) (v := .ref m_results) (C := R_Mo) (T := T_Mo) (N := 24) hx hb hts hin_Mo hown hK hP 0 rfl rfl 13 (by decide) (hts _ wd_717) (fun _ h9 => h9) rfl d_Mo_keep_170 ?_
      refine lv_iload_n hx hb d_Mo_keep_173 rfl (lv_at hl 0 rfl) ?_
      refine tr_iald (v := nI (Rs i)) hx hb hK hP 6 0 rfl rfl i hlt12 (by decide) rfl d_Mo_keep_174 ?_
      refine tr_iast (g := upd (upd (upd (upd (upd (upd (kpL fu fw Kd X Y Rs (upd fp (73 * sh) mt) (73 * sh) i) (((73 * sh) + 1) + i) (fu i)) (((73 * sh) + 13) + i) (fw i)) (((73 * sh) + 25) + i) (nI (Kd i))) (((73 * sh) + 37) + i) (nI (X i))) (((73 * sh) + 49) + i) (nI (Y i))) (((73 * sh) + 61) + i) (nI (Rs i))) hx hb hK hP hD hS 7 0 rfl rfl (((73 * sh) + 61) + i) (by omega) (by decide) rfl d_Mo_keep_175 (fun H locs hP hD hS => ?_)
      have hP : va_P D vwCl [(g0, .inr (6, [.int co, .int (nI n), .ref m_sea, .ref m_center, .ref m_home, .ref m_borders, .int mp, .int mt, .ref m_owner, .ref m_units, .ref m_kind, .ref m_toX, .ref m_toY, .ref m_results, .ref m_known, .ref m_reached, .ref m_way, .ref m_aside, .ref m_origin, .ref m_retreats, .ref m_contested, .ref m_moved, .int (nI sh), .ref m_past])), (m_units, .inl (cI, 12, .inl fu)), (m_owner, .inl (cI, 12, .inl fw)), (m_kind, .inl (cI, 12, .inl (fun j => nI (Kd j)))), (m_toX, .inl (cI, 12, .inl (fun j => nI (X j)))), (m_toY, .inl (cI, 12, .inl (fun j => nI (Y j)))), (m_results, .inl (cI, 12, .inl (fun j => nI (Rs j)))), (m_past, .inl (cI, 584, .inl (upd (upd (upd (upd (upd (upd (kpL fu fw Kd X Y Rs (upd fp (73 * sh) mt) (73 * sh) i) (((73 * sh) + 1) + i) (fu i)) (((73 * sh) + 13) + i) (fw i)) (((73 * sh) + 25) + i) (nI (Kd i))) (((73 * sh) + 37) + i) (nI (X i))) (((73 * sh) + 49) + i) (nI (Y i))) (((73 * sh) + 61) + i) (nI (Rs i)))))] H := hP
      have hD : va_D A [(g0, .inr (6, [.int co, .int (nI n), .ref m_sea, .ref m_center, .ref m_home, .ref m_borders, .int mp, .int mt, .ref m_owner, .ref m_units, .ref m_kind, .ref m_toX, .ref m_toY, .ref m_results, .ref m_known, .ref m_reached, .ref m_way, .ref m_aside, .ref m_origin, .ref m_retreats, .ref m_contested, .ref m_moved, .int (nI sh), .ref m_past])), (m_units, .inl (cI, 12, .inl fu)), (m_owner, .inl (cI, 12, .inl fw)), (m_kind, .inl (cI, 12, .inl (fun j => nI (Kd j)))), (m_toX, .inl (cI, 12, .inl (fun j => nI (X j)))), (m_toY, .inl (cI, 12, .inl (fun j => nI (Y j)))), (m_results, .inl (cI, 12, .inl (fun j => nI (Rs j)))), (m_past, .inl (cI, 584, .inl (upd (upd (upd (upd (upd (upd (kpL fu fw Kd X Y Rs (upd fp (73 * sh) mt) (73 * sh) i) (((73 * sh) + 1) + i) (fu i)) (((73 * sh) + 13) + i) (fw i)) (((73 * sh) + 25) + i) (nI (Kd i))) (((73 * sh) + 37) + i) (nI (X i))) (((73 * sh) + 49) + i) (nI (Y i))) (((73 * sh) + 61) + i) (nI (Rs i)))))] := hD
      refine lv_iinc (lv' := [(2, .int ((nI i) + 1)), (1, .int (nI (73 * sh))), (0, .ref g0)]) hx hb d_Mo_keep_176 hl (k := 0) rfl rfl (by decide) rfl (fun ls hl => ?_)
      refine lv_goto (tgt := 69) hx hb d_Mo_keep_179 (by decide) ?_
      have e4 : (nI i) + 1 = nI (i + 1) := nI_1 i
      have eo5 : (upd (upd (upd (upd (upd (upd (kpL fu fw Kd X Y Rs (upd fp (73 * sh) mt) (73 * sh) i) (((73 * sh) + 1) + i) (fu i)) (((73 * sh) + 13) + i) (fw i)) (((73 * sh) + 25) + i) (nI (Kd i))) (((73 * sh) + 37) + i) (nI (X i))) (((73 * sh) + 49) + i) (nI (Y i))) (((73 * sh) + 61) + i) (nI (Rs i))) = (kpL fu fw Kd X Y Rs (upd fp (73 * sh) mt) (73 * sh) (i + 1)) := rfl
      exact ih (i + 1) ls H locs (by omega) (by rw [← e4]; exact lv_sub hl [0, 1, 2] rfl) (by rw [← eo5]; exact hP) (by rw [← eo5]; exact hD) hS
  exact loop4 12 0 ls _ _ (Nat.zero_add _) hl (hP) (hD) hS


set_option maxHeartbeats 4000000 in
set_option maxRecDepth 100000 in
theorem c_Mo_keep8 (l : Launch) (D : va_G) (cI cZ cJ cS : ClassId) (aT : Nat) (ceT : Cell) (sz : Nat) (g0 m_sea m_center m_home m_borders m_owner m_units m_kind m_toX m_toY m_results m_known m_reached m_way m_aside m_origin m_retreats m_contested m_moved m_past : Nat) (n : Nat) (co mp mt : Int32) (fu : Nat → Int32) (fw : Nat → Int32) (Kd : Nat → Nat) (X : Nat → Nat) (Y : Nat → Nat) (Rs : Nat → Nat) (fp : Nat → Int32)  : Met l y_Mo_keep w_Mo_keep ({ frames := 0, cells := 0, slots := 0, locals := 0 }) (tH D cI cZ cJ cS aT ceT [.ref g0] sz [(g0, .inr (6, [.int co, .int (nI n), .ref m_sea, .ref m_center, .ref m_home, .ref m_borders, .int mp, .int mt, .ref m_owner, .ref m_units, .ref m_kind, .ref m_toX, .ref m_toY, .ref m_results, .ref m_known, .ref m_reached, .ref m_way, .ref m_aside, .ref m_origin, .ref m_retreats, .ref m_contested, .ref m_moved, .int (nI 8), .ref m_past])), (m_units, .inl (cI, 12, .inl fu)), (m_owner, .inl (cI, 12, .inl fw)), (m_kind, .inl (cI, 12, .inl (fun j => nI (Kd j)))), (m_toX, .inl (cI, 12, .inl (fun j => nI (X j)))), (m_toY, .inl (cI, 12, .inl (fun j => nI (Y j)))), (m_results, .inl (cI, 12, .inl (fun j => nI (Rs j)))), (m_past, .inl (cI, 584, .inl fp))]) (va_Qv (fun _ : Unit => True) (fun _ t => tB D (va_A [(g0, .inr (6, [.int co, .int (nI n), .ref m_sea, .ref m_center, .ref m_home, .ref m_borders, .int mp, .int mt, .ref m_owner, .ref m_units, .ref m_kind, .ref m_toX, .ref m_toY, .ref m_results, .ref m_known, .ref m_reached, .ref m_way, .ref m_aside, .ref m_origin, .ref m_retreats, .ref m_contested, .ref m_moved, .int (nI 8), .ref m_past])), (m_units, .inl (cI, 12, .inl fu)), (m_owner, .inl (cI, 12, .inl fw)), (m_kind, .inl (cI, 12, .inl (fun j => nI (Kd j)))), (m_toX, .inl (cI, 12, .inl (fun j => nI (X j)))), (m_toY, .inl (cI, 12, .inl (fun j => nI (Y j)))), (m_results, .inl (cI, 12, .inl (fun j => nI (Rs j)))), (m_past, .inl (cI, 584, .inl fp))] sz) [(g0, .inr (6, [.int co, .int (nI n), .ref m_sea, .ref m_center, .ref m_home, .ref m_borders, .int mp, .int mt, .ref m_owner, .ref m_units, .ref m_kind, .ref m_toX, .ref m_toY, .ref m_results, .ref m_known, .ref m_reached, .ref m_way, .ref m_aside, .ref m_origin, .ref m_retreats, .ref m_contested, .ref m_moved, .int (nI (7 + 1)), .ref m_past])), (m_units, .inl (cI, 12, .inl fu)), (m_owner, .inl (cI, 12, .inl fw)), (m_kind, .inl (cI, 12, .inl (fun j => nI (Kd j)))), (m_toX, .inl (cI, 12, .inl (fun j => nI (X j)))), (m_toY, .inl (cI, 12, .inl (fun j => nI (Y j)))), (m_results, .inl (cI, 12, .inl (fun j => nI (Rs j)))), (m_past, .inl (cI, 584, .inl (kpL fu fw Kd X Y Rs (upd (mxI (fun k => fp (k + 73)) fp 511) (73 * 7) mt) (73 * 7) 12)))] t) (va_A [(g0, .inr (6, [.int co, .int (nI n), .ref m_sea, .ref m_center, .ref m_home, .ref m_borders, .int mp, .int mt, .ref m_owner, .ref m_units, .ref m_kind, .ref m_toX, .ref m_toY, .ref m_results, .ref m_known, .ref m_reached, .ref m_way, .ref m_aside, .ref m_origin, .ref m_retreats, .ref m_contested, .ref m_moved, .int (nI 8), .ref m_past])), (m_units, .inl (cI, 12, .inl fu)), (m_owner, .inl (cI, 12, .inl fw)), (m_kind, .inl (cI, 12, .inl (fun j => nI (Kd j)))), (m_toX, .inl (cI, 12, .inl (fun j => nI (X j)))), (m_toY, .inl (cI, 12, .inl (fun j => nI (Y j)))), (m_results, .inl (cI, 12, .inl (fun j => nI (Rs j)))), (m_past, .inl (cI, 584, .inl fp))] sz)) 0 0 (va_A [(g0, .inr (6, [.int co, .int (nI n), .ref m_sea, .ref m_center, .ref m_home, .ref m_borders, .int mp, .int mt, .ref m_owner, .ref m_units, .ref m_kind, .ref m_toX, .ref m_toY, .ref m_results, .ref m_known, .ref m_reached, .ref m_way, .ref m_aside, .ref m_origin, .ref m_retreats, .ref m_contested, .ref m_moved, .int (nI 8), .ref m_past])), (m_units, .inl (cI, 12, .inl fu)), (m_owner, .inl (cI, 12, .inl fw)), (m_kind, .inl (cI, 12, .inl (fun j => nI (Kd j)))), (m_toX, .inl (cI, 12, .inl (fun j => nI (X j)))), (m_toY, .inl (cI, 12, .inl (fun j => nI (Y j)))), (m_results, .inl (cI, 12, .inl (fun j => nI (Rs j)))), (m_past, .inl (cI, 584, .inl fp))] sz) := by
  refine Met.ofW (cc := b_Mo_keep) (maxL := 3) (ret := none) (by decide) rfl ?_
  intro p e s m args below meth c s₁ B hml hv
  obtain ⟨rfl, hsz, hP, hK, hD0, hX⟩ := hv
  have hx := B.exec
  have hb := B.bytes
  have hr := B.returns
  have hts0 := atoms_spec (ws := w_Mo_keep) B.pre
  have hts : ∀ w ∈ TB, w.before _ s = true := fun w h => hts0 w (List.mem_cons_of_mem _ h)
  have hown : s.vm.findClass R_Mo = some m.cls := findClass_of_methodNamed B.named
  have hlocks := B.notSynchronized
  subst hsz
  have hXl := tx_lt hX
  have hXn := tx_far hP hX
  have hD := hD0.self (sz := s.heap.size)
  generalize hAe : va_A [(g0, .inr (6, [.int co, .int (nI n), .ref m_sea, .ref m_center, .ref m_home, .ref m_borders, .int mp, .int mt, .ref m_owner, .ref m_units, .ref m_kind, .ref m_toX, .ref m_toY, .ref m_results, .ref m_known, .ref m_reached, .ref m_way, .ref m_aside, .ref m_origin, .ref m_retreats, .ref m_contested, .ref m_moved, .int (nI 8), .ref m_past])), (m_units, .inl (cI, 12, .inl fu)), (m_owner, .inl (cI, 12, .inl fw)), (m_kind, .inl (cI, 12, .inl (fun j => nI (Kd j)))), (m_toX, .inl (cI, 12, .inl (fun j => nI (X j)))), (m_toY, .inl (cI, 12, .inl (fun j => nI (Y j)))), (m_results, .inl (cI, 12, .inl (fun j => nI (Rs j)))), (m_past, .inl (cI, 584, .inl fp))] s.heap.size = A at hD hXn ⊢
  have hA : ∀ q : Nat, s.heap.size ≤ q → A q := fun q h => by rw [← hAe]; exact Or.inr h
  have hS : va_S A s.heap s.heap [] := va_S.rf
  have hXH : s.heap[aT]? = s.heap[aT]? := rfl
  have hl := lv_entry ([.ref g0]) (n := 3) (Nat.le_of_ble_eq_true rfl)
  rw [lg_entry_eq]
  generalize (lg_sl ([.ref g0]) ++ List.replicate (3 - (lg_sl ([.ref g0])).length) Slot.unset).toArray = ls at hl ⊢
  have hl : lv_has ls 3 [(0, .ref g0)] := hl
  refine lv_aload_n hx hb d_Mo_keep_0 rfl (lv_at hl 0 rfl) ?_
  refine va_get (D := D) (ci := 6) (v := .int (nI 8)) (C := R_Mo) (T := T_Mo) (N := 24) hx hb hts hin_Mo hown hK hP 0 rfl rfl 22 (by decide) (hts _ wd_726) (fun _ h9 => h9) rfl d_Mo_keep_1 ?_
  refine lv_bipush (v := 8) hx hb d_Mo_keep_4 (by decide) ?_
  refine lv_icmp_ne (tgt := 49) hx hb d_Mo_keep_6 (by decide) (fun h0 => absurd rfl (fun h8 => h0 (congrArg nI h8))) (fun _ => ?_)
  refine lv_iconst (v := 0) hx hb d_Mo_keep_9 (by decide) ?_
  refine lv_istore_n (lv' := [(1, .int 0), (0, .ref g0)]) hx hb d_Mo_keep_10 rfl hl (by decide) rfl (fun ls hl => ?_)
  have loop : ∀ (k i : Nat) (ls : Array Slot) (H : Heap) (locs : List Loc), i + k = 511 → lv_has ls 3 [(1, .int (nI i)), (0, .ref g0)] → va_P D vwCl [(g0, .inr (6, [.int co, .int (nI n), .ref m_sea, .ref m_center, .ref m_home, .ref m_borders, .int mp, .int mt, .ref m_owner, .ref m_units, .ref m_kind, .ref m_toX, .ref m_toY, .ref m_results, .ref m_known, .ref m_reached, .ref m_way, .ref m_aside, .ref m_origin, .ref m_retreats, .ref m_contested, .ref m_moved, .int (nI 8), .ref m_past])), (m_units, .inl (cI, 12, .inl fu)), (m_owner, .inl (cI, 12, .inl fw)), (m_kind, .inl (cI, 12, .inl (fun j => nI (Kd j)))), (m_toX, .inl (cI, 12, .inl (fun j => nI (X j)))), (m_toY, .inl (cI, 12, .inl (fun j => nI (Y j)))), (m_results, .inl (cI, 12, .inl (fun j => nI (Rs j)))), (m_past, .inl (cI, 584, .inl (mxI (fun k => fp (k + 73)) fp i)))] H → va_D A [(g0, .inr (6, [.int co, .int (nI n), .ref m_sea, .ref m_center, .ref m_home, .ref m_borders, .int mp, .int mt, .ref m_owner, .ref m_units, .ref m_kind, .ref m_toX, .ref m_toY, .ref m_results, .ref m_known, .ref m_reached, .ref m_way, .ref m_aside, .ref m_origin, .ref m_retreats, .ref m_contested, .ref m_moved, .int (nI 8), .ref m_past])), (m_units, .inl (cI, 12, .inl fu)), (m_owner, .inl (cI, 12, .inl fw)), (m_kind, .inl (cI, 12, .inl (fun j => nI (Kd j)))), (m_toX, .inl (cI, 12, .inl (fun j => nI (X j)))), (m_toY, .inl (cI, 12, .inl (fun j => nI (Y j)))), (m_results, .inl (cI, 12, .inl (fun j => nI (Rs j)))), (m_past, .inl (cI, 584, .inl (mxI (fun k => fp (k + 73)) fp i)))] → va_S A s.heap H locs → W p l e (headSpec w_Mo_keep ({ frames := 0, cells := 0, slots := 0, locals := 0 })).room s m ([.ref g0]).toArray below meth c H locs 0 0 (MQ below (va_Qv (fun _ : Unit => True) (fun _ t => tB D A [(g0, .inr (6, [.int co, .int (nI n), .ref m_sea, .ref m_center, .ref m_home, .ref m_borders, .int mp, .int mt, .ref m_owner, .ref m_units, .ref m_kind, .ref m_toX, .ref m_toY, .ref m_results, .ref m_known, .ref m_reached, .ref m_way, .ref m_aside, .ref m_origin, .ref m_retreats, .ref m_contested, .ref m_moved, .int (nI (7 + 1)), .ref m_past])), (m_units, .inl (cI, 12, .inl fu)), (m_owner, .inl (cI, 12, .inl fw)), (m_kind, .inl (cI, 12, .inl (fun j => nI (Kd j)))), (m_toX, .inl (cI, 12, .inl (fun j => nI (X j)))), (m_toY, .inl (cI, 12, .inl (fun j => nI (Y j)))), (m_results, .inl (cI, 12, .inl (fun j => nI (Rs j)))), (m_past, .inl (cI, 584, .inl (kpL fu fw Kd X Y Rs (upd (mxI (fun k => fp (k + 73)) fp 511) (73 * 7) mt) (73 * 7) 12)))] t) A) ([.ref g0]).toArray s 0 0 A) (F0 m 11 ls []) := by
    intro k
    induction k with
    | zero =>
      intro i ls H locs hi hl hP hD hS
      have hie : i = 511 := by omega
      rw [hie] at hl hP hD
      refine lv_iload_n hx hb d_Mo_keep_11 rfl (lv_at hl 0 rfl) ?_
      refine lv_sipush (v := 511) hx hb d_Mo_keep_12 (by decide) ?_
      refine lv_icmp_ge (tgt := 39) hx hb d_Mo_keep_15 (by decide) (fun _ => ?_) (fun h0 => absurd (by decide) h0)
      refine lv_aload_n hx hb d_Mo_keep_39 rfl (lv_at hl 1 rfl) ?_
      refine lv_dup hx hb d_Mo_keep_40 rfl ?_
      refine va_get (D := D) (ci := 6) (v := .int (nI 8)) (C := R_Mo) (T := T_Mo) (N := 24) hx hb hts hin_Mo hown hK hP 0 rfl rfl 22 (by decide) (hts _ wd_726) (fun _ h9 => h9) rfl d_Mo_keep_41 ?_
      refine lv_iconst (v := 1) hx hb d_Mo_keep_44 (by decide) ?_
      refine lv_isub hx hb d_Mo_keep_45 ?_
      refine tr_top (y := nI 7) (by decide) ?_
      refine va_put (D := D) (ci := 6) (v := .int (nI 7)) (ty := .int) (C := R_Mo) (T := T_Mo) (N := 24) hx hb hts hin_Mo ty_Mo tyok_Mo nm_Mo hown hK hP hD hS 0 rfl rfl 22 (by decide) (hts _ wd_726) (fun _ h9 => h9) rfl (by decide +kernel) rfl rfl (Nat.le_of_ble_eq_true rfl) d_Mo_keep_46 (fun H locs hP hD hS => ?_)
      have hP : va_P D vwCl [(g0, .inr (6, [.int co, .int (nI n), .ref m_sea, .ref m_center, .ref m_home, .ref m_borders, .int mp, .int mt, .ref m_owner, .ref m_units, .ref m_kind, .ref m_toX, .ref m_toY, .ref m_results, .ref m_known, .ref m_reached, .ref m_way, .ref m_aside, .ref m_origin, .ref m_retreats, .ref m_contested, .ref m_moved, .int (nI 7), .ref m_past])), (m_units, .inl (cI, 12, .inl fu)), (m_owner, .inl (cI, 12, .inl fw)), (m_kind, .inl (cI, 12, .inl (fun j => nI (Kd j)))), (m_toX, .inl (cI, 12, .inl (fun j => nI (X j)))), (m_toY, .inl (cI, 12, .inl (fun j => nI (Y j)))), (m_results, .inl (cI, 12, .inl (fun j => nI (Rs j)))), (m_past, .inl (cI, 584, .inl (mxI (fun k => fp (k + 73)) fp 511)))] H := hP
      have hD : va_D A [(g0, .inr (6, [.int co, .int (nI n), .ref m_sea, .ref m_center, .ref m_home, .ref m_borders, .int mp, .int mt, .ref m_owner, .ref m_units, .ref m_kind, .ref m_toX, .ref m_toY, .ref m_results, .ref m_known, .ref m_reached, .ref m_way, .ref m_aside, .ref m_origin, .ref m_retreats, .ref m_contested, .ref m_moved, .int (nI 7), .ref m_past])), (m_units, .inl (cI, 12, .inl fu)), (m_owner, .inl (cI, 12, .inl fw)), (m_kind, .inl (cI, 12, .inl (fun j => nI (Kd j)))), (m_toX, .inl (cI, 12, .inl (fun j => nI (X j)))), (m_toY, .inl (cI, 12, .inl (fun j => nI (Y j)))), (m_results, .inl (cI, 12, .inl (fun j => nI (Rs j)))), (m_past, .inl (cI, 584, .inl (mxI (fun k => fp (k + 73)) fp 511)))] := hD
      refine lv_bipush (v := 73) hx hb d_Mo_keep_49 (by decide) ?_
      refine lv_aload_n hx hb d_Mo_keep_51 rfl (lv_at hl 1 rfl) ?_
      refine va_get (D := D) (ci := 6) (v := .int (nI 7)) (C := R_Mo) (T := T_Mo) (N := 24) hx hb hts hin_Mo hown hK hP 0 rfl rfl 22 (by decide) (hts _ wd_726) (fun _ h9 => h9) rfl d_Mo_keep_52 ?_
      refine lv_imul hx hb d_Mo_keep_55 ?_
      refine tr_top (y := nI (73 * 7)) (pk_mul 73 7) ?_
      refine lv_istore_n (lv' := [(1, .int (nI (73 * 7))), (0, .ref g0)]) hx hb d_Mo_keep_56 rfl hl (by decide) rfl (fun ls hl => ?_)
      refine lv_aload_n hx hb d_Mo_keep_57 rfl (lv_at hl 1 rfl) ?_
      refine va_get (D := D) (ci := 6) (v := .ref m_past) (C := R_Mo) (T := T_Mo) (N := 24) hx hb hts hin_Mo hown hK hP 0 rfl rfl 23 (by decide) (hts _ wd_727) (fun _ h9 => h9) rfl d_Mo_keep_58 ?_
      refine lv_iload_n hx hb d_Mo_keep_61 rfl (lv_at hl 0 rfl) ?_
      refine lv_aload_n hx hb d_Mo_keep_62 rfl (lv_at hl 1 rfl) ?_
      refine va_get (D := D) (ci := 6) (v := .int mt) (C := R_Mo) (T := T_Mo) (N := 24) hx hb hts hin_Mo hown hK hP 0 rfl rfl 7 (by decide) (hts _ wd_711) (fun _ h9 => h9) rfl d_Mo_keep_63 ?_
      refine tr_iast (g := upd (mxI (fun k => fp (k + 73)) fp 511) (73 * 7) mt) hx hb hK hP hD hS 7 0 rfl rfl (73 * 7) (by omega) (by decide) rfl d_Mo_keep_66 (fun H locs hP hD hS => ?_)
      have hP : va_P D vwCl [(g0, .inr (6, [.int co, .int (nI n), .ref m_sea, .ref m_center, .ref m_home, .ref m_borders, .int mp, .int mt, .ref m_owner, .ref m_units, .ref m_kind, .ref m_toX, .ref m_toY, .ref m_results, .ref m_known, .ref m_reached, .ref m_way, .ref m_aside, .ref m_origin, .ref m_retreats, .ref m_contested, .ref m_moved, .int (nI 7), .ref m_past])), (m_units, .inl (cI, 12, .inl fu)), (m_owner, .inl (cI, 12, .inl fw)), (m_kind, .inl (cI, 12, .inl (fun j => nI (Kd j)))), (m_toX, .inl (cI, 12, .inl (fun j => nI (X j)))), (m_toY, .inl (cI, 12, .inl (fun j => nI (Y j)))), (m_results, .inl (cI, 12, .inl (fun j => nI (Rs j)))), (m_past, .inl (cI, 584, .inl (upd (mxI (fun k => fp (k + 73)) fp 511) (73 * 7) mt)))] H := hP
      have hD : va_D A [(g0, .inr (6, [.int co, .int (nI n), .ref m_sea, .ref m_center, .ref m_home, .ref m_borders, .int mp, .int mt, .ref m_owner, .ref m_units, .ref m_kind, .ref m_toX, .ref m_toY, .ref m_results, .ref m_known, .ref m_reached, .ref m_way, .ref m_aside, .ref m_origin, .ref m_retreats, .ref m_contested, .ref m_moved, .int (nI 7), .ref m_past])), (m_units, .inl (cI, 12, .inl fu)), (m_owner, .inl (cI, 12, .inl fw)), (m_kind, .inl (cI, 12, .inl (fun j => nI (Kd j)))), (m_toX, .inl (cI, 12, .inl (fun j => nI (X j)))), (m_toY, .inl (cI, 12, .inl (fun j => nI (Y j)))), (m_results, .inl (cI, 12, .inl (fun j => nI (Rs j)))), (m_past, .inl (cI, 584, .inl (upd (mxI (fun k => fp (k + 73)) fp 511) (73 * 7) mt)))] := hD
      refine lv_iconst (v := 0) hx hb d_Mo_keep_67 (by decide) ?_
      refine lv_istore_n (lv' := [(2, .int 0), (1, .int (nI (73 * 7))), (0, .ref g0)]) hx hb d_Mo_keep_68 rfl hl (by decide) rfl (fun ls hl => ?_)
      have loop4 : ∀ (k i : Nat) (ls : Array Slot) (H : Heap) (locs : List Loc), i + k = 12 → lv_has ls 3 [(2, .int (nI i)), (1, .int (nI (73 * 7))), (0, .ref g0)] → va_P D vwCl [(g0, .inr (6, [.int co, .int (nI n), .ref m_sea, .ref m_center, .ref m_home, .ref m_borders, .int mp, .int mt, .ref m_owner, .ref m_units, .ref m_kind, .ref m_toX, .ref m_toY, .ref m_results, .ref m_known, .ref m_reached, .ref m_way, .ref m_aside, .ref m_origin, .ref m_retreats, .ref m_contested, .ref m_moved, .int (nI 7), .ref m_past])), (m_units, .inl (cI, 12, .inl fu)), (m_owner, .inl (cI, 12, .inl fw)), (m_kind, .inl (cI, 12, .inl (fun j => nI (Kd j)))), (m_toX, .inl (cI, 12, .inl (fun j => nI (X j)))), (m_toY, .inl (cI, 12, .inl (fun j => nI (Y j)))), (m_results, .inl (cI, 12, .inl (fun j => nI (Rs j)))), (m_past, .inl (cI, 584, .inl (kpL fu fw Kd X Y Rs (upd (mxI (fun k => fp (k + 73)) fp 511) (73 * 7) mt) (73 * 7) i)))] H → va_D A [(g0, .inr (6, [.int co, .int (nI n), .ref m_sea, .ref m_center, .ref m_home, .ref m_borders, .int mp, .int mt, .ref m_owner, .ref m_units, .ref m_kind, .ref m_toX, .ref m_toY, .ref m_results, .ref m_known, .ref m_reached, .ref m_way, .ref m_aside, .ref m_origin, .ref m_retreats, .ref m_contested, .ref m_moved, .int (nI 7), .ref m_past])), (m_units, .inl (cI, 12, .inl fu)), (m_owner, .inl (cI, 12, .inl fw)), (m_kind, .inl (cI, 12, .inl (fun j => nI (Kd j)))), (m_toX, .inl (cI, 12, .inl (fun j => nI (X j)))), (m_toY, .inl (cI, 12, .inl (fun j => nI (Y j)))), (m_results, .inl (cI, 12, .inl (fun j => nI (Rs j)))), (m_past, .inl (cI, 584, .inl (kpL fu fw Kd X Y Rs (upd (mxI (fun k => fp (k + 73)) fp 511) (73 * 7) mt) (73 * 7) i)))] → va_S A s.heap H locs → W p l e (headSpec w_Mo_keep ({ frames := 0, cells := 0, slots := 0, locals := 0 })).room s m ([.ref g0]).toArray below meth c H locs 0 0 (MQ below (va_Qv (fun _ : Unit => True) (fun _ t => tB D A [(g0, .inr (6, [.int co, .int (nI n), .ref m_sea, .ref m_center, .ref m_home, .ref m_borders, .int mp, .int mt, .ref m_owner, .ref m_units, .ref m_kind, .ref m_toX, .ref m_toY, .ref m_results, .ref m_known, .ref m_reached, .ref m_way, .ref m_aside, .ref m_origin, .ref m_retreats, .ref m_contested, .ref m_moved, .int (nI (7 + 1)), .ref m_past])), (m_units, .inl (cI, 12, .inl fu)), (m_owner, .inl (cI, 12, .inl fw)), (m_kind, .inl (cI, 12, .inl (fun j => nI (Kd j)))), (m_toX, .inl (cI, 12, .inl (fun j => nI (X j)))), (m_toY, .inl (cI, 12, .inl (fun j => nI (Y j)))), (m_results, .inl (cI, 12, .inl (fun j => nI (Rs j)))), (m_past, .inl (cI, 584, .inl (kpL fu fw Kd X Y Rs (upd (mxI (fun k => fp (k + 73)) fp 511) (73 * 7) mt) (73 * 7) 12)))] t) A) ([.ref g0]).toArray s 0 0 A) (F0 m 69 ls []) := by
        intro k
        induction k with
        | zero =>
          intro i ls H locs hi hl hP hD hS
          have hie : i = 12 := by omega
          rw [hie] at hl hP hD
          refine lv_iload_n hx hb d_Mo_keep_69 rfl (lv_at hl 0 rfl) ?_
          refine lv_bipush (v := 12) hx hb d_Mo_keep_70 (by decide) ?_
          refine lv_icmp_ge (tgt := 182) hx hb d_Mo_keep_72 (by decide) (fun _ => ?_) (fun h0 => absurd (by decide) h0)
          refine lv_aload_n hx hb d_Mo_keep_182 rfl (lv_at hl 2 rfl) ?_
          refine lv_dup hx hb d_Mo_keep_183 rfl ?_
          refine va_get (D := D) (ci := 6) (v := .int (nI 7)) (C := R_Mo) (T := T_Mo) (N := 24) hx hb hts hin_Mo hown hK hP 0 rfl rfl 22 (by decide) (hts _ wd_726) (fun _ h9 => h9) rfl d_Mo_keep_184 ?_
          refine lv_iconst (v := 1) hx hb d_Mo_keep_187 (by decide) ?_
          refine lv_iadd hx hb d_Mo_keep_188 ?_
          refine tr_top (y := nI (7 + 1)) (nI_add 7 1) ?_
          refine va_put (D := D) (ci := 6) (v := .int (nI (7 + 1))) (ty := .int) (C := R_Mo) (T := T_Mo) (N := 24) hx hb hts hin_Mo ty_Mo tyok_Mo nm_Mo hown hK hP hD hS 0 rfl rfl 22 (by decide) (hts _ wd_726) (fun _ h9 => h9) rfl (by decide +kernel) rfl rfl (Nat.le_of_ble_eq_true rfl) d_Mo_keep_189 (fun H locs hP hD hS => ?_)
          have hP : va_P D vwCl [(g0, .inr (6, [.int co, .int (nI n), .ref m_sea, .ref m_center, .ref m_home, .ref m_borders, .int mp, .int mt, .ref m_owner, .ref m_units, .ref m_kind, .ref m_toX, .ref m_toY, .ref m_results, .ref m_known, .ref m_reached, .ref m_way, .ref m_aside, .ref m_origin, .ref m_retreats, .ref m_contested, .ref m_moved, .int (nI (7 + 1)), .ref m_past])), (m_units, .inl (cI, 12, .inl fu)), (m_owner, .inl (cI, 12, .inl fw)), (m_kind, .inl (cI, 12, .inl (fun j => nI (Kd j)))), (m_toX, .inl (cI, 12, .inl (fun j => nI (X j)))), (m_toY, .inl (cI, 12, .inl (fun j => nI (Y j)))), (m_results, .inl (cI, 12, .inl (fun j => nI (Rs j)))), (m_past, .inl (cI, 584, .inl (kpL fu fw Kd X Y Rs (upd (mxI (fun k => fp (k + 73)) fp 511) (73 * 7) mt) (73 * 7) 12)))] H := hP
          have hD : va_D A [(g0, .inr (6, [.int co, .int (nI n), .ref m_sea, .ref m_center, .ref m_home, .ref m_borders, .int mp, .int mt, .ref m_owner, .ref m_units, .ref m_kind, .ref m_toX, .ref m_toY, .ref m_results, .ref m_known, .ref m_reached, .ref m_way, .ref m_aside, .ref m_origin, .ref m_retreats, .ref m_contested, .ref m_moved, .int (nI (7 + 1)), .ref m_past])), (m_units, .inl (cI, 12, .inl fu)), (m_owner, .inl (cI, 12, .inl fw)), (m_kind, .inl (cI, 12, .inl (fun j => nI (Kd j)))), (m_toX, .inl (cI, 12, .inl (fun j => nI (X j)))), (m_toY, .inl (cI, 12, .inl (fun j => nI (Y j)))), (m_results, .inl (cI, 12, .inl (fun j => nI (Rs j)))), (m_past, .inl (cI, 584, .inl (kpL fu fw Kd X Y Rs (upd (mxI (fun k => fp (k + 73)) fp 511) (73 * 7) mt) (73 * 7) 12)))] := hD
          have hP9 := hP.sub (ws' := [(g0, .inr (6, [.int co, .int (nI n), .ref m_sea, .ref m_center, .ref m_home, .ref m_borders, .int mp, .int mt, .ref m_owner, .ref m_units, .ref m_kind, .ref m_toX, .ref m_toY, .ref m_results, .ref m_known, .ref m_reached, .ref m_way, .ref m_aside, .ref m_origin, .ref m_retreats, .ref m_contested, .ref m_moved, .int (nI (7 + 1)), .ref m_past])), (m_units, .inl (cI, 12, .inl fu)), (m_owner, .inl (cI, 12, .inl fw)), (m_kind, .inl (cI, 12, .inl (fun j => nI (Kd j)))), (m_toX, .inl (cI, 12, .inl (fun j => nI (X j)))), (m_toY, .inl (cI, 12, .inl (fun j => nI (Y j)))), (m_results, .inl (cI, 12, .inl (fun j => nI (Rs j)))), (m_past, .inl (cI, 584, .inl (kpL fu fw Kd X Y Rs (upd (mxI (fun k => fp (k + 73)) fp 511) (73 * 7) mt) (73 * 7) 12)))]) [0, 1, 2, 3, 4, 5, 6, 7] rfl
          have hD9 := hD.sub (ws' := [(g0, .inr (6, [.int co, .int (nI n), .ref m_sea, .ref m_center, .ref m_home, .ref m_borders, .int mp, .int mt, .ref m_owner, .ref m_units, .ref m_kind, .ref m_toX, .ref m_toY, .ref m_results, .ref m_known, .ref m_reached, .ref m_way, .ref m_aside, .ref m_origin, .ref m_retreats, .ref m_contested, .ref m_moved, .int (nI (7 + 1)), .ref m_past])), (m_units, .inl (cI, 12, .inl fu)), (m_owner, .inl (cI, 12, .inl fw)), (m_kind, .inl (cI, 12, .inl (fun j => nI (Kd j)))), (m_toX, .inl (cI, 12, .inl (fun j => nI (X j)))), (m_toY, .inl (cI, 12, .inl (fun j => nI (Y j)))), (m_results, .inl (cI, 12, .inl (fun j => nI (Rs j)))), (m_past, .inl (cI, 584, .inl (kpL fu fw Kd X Y Rs (upd (mxI (fun k => fp (k + 73)) fp 511) (73 * 7) mt) (73 * 7) 12)))]) [0, 1, 2, 3, 4, 5, 6, 7] (by decide) rfl
          exact W.vret hx hb hr (fun t ht hW => ⟨⟨(), rfl, trivial, by rw [ht]; exact hP9, hD9⟩, hS.F ht⟩) hS.2.2 d_Mo_keep_192
        | succ k ih =>
          intro i ls H locs hi hl hP hD hS
          have hlt : i < 12 := by omega
          have hlt12 : i < 12 := by omega
          refine lv_iload_n hx hb d_Mo_keep_69 rfl (lv_at hl 0 rfl) ?_
          refine lv_bipush (v := 12) hx hb d_Mo_keep_70 (by decide) ?_
          refine lv_icmp_ge (tgt := 182) hx hb d_Mo_keep_72 (by decide) (fun h0 => absurd h0 (nI_ge hlt (by decide))) (fun _ => ?_)
          refine lv_aload_n hx hb d_Mo_keep_75 rfl (lv_at hl 2 rfl) ?_
          refine va_get (D := D) (ci := 6) (v := .ref m_past) (C := R_Mo) (T := T_Mo) (N := 24) hx hb hts hin_Mo hown hK hP 0 rfl rfl 23 (by decide) (hts _ wd_727) (fun _ h9 => h9) rfl d_Mo_keep_76 ?_
          refine lv_iload_n hx hb d_Mo_keep_79 rfl (lv_at hl 1 rfl) ?_
          refine lv_iconst (v := 1) hx hb d_Mo_keep_80 (by decide) ?_
          refine lv_iadd hx hb d_Mo_keep_81 ?_
          refine tr_top (y := nI ((73 * 7) + 1)) (nI_add (73 * 7) 1) ?_
          refine lv_iload_n hx hb d_Mo_keep_82 rfl (lv_at hl 0 rfl) ?_
          refine lv_iadd hx hb d_Mo_keep_83 ?_
          refine tr_top (y := nI (((73 * 7) + 1) + i)) (nI_add ((73 * 7) + 1) i) ?_
          refine lv_aload_n hx hb d_Mo_keep_84 rfl (lv_at hl 2 rfl) ?_
          refine va_get (D := D) (ci := 6) (v := .ref m_units) (C := R_Mo) (T := T_Mo) (N := 24) hx hb hts hin_Mo hown hK hP 0 rfl rfl 9 (by decide) (hts _ wd_713) (fun _ h9 => h9) rfl d_Mo_keep_85 ?_
          refine lv_iload_n hx hb d_Mo_keep_88 rfl (lv_at hl 0 rfl) ?_
          refine tr_iald (v := fu i) hx hb hK hP 1 0 rfl rfl i hlt12 (by decide) rfl d_Mo_keep_89 ?_
          refine tr_iast (g := upd (kpL fu fw Kd X Y Rs (upd (mxI (fun k => fp (k + 73)) fp 511) (73 * 7) mt) (73 * 7) i) (((73 * 7) + 1) + i) (fu i)) hx hb hK hP hD hS 7 0 rfl rfl (((73 * 7) + 1) + i) (by omega) (by decide) rfl d_Mo_keep_90 (fun H locs hP hD hS => ?_)
          have hP : va_P D vwCl [(g0, .inr (6, [.int co, .int (nI n), .ref m_sea, .ref m_center, .ref m_home, .ref m_borders, .int mp, .int mt, .ref m_owner, .ref m_units, .ref m_kind, .ref m_toX, .ref m_toY, .ref m_results, .ref m_known, .ref m_reached, .ref m_way, .ref m_aside, .ref m_origin, .ref m_retreats, .ref m_contested, .ref m_moved, .int (nI 7), .ref m_past])), (m_units, .inl (cI, 12, .inl fu)), (m_owner, .inl (cI, 12, .inl fw)), (m_kind, .inl (cI, 12, .inl (fun j => nI (Kd j)))), (m_toX, .inl (cI, 12, .inl (fun j => nI (X j)))), (m_toY, .inl (cI, 12, .inl (fun j => nI (Y j)))), (m_results, .inl (cI, 12, .inl (fun j => nI (Rs j)))), (m_past, .inl (cI, 584, .inl (upd (kpL fu fw Kd X Y Rs (upd (mxI (fun k => fp (k + 73)) fp 511) (73 * 7) mt) (73 * 7) i) (((73 * 7) + 1) + i) (fu i))))] H := hP
          have hD : va_D A [(g0, .inr (6, [.int co, .int (nI n), .ref m_sea, .ref m_center, .ref m_home, .ref m_borders, .int mp, .int mt, .ref m_owner, .ref m_units, .ref m_kind, .ref m_toX, .ref m_toY, .ref m_results, .ref m_known, .ref m_reached, .ref m_way, .ref m_aside, .ref m_origin, .ref m_retreats, .ref m_contested, .ref m_moved, .int (nI 7), .ref m_past])), (m_units, .inl (cI, 12, .inl fu)), (m_owner, .inl (cI, 12, .inl fw)), (m_kind, .inl (cI, 12, .inl (fun j => nI (Kd j)))), (m_toX, .inl (cI, 12, .inl (fun j => nI (X j)))), (m_toY, .inl (cI, 12, .inl (fun j => nI (Y j)))), (m_results, .inl (cI, 12, .inl (fun j => nI (Rs j)))), (m_past, .inl (cI, 584, .inl (upd (kpL fu fw Kd X Y Rs (upd (mxI (fun k => fp (k + 73)) fp 511) (73 * 7) mt) (73 * 7) i) (((73 * 7) + 1) + i) (fu i))))] := hD
          refine lv_aload_n hx hb d_Mo_keep_91 rfl (lv_at hl 2 rfl) ?_
          refine va_get (D := D) (ci := 6) (v := .ref m_past) (C := R_Mo) (T := T_Mo) (N := 24) hx hb hts hin_Mo hown hK hP 0 rfl rfl 23 (by decide) (hts _ wd_727) (fun _ h9 => h9) rfl d_Mo_keep_92 ?_
          refine lv_iload_n hx hb d_Mo_keep_95 rfl (lv_at hl 1 rfl) ?_
          refine lv_bipush (v := 13) hx hb d_Mo_keep_96 (by decide) ?_
          refine lv_iadd hx hb d_Mo_keep_98 ?_
          refine tr_top (y := nI ((73 * 7) + 13)) (nI_add (73 * 7) 13) ?_
          refine lv_iload_n hx hb d_Mo_keep_99 rfl (lv_at hl 0 rfl) ?_
          refine lv_iadd hx hb d_Mo_keep_100 ?_
          refine tr_top (y := nI (((73 * 7) + 13) + i)) (nI_add ((73 * 7) + 13) i) ?_
          refine lv_aload_n hx hb d_Mo_keep_101 rfl (lv_at hl 2 rfl) ?_
          refine va_get (D := D) (ci := 6) (v := .ref m_owner) (C := R_Mo) (T := T_Mo) (N := 24) hx hb hts hin_Mo hown hK hP 0 rfl rfl 8 (by decide) (hts _ wd_712) (fun _ h9 => h9) rfl d_Mo_keep_102 ?_
          refine lv_iload_n hx hb d_Mo_keep_105 rfl (lv_at hl 0 rfl) ?_
          refine tr_iald (v := fw i) hx hb hK hP 2 0 rfl rfl i hlt12 (by decide) rfl d_Mo_keep_106 ?_
          refine tr_iast (g := upd (upd (kpL fu fw Kd X Y Rs (upd (mxI (fun k => fp (k + 73)) fp 511) (73 * 7) mt) (73 * 7) i) (((73 * 7) + 1) + i) (fu i)) (((73 * 7) + 13) + i) (fw i)) hx hb hK hP hD hS 7 0 rfl rfl (((73 * 7) + 13) + i) (by omega) (by decide) rfl d_Mo_keep_107 (fun H locs hP hD hS => ?_)
          have hP : va_P D vwCl [(g0, .inr (6, [.int co, .int (nI n), .ref m_sea, .ref m_center, .ref m_home, .ref m_borders, .int mp, .int mt, .ref m_owner, .ref m_units, .ref m_kind, .ref m_toX, .ref m_toY, .ref m_results, .ref m_known, .ref m_reached, .ref m_way, .ref m_aside, .ref m_origin, .ref m_retreats, .ref m_contested, .ref m_moved, .int (nI 7), .ref m_past])), (m_units, .inl (cI, 12, .inl fu)), (m_owner, .inl (cI, 12, .inl fw)), (m_kind, .inl (cI, 12, .inl (fun j => nI (Kd j)))), (m_toX, .inl (cI, 12, .inl (fun j => nI (X j)))), (m_toY, .inl (cI, 12, .inl (fun j => nI (Y j)))), (m_results, .inl (cI, 12, .inl (fun j => nI (Rs j)))), (m_past, .inl (cI, 584, .inl (upd (upd (kpL fu fw Kd X Y Rs (upd (mxI (fun k => fp (k + 73)) fp 511) (73 * 7) mt) (73 * 7) i) (((73 * 7) + 1) + i) (fu i)) (((73 * 7) + 13) + i) (fw i))))] H := hP
          have hD : va_D A [(g0, .inr (6, [.int co, .int (nI n), .ref m_sea, .ref m_center, .ref m_home, .ref m_borders, .int mp, .int mt, .ref m_owner, .ref m_units, .ref m_kind, .ref m_toX, .ref m_toY, .ref m_results, .ref m_known, .ref m_reached, .ref m_way, .ref m_aside, .ref m_origin, .ref m_retreats, .ref m_contested, .ref m_moved, .int (nI 7), .ref m_past])), (m_units, .inl (cI, 12, .inl fu)), (m_owner, .inl (cI, 12, .inl fw)), (m_kind, .inl (cI, 12, .inl (fun j => nI (Kd j)))), (m_toX, .inl (cI, 12, .inl (fun j => nI (X j)))), (m_toY, .inl (cI, 12, .inl (fun j => nI (Y j)))), (m_results, .inl (cI, 12, .inl (fun j => nI (Rs j)))), (m_past, .inl (cI, 584, .inl (upd (upd (kpL fu fw Kd X Y Rs (upd (mxI (fun k => fp (k + 73)) fp 511) (73 * 7) mt) (73 * 7) i) (((73 * 7) + 1) + i) (fu i)) (((73 * 7) + 13) + i) (fw i))))] := hD
          refine lv_aload_n hx hb d_Mo_keep_108 rfl (lv_at hl 2 rfl) ?_
          refine va_get (D := D) (ci := 6) (v := .ref m_past) (C := R_Mo) (T := T_Mo) (N := 24) hx hb hts hin_Mo hown hK hP 0 rfl rfl 23 (by decide) (hts _ wd_727) (fun _ h9 => h9) rfl d_Mo_keep_109 ?_
          refine lv_iload_n hx hb d_Mo_keep_112 rfl (lv_at hl 1 rfl) ?_
          refine lv_bipush (v := 25) hx hb d_Mo_keep_113 (by decide) ?_
          refine lv_iadd hx hb d_Mo_keep_115 ?_
          refine tr_top (y := nI ((73 * 7) + 25)) (nI_add (73 * 7) 25) ?_
          refine lv_iload_n hx hb d_Mo_keep_116 rfl (lv_at hl 0 rfl) ?_
          refine lv_iadd hx hb d_Mo_keep_117 ?_
          refine tr_top (y := nI (((73 * 7) + 25) + i)) (nI_add ((73 * 7) + 25) i) ?_
          refine lv_aload_n hx hb d_Mo_keep_118 rfl (lv_at hl 2 rfl) ?_
          refine va_get (D := D) (ci := 6) (v := .ref m_kind) (C := R_Mo) (T := T_Mo) (N := 24) hx hb hts hin_Mo hown hK hP 0 rfl rfl 10 (by decide) (hts _ wd_714) (fun _ h9 => h9) rfl d_Mo_keep_119 ?_
          refine lv_iload_n hx hb d_Mo_keep_122 rfl (lv_at hl 0 rfl) ?_
          refine tr_iald (v := nI (Kd i)) hx hb hK hP 3 0 rfl rfl i hlt12 (by decide) rfl d_Mo_keep_123 ?_
          refine tr_iast (g := upd (upd (upd (kpL fu fw Kd X Y Rs (upd (mxI (fun k => fp (k + 73)) fp 511) (73 * 7) mt) (73 * 7) i) (((73 * 7) + 1) + i) (fu i)) (((73 * 7) + 13) + i) (fw i)) (((73 * 7) + 25) + i) (nI (Kd i))) hx hb hK hP hD hS 7 0 rfl rfl (((73 * 7) + 25) + i) (by omega) (by decide) rfl d_Mo_keep_124 (fun H locs hP hD hS => ?_)
          have hP : va_P D vwCl [(g0, .inr (6, [.int co, .int (nI n), .ref m_sea, .ref m_center, .ref m_home, .ref m_borders, .int mp, .int mt, .ref m_owner, .ref m_units, .ref m_kind, .ref m_toX, .ref m_toY, .ref m_results, .ref m_known, .ref m_reached, .ref m_way, .ref m_aside, .ref m_origin, .ref m_retreats, .ref m_contested, .ref m_moved, .int (nI 7), .ref m_past])), (m_units, .inl (cI, 12, .inl fu)), (m_owner, .inl (cI, 12, .inl fw)), (m_kind, .inl (cI, 12, .inl (fun j => nI (Kd j)))), (m_toX, .inl (cI, 12, .inl (fun j => nI (X j)))), (m_toY, .inl (cI, 12, .inl (fun j => nI (Y j)))), (m_results, .inl (cI, 12, .inl (fun j => nI (Rs j)))), (m_past, .inl (cI, 584, .inl (upd (upd (upd (kpL fu fw Kd X Y Rs (upd (mxI (fun k => fp (k + 73)) fp 511) (73 * 7) mt) (73 * 7) i) (((73 * 7) + 1) + i) (fu i)) (((73 * 7) + 13) + i) (fw i)) (((73 * 7) + 25) + i) (nI (Kd i)))))] H := hP
          have hD : va_D A [(g0, .inr (6, [.int co, .int (nI n), .ref m_sea, .ref m_center, .ref m_home, .ref m_borders, .int mp, .int mt, .ref m_owner, .ref m_units, .ref m_kind, .ref m_toX, .ref m_toY, .ref m_results, .ref m_known, .ref m_reached, .ref m_way, .ref m_aside, .ref m_origin, .ref m_retreats, .ref m_contested, .ref m_moved, .int (nI 7), .ref m_past])), (m_units, .inl (cI, 12, .inl fu)), (m_owner, .inl (cI, 12, .inl fw)), (m_kind, .inl (cI, 12, .inl (fun j => nI (Kd j)))), (m_toX, .inl (cI, 12, .inl (fun j => nI (X j)))), (m_toY, .inl (cI, 12, .inl (fun j => nI (Y j)))), (m_results, .inl (cI, 12, .inl (fun j => nI (Rs j)))), (m_past, .inl (cI, 584, .inl (upd (upd (upd (kpL fu fw Kd X Y Rs (upd (mxI (fun k => fp (k + 73)) fp 511) (73 * 7) mt) (73 * 7) i) (((73 * 7) + 1) + i) (fu i)) (((73 * 7) + 13) + i) (fw i)) (((73 * 7) + 25) + i) (nI (Kd i)))))] := hD
          refine lv_aload_n hx hb d_Mo_keep_125 rfl (lv_at hl 2 rfl) ?_
          refine va_get (D := D) (ci := 6) (v := .ref m_past) (C := R_Mo) (T := T_Mo) (N := 24) hx hb hts hin_Mo hown hK hP 0 rfl rfl 23 (by decide) (hts _ wd_727) (fun _ h9 => h9) rfl d_Mo_keep_126 ?_
          refine lv_iload_n hx hb d_Mo_keep_129 rfl (lv_at hl 1 rfl) ?_
          refine lv_bipush (v := 37) hx hb d_Mo_keep_130 (by decide) ?_
          refine lv_iadd hx hb d_Mo_keep_132 ?_
          refine tr_top (y := nI ((73 * 7) + 37)) (nI_add (73 * 7) 37) ?_
          refine lv_iload_n hx hb d_Mo_keep_133 rfl (lv_at hl 0 rfl) ?_
          refine lv_iadd hx hb d_Mo_keep_134 ?_
          refine tr_top (y := nI (((73 * 7) + 37) + i)) (nI_add ((73 * 7) + 37) i) ?_
          refine lv_aload_n hx hb d_Mo_keep_135 rfl (lv_at hl 2 rfl) ?_
          refine va_get (D := D) (ci := 6) (v := .ref m_toX) (C := R_Mo) (T := T_Mo) (N := 24) hx hb hts hin_Mo hown hK hP 0 rfl rfl 11 (by decide) (hts _ wd_715) (fun _ h9 => h9) rfl d_Mo_keep_136 ?_
          refine lv_iload_n hx hb d_Mo_keep_139 rfl (lv_at hl 0 rfl) ?_
          refine tr_iald (v := nI (X i)) hx hb hK hP 4 0 rfl rfl i hlt12 (by decide) rfl d_Mo_keep_140 ?_
          refine tr_iast (g := upd (upd (upd (upd (kpL fu fw Kd X Y Rs (upd (mxI (fun k => fp (k + 73)) fp 511) (73 * 7) mt) (73 * 7) i) (((73 * 7) + 1) + i) (fu i)) (((73 * 7) + 13) + i) (fw i)) (((73 * 7) + 25) + i) (nI (Kd i))) (((73 * 7) + 37) + i) (nI (X i))) hx hb hK hP hD hS 7 0 rfl rfl (((73 * 7) + 37) + i) (by omega) (by decide) rfl d_Mo_keep_141 (fun H locs hP hD hS => ?_)
          have hP : va_P D vwCl [(g0, .inr (6, [.int co, .int (nI n), .ref m_sea, .ref m_center, .ref m_home, .ref m_borders, .int mp, .int mt, .ref m_owner, .ref m_units, .ref m_kind, .ref m_toX, .ref m_toY, .ref m_results, .ref m_known, .ref m_reached, .ref m_way, .ref m_aside, .ref m_origin, .ref m_retreats, .ref m_contested, .ref m_moved, .int (nI 7), .ref m_past])), (m_units, .inl (cI, 12, .inl fu)), (m_owner, .inl (cI, 12, .inl fw)), (m_kind, .inl (cI, 12, .inl (fun j => nI (Kd j)))), (m_toX, .inl (cI, 12, .inl (fun j => nI (X j)))), (m_toY, .inl (cI, 12, .inl (fun j => nI (Y j)))), (m_results, .inl (cI, 12, .inl (fun j => nI (Rs j)))), (m_past, .inl (cI, 584, .inl (upd (upd (upd (upd (kpL fu fw Kd X Y Rs (upd (mxI (fun k => fp (k + 73)) fp 511) (73 * 7) mt) (73 * 7) i) (((73 * 7) + 1) + i) (fu i)) (((73 * 7) + 13) + i) (fw i)) (((73 * 7) + 25) + i) (nI (Kd i))) (((73 * 7) + 37) + i) (nI (X i)))))] H := hP
          have hD : va_D A [(g0, .inr (6, [.int co, .int (nI n), .ref m_sea, .ref m_center, .ref m_home, .ref m_borders, .int mp, .int mt, .ref m_owner, .ref m_units, .ref m_kind, .ref m_toX, .ref m_toY, .ref m_results, .ref m_known, .ref m_reached, .ref m_way, .ref m_aside, .ref m_origin, .ref m_retreats, .ref m_contested, .ref m_moved, .int (nI 7), .ref m_past])), (m_units, .inl (cI, 12, .inl fu)), (m_owner, .inl (cI, 12, .inl fw)), (m_kind, .inl (cI, 12, .inl (fun j => nI (Kd j)))), (m_toX, .inl (cI, 12, .inl (fun j => nI (X j)))), (m_toY, .inl (cI, 12, .inl (fun j => nI (Y j)))), (m_results, .inl (cI, 12, .inl (fun j => nI (Rs j)))), (m_past, .inl (cI, 584, .inl (upd (upd (upd (upd (kpL fu fw Kd X Y Rs (upd (mxI (fun k => fp (k + 73)) fp 511) (73 * 7) mt) (73 * 7) i) (((73 * 7) + 1) + i) (fu i)) (((73 * 7) + 13) + i) (fw i)) (((73 * 7) + 25) + i) (nI (Kd i))) (((73 * 7) + 37) + i) (nI (X i)))))] := hD
          refine lv_aload_n hx hb d_Mo_keep_142 rfl (lv_at hl 2 rfl) ?_
          refine va_get (D := D) (ci := 6) (v := .ref m_past) (C := R_Mo) (T := T_Mo) (N := 24) hx hb hts hin_Mo hown hK hP 0 rfl rfl 23 (by decide) (hts _ wd_727) (fun _ h9 => h9) rfl d_Mo_keep_143 ?_
          refine lv_iload_n hx hb d_Mo_keep_146 rfl (lv_at hl 1 rfl) ?_
          refine lv_bipush (v := 49) hx hb d_Mo_keep_147 (by decide) ?_
          refine lv_iadd hx hb d_Mo_keep_149 ?_
          refine tr_top (y := nI ((73 * 7) + 49)) (nI_add (73 * 7) 49) ?_
          refine lv_iload_n hx hb d_Mo_keep_150 rfl (lv_at hl 0 rfl) ?_
          refine lv_iadd hx hb d_Mo_keep_151 ?_
          refine tr_top (y := nI (((73 * 7) + 49) + i)) (nI_add ((73 * 7) + 49) i) ?_
          refine lv_aload_n hx hb d_Mo_keep_152 rfl (lv_at hl 2 rfl) ?_
          refine va_get (D := D) (ci := 6) (v := .ref m_toY) (C := R_Mo) (T := T_Mo) (N := 24) hx hb hts hin_Mo hown hK hP 0 rfl rfl 12 (by decide) (hts _ wd_716) (fun _ h9 => h9) rfl d_Mo_keep_153 ?_
          refine lv_iload_n hx hb d_Mo_keep_156 rfl (lv_at hl 0 rfl) ?_
          refine tr_iald (v := nI (Y i)) hx hb hK hP 5 0 rfl rfl i hlt12 (by decide) rfl d_Mo_keep_157 ?_
          refine tr_iast (g := upd (upd (upd (upd (upd (kpL fu fw Kd X Y Rs (upd (mxI (fun k => fp (k + 73)) fp 511) (73 * 7) mt) (73 * 7) i) (((73 * 7) + 1) + i) (fu i)) (((73 * 7) + 13) + i) (fw i)) (((73 * 7) + 25) + i) (nI (Kd i))) (((73 * 7) + 37) + i) (nI (X i))) (((73 * 7) + 49) + i) (nI (Y i))) hx hb hK hP hD hS 7 0 rfl rfl (((73 * 7) + 49) + i) (by omega) (by decide) rfl d_Mo_keep_158 (fun H locs hP hD hS => ?_)
          have hP : va_P D vwCl [(g0, .inr (6, [.int co, .int (nI n), .ref m_sea, .ref m_center, .ref m_home, .ref m_borders, .int mp, .int mt, .ref m_owner, .ref m_units, .ref m_kind, .ref m_toX, .ref m_toY, .ref m_results, .ref m_known, .ref m_reached, .ref m_way, .ref m_aside, .ref m_origin, .ref m_retreats, .ref m_contested, .ref m_moved, .int (nI 7), .ref m_past])), (m_units, .inl (cI, 12, .inl fu)), (m_owner, .inl (cI, 12, .inl fw)), (m_kind, .inl (cI, 12, .inl (fun j => nI (Kd j)))), (m_toX, .inl (cI, 12, .inl (fun j => nI (X j)))), (m_toY, .inl (cI, 12, .inl (fun j => nI (Y j)))), (m_results, .inl (cI, 12, .inl (fun j => nI (Rs j)))), (m_past, .inl (cI, 584, .inl (upd (upd (upd (upd (upd (kpL fu fw Kd X Y Rs (upd (mxI (fun k => fp (k + 73)) fp 511) (73 * 7) mt) (73 * 7) i) (((73 * 7) + 1) + i) (fu i)) (((73 * 7) + 13) + i) (fw i)) (((73 * 7) + 25) + i) (nI (Kd i))) (((73 * 7) + 37) + i) (nI (X i))) (((73 * 7) + 49) + i) (nI (Y i)))))] H := hP
          have hD : va_D A [(g0, .inr (6, [.int co, .int (nI n), .ref m_sea, .ref m_center, .ref m_home, .ref m_borders, .int mp, .int mt, .ref m_owner, .ref m_units, .ref m_kind, .ref m_toX, .ref m_toY, .ref m_results, .ref m_known, .ref m_reached, .ref m_way, .ref m_aside, .ref m_origin, .ref m_retreats, .ref m_contested, .ref m_moved, .int (nI 7), .ref m_past])), (m_units, .inl (cI, 12, .inl fu)), (m_owner, .inl (cI, 12, .inl fw)), (m_kind, .inl (cI, 12, .inl (fun j => nI (Kd j)))), (m_toX, .inl (cI, 12, .inl (fun j => nI (X j)))), (m_toY, .inl (cI, 12, .inl (fun j => nI (Y j)))), (m_results, .inl (cI, 12, .inl (fun j => nI (Rs j)))), (m_past, .inl (cI, 584, .inl (upd (upd (upd (upd (upd (kpL fu fw Kd X Y Rs (upd (mxI (fun k => fp (k + 73)) fp 511) (73 * 7) mt) (73 * 7) i) (((73 * 7) + 1) + i) (fu i)) (((73 * 7) + 13) + i) (fw i)) (((73 * 7) + 25) + i) (nI (Kd i))) (((73 * 7) + 37) + i) (nI (X i))) (((73 * 7) + 49) + i) (nI (Y i)))))] := hD
          refine lv_aload_n hx hb d_Mo_keep_159 rfl (lv_at hl 2 rfl) ?_
          refine va_get (D := D) (ci := 6) (v := .ref m_past) (C := R_Mo) (T := T_Mo) (N := 24) hx hb hts hin_Mo hown hK hP 0 rfl rfl 23 (by decide) (hts _ wd_727) (fun _ h9 => h9) rfl d_Mo_keep_160 ?_
          refine lv_iload_n hx hb d_Mo_keep_163 rfl (lv_at hl 1 rfl) ?_
          refine lv_bipush (v := 61) hx hb d_Mo_keep_164 (by decide) ?_
          refine lv_iadd hx hb d_Mo_keep_166 ?_
          refine tr_top (y := nI ((73 * 7) + 61)) (nI_add (73 * 7) 61) ?_
          refine lv_iload_n hx hb d_Mo_keep_167 rfl (lv_at hl 0 rfl) ?_
          refine lv_iadd hx hb d_Mo_keep_168 ?_
          refine tr_top (y := nI (((73 * 7) + 61) + i)) (nI_add ((73 * 7) + 61) i) ?_
          refine lv_aload_n hx hb d_Mo_keep_169 rfl (lv_at hl 2 rfl) ?_
          refine va_get (D := D) (ci := 6) (v := .ref m_results) (C := R_Mo) (T := T_Mo) (N := 24) hx hb hts hin_Mo hown hK hP 0 rfl rfl 13 (by decide) (hts _ wd_717) (fun _ h9 => h9) rfl d_Mo_keep_170 ?_
          refine lv_iload_n hx hb d_Mo_keep_173 rfl (lv_at hl 0 rfl) ?_
          refine tr_iald (v := nI (Rs i)) hx hb hK hP 6 0 rfl rfl i hlt12 (by decide) rfl d_Mo_keep_174 ?_
          refine tr_iast (g := upd (upd (upd (upd (upd (upd (kpL fu fw Kd X Y Rs (upd (mxI (fun k => fp (k + 73)) fp 511) (73 * 7) mt) (73 * 7) i) (((73 * 7) + 1) + i) (fu i)) (((73 * 7) + 13) + i) (fw i)) (((73 * 7) + 25) + i) (nI (Kd i))) (((73 * 7) + 37) + i) (nI (X i))) (((73 * 7) + 49) + i) (nI (Y i))) (((73 * 7) + 61) + i) (nI (Rs i))) hx hb hK hP hD hS 7 0 rfl rfl (((73 * 7) + 61) + i) (by omega) (by decide) rfl d_Mo_keep_175 (fun H locs hP hD hS => ?_)
          have hP : va_P D vwCl [(g0, .inr (6, [.int co, .int (nI n), .ref m_sea, .ref m_center, .ref m_home, .ref m_borders, .int mp, .int mt, .ref m_owner, .ref m_units, .ref m_kind, .ref m_toX, .ref m_toY, .ref m_results, .ref m_known, .ref m_reached, .ref m_way, .ref m_aside, .ref m_origin, .ref m_retreats, .ref m_contested, .ref m_moved, .int (nI 7), .ref m_past])), (m_units, .inl (cI, 12, .inl fu)), (m_owner, .inl (cI, 12, .inl fw)), (m_kind, .inl (cI, 12, .inl (fun j => nI (Kd j)))), (m_toX, .inl (cI, 12, .inl (fun j => nI (X j)))), (m_toY, .inl (cI, 12, .inl (fun j => nI (Y j)))), (m_results, .inl (cI, 12, .inl (fun j => nI (Rs j)))), (m_past, .inl (cI, 584, .inl (upd (upd (upd (upd (upd (upd (kpL fu fw Kd X Y Rs (upd (mxI (fun k => fp (k + 73)) fp 511) (73 * 7) mt) (73 * 7) i) (((73 * 7) + 1) + i) (fu i)) (((73 * 7) + 13) + i) (fw i)) (((73 * 7) + 25) + i) (nI (Kd i))) (((73 * 7) + 37) + i) (nI (X i))) (((73 * 7) + 49) + i) (nI (Y i))) (((73 * 7) + 61) + i) (nI (Rs i)))))] H := hP
          have hD : va_D A [(g0, .inr (6, [.int co, .int (nI n), .ref m_sea, .ref m_center, .ref m_home, .ref m_borders, .int mp, .int mt, .ref m_owner, .ref m_units, .ref m_kind, .ref m_toX, .ref m_toY, .ref m_results, .ref m_known, .ref m_reached, .ref m_way, .ref m_aside, .ref m_origin, .ref m_retreats, .ref m_contested, .ref m_moved, .int (nI 7), .ref m_past])), (m_units, .inl (cI, 12, .inl fu)), (m_owner, .inl (cI, 12, .inl fw)), (m_kind, .inl (cI, 12, .inl (fun j => nI (Kd j)))), (m_toX, .inl (cI, 12, .inl (fun j => nI (X j)))), (m_toY, .inl (cI, 12, .inl (fun j => nI (Y j)))), (m_results, .inl (cI, 12, .inl (fun j => nI (Rs j)))), (m_past, .inl (cI, 584, .inl (upd (upd (upd (upd (upd (upd (kpL fu fw Kd X Y Rs (upd (mxI (fun k => fp (k + 73)) fp 511) (73 * 7) mt) (73 * 7) i) (((73 * 7) + 1) + i) (fu i)) (((73 * 7) + 13) + i) (fw i)) (((73 * 7) + 25) + i) (nI (Kd i))) (((73 * 7) + 37) + i) (nI (X i))) (((73 * 7) + 49) + i) (nI (Y i))) (((73 * 7) + 61) + i) (nI (Rs i)))))] := hD
          refine lv_iinc (lv' := [(2, .int ((nI i) + 1)), (1, .int (nI (73 * 7))), (0, .ref g0)]) hx hb d_Mo_keep_176 hl (k := 0) rfl rfl (by decide) rfl (fun ls hl => ?_)
          refine lv_goto (tgt := 69) hx hb d_Mo_keep_179 (by decide) ?_
          have e5 : (nI i) + 1 = nI (i + 1) := nI_1 i
          have eo6 : (upd (upd (upd (upd (upd (upd (kpL fu fw Kd X Y Rs (upd (mxI (fun k => fp (k + 73)) fp 511) (73 * 7) mt) (73 * 7) i) (((73 * 7) + 1) + i) (fu i)) (((73 * 7) + 13) + i) (fw i)) (((73 * 7) + 25) + i) (nI (Kd i))) (((73 * 7) + 37) + i) (nI (X i))) (((73 * 7) + 49) + i) (nI (Y i))) (((73 * 7) + 61) + i) (nI (Rs i))) = (kpL fu fw Kd X Y Rs (upd (mxI (fun k => fp (k + 73)) fp 511) (73 * 7) mt) (73 * 7) (i + 1)) := rfl
          exact ih (i + 1) ls H locs (by omega) (by rw [← e5]; exact lv_sub hl [0, 1, 2] rfl) (by rw [← eo6]; exact hP) (by rw [← eo6]; exact hD) hS
      exact loop4 12 0 ls _ _ (Nat.zero_add _) hl (hP) (hD) hS
    | succ k ih =>
      intro i ls H locs hi hl hP hD hS
      have hlt : i < 511 := by omega
      refine lv_iload_n hx hb d_Mo_keep_11 rfl (lv_at hl 0 rfl) ?_
      refine lv_sipush (v := 511) hx hb d_Mo_keep_12 (by decide) ?_
      refine lv_icmp_ge (tgt := 39) hx hb d_Mo_keep_15 (by decide) (fun h0 => absurd h0 (nI_ge hlt (by decide))) (fun _ => ?_)
      refine lv_aload_n hx hb d_Mo_keep_18 rfl (lv_at hl 1 rfl) ?_
      refine va_get (D := D) (ci := 6) (v := .ref m_past) (C := R_Mo) (T := T_Mo) (N := 24) hx hb hts hin_Mo hown hK hP 0 rfl rfl 23 (by decide) (hts _ wd_727) (fun _ h9 => h9) rfl d_Mo_keep_19 ?_
      refine lv_iload_n hx hb d_Mo_keep_22 rfl (lv_at hl 0 rfl) ?_
      refine lv_aload_n hx hb d_Mo_keep_23 rfl (lv_at hl 1 rfl) ?_
      refine va_get (D := D) (ci := 6) (v := .ref m_past) (C := R_Mo) (T := T_Mo) (N := 24) hx hb hts hin_Mo hown hK hP 0 rfl rfl 23 (by decide) (hts _ wd_727) (fun _ h9 => h9) rfl d_Mo_keep_24 ?_
      refine lv_iload_n hx hb d_Mo_keep_27 rfl (lv_at hl 0 rfl) ?_
      refine lv_bipush (v := 73) hx hb d_Mo_keep_28 (by decide) ?_
      refine lv_iadd hx hb d_Mo_keep_30 ?_
      refine tr_top (y := nI (i + 73)) (nI_add i 73) ?_
      refine tr_iald (v := (mxI (fun k => fp (k + 73)) fp i) (i + 73)) hx hb hK hP 7 0 rfl rfl (i + 73) (by omega) (by decide) rfl d_Mo_keep_31 ?_
      refine tr_iast (g := upd (mxI (fun k => fp (k + 73)) fp i) i ((mxI (fun k => fp (k + 73)) fp i) (i + 73))) hx hb hK hP hD hS 7 0 rfl rfl i (by omega) (by decide) rfl d_Mo_keep_32 (fun H locs hP hD hS => ?_)
      have hP : va_P D vwCl [(g0, .inr (6, [.int co, .int (nI n), .ref m_sea, .ref m_center, .ref m_home, .ref m_borders, .int mp, .int mt, .ref m_owner, .ref m_units, .ref m_kind, .ref m_toX, .ref m_toY, .ref m_results, .ref m_known, .ref m_reached, .ref m_way, .ref m_aside, .ref m_origin, .ref m_retreats, .ref m_contested, .ref m_moved, .int (nI 8), .ref m_past])), (m_units, .inl (cI, 12, .inl fu)), (m_owner, .inl (cI, 12, .inl fw)), (m_kind, .inl (cI, 12, .inl (fun j => nI (Kd j)))), (m_toX, .inl (cI, 12, .inl (fun j => nI (X j)))), (m_toY, .inl (cI, 12, .inl (fun j => nI (Y j)))), (m_results, .inl (cI, 12, .inl (fun j => nI (Rs j)))), (m_past, .inl (cI, 584, .inl (upd (mxI (fun k => fp (k + 73)) fp i) i ((mxI (fun k => fp (k + 73)) fp i) (i + 73)))))] H := hP
      have hD : va_D A [(g0, .inr (6, [.int co, .int (nI n), .ref m_sea, .ref m_center, .ref m_home, .ref m_borders, .int mp, .int mt, .ref m_owner, .ref m_units, .ref m_kind, .ref m_toX, .ref m_toY, .ref m_results, .ref m_known, .ref m_reached, .ref m_way, .ref m_aside, .ref m_origin, .ref m_retreats, .ref m_contested, .ref m_moved, .int (nI 8), .ref m_past])), (m_units, .inl (cI, 12, .inl fu)), (m_owner, .inl (cI, 12, .inl fw)), (m_kind, .inl (cI, 12, .inl (fun j => nI (Kd j)))), (m_toX, .inl (cI, 12, .inl (fun j => nI (X j)))), (m_toY, .inl (cI, 12, .inl (fun j => nI (Y j)))), (m_results, .inl (cI, 12, .inl (fun j => nI (Rs j)))), (m_past, .inl (cI, 584, .inl (upd (mxI (fun k => fp (k + 73)) fp i) i ((mxI (fun k => fp (k + 73)) fp i) (i + 73)))))] := hD
      refine lv_iinc (lv' := [(1, .int ((nI i) + 1)), (0, .ref g0)]) hx hb d_Mo_keep_33 hl (k := 0) rfl rfl (by decide) rfl (fun ls hl => ?_)
      refine lv_goto (tgt := 11) hx hb d_Mo_keep_36 (by decide) ?_
      have e8 : (nI i) + 1 = nI (i + 1) := nI_1 i
      have eo9 : (upd (mxI (fun k => fp (k + 73)) fp i) i ((mxI (fun k => fp (k + 73)) fp i) (i + 73))) = (mxI (fun k => fp (k + 73)) fp (i + 1)) := mxI_s (show (if i + 73 < i then fp (i + 73 + 73) else fp (i + 73)) = fp (i + 73) from if_neg (by omega))
      exact ih (i + 1) ls H locs (by omega) (by rw [← e8]; exact lv_sub hl [0, 1] rfl) (by rw [← eo9]; exact hP) (by rw [← eo9]; exact hD) hS
  have ei10 : (mxI (fun k => fp (k + 73)) fp 0) = (fp) := mxI_0 _ _
  exact loop 511 0 ls _ _ (Nat.zero_add _) hl (by rw [ei10]; exact hP) (by rw [ei10]; exact hD) hS
