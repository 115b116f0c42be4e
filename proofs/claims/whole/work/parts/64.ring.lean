theorem d_Mo_ring_0 : decode b_Mo_ring 0 = .ok (.iconst 0, 1) := by decide +kernel
theorem d_Mo_ring_1 : decode b_Mo_ring 1 = .ok (.istore_n 2, 1) := by decide +kernel
theorem d_Mo_ring_2 : decode b_Mo_ring 2 = .ok (.iload_n 2, 1) := by decide +kernel
theorem d_Mo_ring_3 : decode b_Mo_ring 3 = .ok (.aload_n 0, 1) := by decide +kernel
theorem d_Mo_ring_4 : decode b_Mo_ring 4 = .ok (.getfield 72, 3) := by decide +kernel
theorem d_Mo_ring_7 : decode b_Mo_ring 7 = .ok (.if_icmp .ge 16, 3) := by decide +kernel
theorem d_Mo_ring_10 : decode b_Mo_ring 10 = .ok (.aload_n 0, 1) := by decide +kernel
theorem d_Mo_ring_11 : decode b_Mo_ring 11 = .ok (.getfield 44, 3) := by decide +kernel
theorem d_Mo_ring_14 : decode b_Mo_ring 14 = .ok (.iload_n 2, 1) := by decide +kernel
theorem d_Mo_ring_15 : decode b_Mo_ring 15 = .ok (.iconst 0, 1) := by decide +kernel
theorem d_Mo_ring_16 : decode b_Mo_ring 16 = .ok (.bastore, 1) := by decide +kernel
theorem d_Mo_ring_17 : decode b_Mo_ring 17 = .ok (.iinc 2 1, 3) := by decide +kernel
theorem d_Mo_ring_20 : decode b_Mo_ring 20 = .ok (.goto (-18), 3) := by decide +kernel
theorem d_Mo_ring_23 : decode b_Mo_ring 23 = .ok (.iload_n 1, 1) := by decide +kernel
theorem d_Mo_ring_24 : decode b_Mo_ring 24 = .ok (.istore_n 2, 1) := by decide +kernel
theorem d_Mo_ring_25 : decode b_Mo_ring 25 = .ok (.aload_n 0, 1) := by decide +kernel
theorem d_Mo_ring_26 : decode b_Mo_ring 26 = .ok (.iload_n 2, 1) := by decide +kernel
theorem d_Mo_ring_27 : decode b_Mo_ring 27 = .ok (.invokevirtual 109, 3) := by decide +kernel
theorem d_Mo_ring_30 : decode b_Mo_ring 30 = .ok (.ifCond .eq 38, 3) := by decide +kernel
theorem d_Mo_ring_33 : decode b_Mo_ring 33 = .ok (.aload_n 0, 1) := by decide +kernel
theorem d_Mo_ring_34 : decode b_Mo_ring 34 = .ok (.getfield 41, 3) := by decide +kernel
theorem d_Mo_ring_37 : decode b_Mo_ring 37 = .ok (.iload_n 2, 1) := by decide +kernel
theorem d_Mo_ring_38 : decode b_Mo_ring 38 = .ok (.iaload, 1) := by decide +kernel
theorem d_Mo_ring_39 : decode b_Mo_ring 39 = .ok (.ifCond .ne 29, 3) := by decide +kernel
theorem d_Mo_ring_42 : decode b_Mo_ring 42 = .ok (.aload_n 0, 1) := by decide +kernel
theorem d_Mo_ring_43 : decode b_Mo_ring 43 = .ok (.getfield 44, 3) := by decide +kernel
theorem d_Mo_ring_46 : decode b_Mo_ring 46 = .ok (.iload_n 2, 1) := by decide +kernel
theorem d_Mo_ring_47 : decode b_Mo_ring 47 = .ok (.baload, 1) := by decide +kernel
theorem d_Mo_ring_48 : decode b_Mo_ring 48 = .ok (.ifCond .ne 20, 3) := by decide +kernel
theorem d_Mo_ring_51 : decode b_Mo_ring 51 = .ok (.aload_n 0, 1) := by decide +kernel
theorem d_Mo_ring_52 : decode b_Mo_ring 52 = .ok (.getfield 44, 3) := by decide +kernel
theorem d_Mo_ring_55 : decode b_Mo_ring 55 = .ok (.iload_n 2, 1) := by decide +kernel
theorem d_Mo_ring_56 : decode b_Mo_ring 56 = .ok (.iconst 1, 1) := by decide +kernel
theorem d_Mo_ring_57 : decode b_Mo_ring 57 = .ok (.bastore, 1) := by decide +kernel
theorem d_Mo_ring_58 : decode b_Mo_ring 58 = .ok (.aload_n 0, 1) := by decide +kernel
theorem d_Mo_ring_59 : decode b_Mo_ring 59 = .ok (.getfield 32, 3) := by decide +kernel
theorem d_Mo_ring_62 : decode b_Mo_ring 62 = .ok (.iload_n 2, 1) := by decide +kernel
theorem d_Mo_ring_63 : decode b_Mo_ring 63 = .ok (.iaload, 1) := by decide +kernel
theorem d_Mo_ring_64 : decode b_Mo_ring 64 = .ok (.istore_n 2, 1) := by decide +kernel
theorem d_Mo_ring_65 : decode b_Mo_ring 65 = .ok (.goto (-40), 3) := by decide +kernel
theorem d_Mo_ring_68 : decode b_Mo_ring 68 = .ok (.aload_n 0, 1) := by decide +kernel
theorem d_Mo_ring_69 : decode b_Mo_ring 69 = .ok (.getfield 44, 3) := by decide +kernel
theorem d_Mo_ring_72 : decode b_Mo_ring 72 = .ok (.iload_n 2, 1) := by decide +kernel
theorem d_Mo_ring_73 : decode b_Mo_ring 73 = .ok (.baload, 1) := by decide +kernel
theorem d_Mo_ring_74 : decode b_Mo_ring 74 = .ok (.ifCond .ne 5, 3) := by decide +kernel
theorem d_Mo_ring_77 : decode b_Mo_ring 77 = .ok (.iconst 0, 1) := by decide +kernel
theorem d_Mo_ring_78 : decode b_Mo_ring 78 = .ok (.ireturn, 1) := by decide +kernel
theorem d_Mo_ring_79 : decode b_Mo_ring 79 = .ok (.iconst 0, 1) := by decide +kernel
theorem d_Mo_ring_80 : decode b_Mo_ring 80 = .ok (.istore_n 3, 1) := by decide +kernel
theorem d_Mo_ring_81 : decode b_Mo_ring 81 = .ok (.iload_n 3, 1) := by decide +kernel
theorem d_Mo_ring_82 : decode b_Mo_ring 82 = .ok (.aload_n 0, 1) := by decide +kernel
theorem d_Mo_ring_83 : decode b_Mo_ring 83 = .ok (.getfield 72, 3) := by decide +kernel
theorem d_Mo_ring_86 : decode b_Mo_ring 86 = .ok (.if_icmp .ge 16, 3) := by decide +kernel
theorem d_Mo_ring_89 : decode b_Mo_ring 89 = .ok (.aload_n 0, 1) := by decide +kernel
theorem d_Mo_ring_90 : decode b_Mo_ring 90 = .ok (.getfield 44, 3) := by decide +kernel
theorem d_Mo_ring_93 : decode b_Mo_ring 93 = .ok (.iload_n 3, 1) := by decide +kernel
theorem d_Mo_ring_94 : decode b_Mo_ring 94 = .ok (.iconst 0, 1) := by decide +kernel
theorem d_Mo_ring_95 : decode b_Mo_ring 95 = .ok (.bastore, 1) := by decide +kernel
theorem d_Mo_ring_96 : decode b_Mo_ring 96 = .ok (.iinc 3 1, 3) := by decide +kernel
theorem d_Mo_ring_99 : decode b_Mo_ring 99 = .ok (.goto (-18), 3) := by decide +kernel
theorem d_Mo_ring_102 : decode b_Mo_ring 102 = .ok (.iconst 0, 1) := by decide +kernel
theorem d_Mo_ring_103 : decode b_Mo_ring 103 = .ok (.istore_n 3, 1) := by decide +kernel
theorem d_Mo_ring_104 : decode b_Mo_ring 104 = .ok (.iload_n 2, 1) := by decide +kernel
theorem d_Mo_ring_105 : decode b_Mo_ring 105 = .ok (.istore 4, 2) := by decide +kernel
theorem d_Mo_ring_107 : decode b_Mo_ring 107 = .ok (.aload_n 0, 1) := by decide +kernel
theorem d_Mo_ring_108 : decode b_Mo_ring 108 = .ok (.getfield 44, 3) := by decide +kernel
theorem d_Mo_ring_111 : decode b_Mo_ring 111 = .ok (.iload 4, 2) := by decide +kernel
theorem d_Mo_ring_113 : decode b_Mo_ring 113 = .ok (.baload, 1) := by decide +kernel
theorem d_Mo_ring_114 : decode b_Mo_ring 114 = .ok (.ifCond .ne 34, 3) := by decide +kernel
theorem d_Mo_ring_117 : decode b_Mo_ring 117 = .ok (.aload_n 0, 1) := by decide +kernel
theorem d_Mo_ring_118 : decode b_Mo_ring 118 = .ok (.getfield 44, 3) := by decide +kernel
theorem d_Mo_ring_121 : decode b_Mo_ring 121 = .ok (.iload 4, 2) := by decide +kernel
theorem d_Mo_ring_123 : decode b_Mo_ring 123 = .ok (.iconst 1, 1) := by decide +kernel
theorem d_Mo_ring_124 : decode b_Mo_ring 124 = .ok (.bastore, 1) := by decide +kernel
theorem d_Mo_ring_125 : decode b_Mo_ring 125 = .ok (.aload_n 0, 1) := by decide +kernel
theorem d_Mo_ring_126 : decode b_Mo_ring 126 = .ok (.getfield 47, 3) := by decide +kernel
theorem d_Mo_ring_129 : decode b_Mo_ring 129 = .ok (.iload_n 3, 1) := by decide +kernel
theorem d_Mo_ring_130 : decode b_Mo_ring 130 = .ok (.iload 4, 2) := by decide +kernel
theorem d_Mo_ring_132 : decode b_Mo_ring 132 = .ok (.iastore, 1) := by decide +kernel
theorem d_Mo_ring_133 : decode b_Mo_ring 133 = .ok (.iinc 3 1, 3) := by decide +kernel
theorem d_Mo_ring_136 : decode b_Mo_ring 136 = .ok (.aload_n 0, 1) := by decide +kernel
theorem d_Mo_ring_137 : decode b_Mo_ring 137 = .ok (.getfield 32, 3) := by decide +kernel
theorem d_Mo_ring_140 : decode b_Mo_ring 140 = .ok (.iload 4, 2) := by decide +kernel
theorem d_Mo_ring_142 : decode b_Mo_ring 142 = .ok (.iaload, 1) := by decide +kernel
theorem d_Mo_ring_143 : decode b_Mo_ring 143 = .ok (.istore 4, 2) := by decide +kernel
theorem d_Mo_ring_145 : decode b_Mo_ring 145 = .ok (.goto (-38), 3) := by decide +kernel
theorem d_Mo_ring_148 : decode b_Mo_ring 148 = .ok (.aload_n 0, 1) := by decide +kernel
theorem d_Mo_ring_149 : decode b_Mo_ring 149 = .ok (.iload_n 2, 1) := by decide +kernel
theorem d_Mo_ring_150 : decode b_Mo_ring 150 = .ok (.invokevirtual 139, 3) := by decide +kernel
theorem d_Mo_ring_153 : decode b_Mo_ring 153 = .ok (.ifCond .ne 7, 3) := by decide +kernel
theorem d_Mo_ring_156 : decode b_Mo_ring 156 = .ok (.iconst 1, 1) := by decide +kernel
theorem d_Mo_ring_157 : decode b_Mo_ring 157 = .ok (.goto 4, 3) := by decide +kernel
theorem d_Mo_ring_160 : decode b_Mo_ring 160 = .ok (.iconst 0, 1) := by decide +kernel
theorem d_Mo_ring_161 : decode b_Mo_ring 161 = .ok (.istore 5, 2) := by decide +kernel
theorem d_Mo_ring_163 : decode b_Mo_ring 163 = .ok (.iconst 0, 1) := by decide +kernel
theorem d_Mo_ring_164 : decode b_Mo_ring 164 = .ok (.istore 6, 2) := by decide +kernel
theorem d_Mo_ring_166 : decode b_Mo_ring 166 = .ok (.iload 6, 2) := by decide +kernel
theorem d_Mo_ring_168 : decode b_Mo_ring 168 = .ok (.aload_n 0, 1) := by decide +kernel
theorem d_Mo_ring_169 : decode b_Mo_ring 169 = .ok (.getfield 72, 3) := by decide +kernel
theorem d_Mo_ring_172 : decode b_Mo_ring 172 = .ok (.if_icmp .ge 65, 3) := by decide +kernel
theorem d_Mo_ring_175 : decode b_Mo_ring 175 = .ok (.iload 5, 2) := by decide +kernel
theorem d_Mo_ring_177 : decode b_Mo_ring 177 = .ok (.ifCond .eq 51, 3) := by decide +kernel
theorem d_Mo_ring_180 : decode b_Mo_ring 180 = .ok (.aload_n 0, 1) := by decide +kernel
theorem d_Mo_ring_181 : decode b_Mo_ring 181 = .ok (.iload 6, 2) := by decide +kernel
theorem d_Mo_ring_183 : decode b_Mo_ring 183 = .ok (.invokevirtual 109, 3) := by decide +kernel
theorem d_Mo_ring_186 : decode b_Mo_ring 186 = .ok (.ifCond .eq 38, 3) := by decide +kernel
theorem d_Mo_ring_189 : decode b_Mo_ring 189 = .ok (.aload_n 0, 1) := by decide +kernel
theorem d_Mo_ring_190 : decode b_Mo_ring 190 = .ok (.getfield 41, 3) := by decide +kernel
theorem d_Mo_ring_193 : decode b_Mo_ring 193 = .ok (.iload 6, 2) := by decide +kernel
theorem d_Mo_ring_195 : decode b_Mo_ring 195 = .ok (.iaload, 1) := by decide +kernel
theorem d_Mo_ring_196 : decode b_Mo_ring 196 = .ok (.ifCond .ne 28, 3) := by decide +kernel
theorem d_Mo_ring_199 : decode b_Mo_ring 199 = .ok (.aload_n 0, 1) := by decide +kernel
theorem d_Mo_ring_200 : decode b_Mo_ring 200 = .ok (.getfield 44, 3) := by decide +kernel
theorem d_Mo_ring_203 : decode b_Mo_ring 203 = .ok (.iload 6, 2) := by decide +kernel
theorem d_Mo_ring_205 : decode b_Mo_ring 205 = .ok (.baload, 1) := by decide +kernel
theorem d_Mo_ring_206 : decode b_Mo_ring 206 = .ok (.ifCond .ne 18, 3) := by decide +kernel
theorem d_Mo_ring_209 : decode b_Mo_ring 209 = .ok (.aload_n 0, 1) := by decide +kernel
theorem d_Mo_ring_210 : decode b_Mo_ring 210 = .ok (.getfield 44, 3) := by decide +kernel
theorem d_Mo_ring_213 : decode b_Mo_ring 213 = .ok (.aload_n 0, 1) := by decide +kernel
theorem d_Mo_ring_214 : decode b_Mo_ring 214 = .ok (.getfield 32, 3) := by decide +kernel
theorem d_Mo_ring_217 : decode b_Mo_ring 217 = .ok (.iload 6, 2) := by decide +kernel
theorem d_Mo_ring_219 : decode b_Mo_ring 219 = .ok (.iaload, 1) := by decide +kernel
theorem d_Mo_ring_220 : decode b_Mo_ring 220 = .ok (.baload, 1) := by decide +kernel
theorem d_Mo_ring_221 : decode b_Mo_ring 221 = .ok (.ifCond .ne 7, 3) := by decide +kernel
theorem d_Mo_ring_224 : decode b_Mo_ring 224 = .ok (.iconst 1, 1) := by decide +kernel
theorem d_Mo_ring_225 : decode b_Mo_ring 225 = .ok (.goto 4, 3) := by decide +kernel
theorem d_Mo_ring_228 : decode b_Mo_ring 228 = .ok (.iconst 0, 1) := by decide +kernel
theorem d_Mo_ring_229 : decode b_Mo_ring 229 = .ok (.istore 5, 2) := by decide +kernel
theorem d_Mo_ring_231 : decode b_Mo_ring 231 = .ok (.iinc 6 1, 3) := by decide +kernel
theorem d_Mo_ring_234 : decode b_Mo_ring 234 = .ok (.goto (-68), 3) := by decide +kernel
theorem d_Mo_ring_237 : decode b_Mo_ring 237 = .ok (.iconst 0, 1) := by decide +kernel
theorem d_Mo_ring_238 : decode b_Mo_ring 238 = .ok (.istore 6, 2) := by decide +kernel
theorem d_Mo_ring_240 : decode b_Mo_ring 240 = .ok (.iload 6, 2) := by decide +kernel
theorem d_Mo_ring_242 : decode b_Mo_ring 242 = .ok (.iload_n 3, 1) := by decide +kernel
theorem d_Mo_ring_243 : decode b_Mo_ring 243 = .ok (.if_icmp .ge 27, 3) := by decide +kernel
theorem d_Mo_ring_246 : decode b_Mo_ring 246 = .ok (.iload 5, 2) := by decide +kernel
theorem d_Mo_ring_248 : decode b_Mo_ring 248 = .ok (.ifCond .eq 22, 3) := by decide +kernel
theorem d_Mo_ring_251 : decode b_Mo_ring 251 = .ok (.aload_n 0, 1) := by decide +kernel
theorem d_Mo_ring_252 : decode b_Mo_ring 252 = .ok (.getfield 41, 3) := by decide +kernel
theorem d_Mo_ring_255 : decode b_Mo_ring 255 = .ok (.aload_n 0, 1) := by decide +kernel
theorem d_Mo_ring_256 : decode b_Mo_ring 256 = .ok (.getfield 47, 3) := by decide +kernel
theorem d_Mo_ring_259 : decode b_Mo_ring 259 = .ok (.iload 6, 2) := by decide +kernel
theorem d_Mo_ring_261 : decode b_Mo_ring 261 = .ok (.iaload, 1) := by decide +kernel
theorem d_Mo_ring_262 : decode b_Mo_ring 262 = .ok (.iconst 1, 1) := by decide +kernel
theorem d_Mo_ring_263 : decode b_Mo_ring 263 = .ok (.iastore, 1) := by decide +kernel
theorem d_Mo_ring_264 : decode b_Mo_ring 264 = .ok (.iinc 6 1, 3) := by decide +kernel
theorem d_Mo_ring_267 : decode b_Mo_ring 267 = .ok (.goto (-27), 3) := by decide +kernel
theorem d_Mo_ring_270 : decode b_Mo_ring 270 = .ok (.iload 5, 2) := by decide +kernel
theorem d_Mo_ring_272 : decode b_Mo_ring 272 = .ok (.ireturn, 1) := by decide +kernel

set_option maxHeartbeats 4000000 in
set_option maxRecDepth 100000 in
theorem c_Mo_ring (l : Launch) (D : va_G) (cI cZ cJ cS : ClassId) (aT : Nat) (ceT : Cell) (sz : Nat) (g0 m_sea m_center m_home m_borders m_owner m_units m_kind m_toX m_toY m_results m_known m_reached m_way m_aside m_origin m_retreats m_contested m_moved m_past : Nat) (n : Nat) (co mp mt msh : Int32) (S : Nat → Bool) (Bo : Nat → Bool) (fu : Nat → Int32) (Kd : Nat → Nat) (X : Nat → Nat) (K : Nat → Nat) (Re : Nat → Bool) (Wy : Nat → Nat) (r0 : Nat) (hKd : ∀ j, Kd j < 4) (hX9 : ∀ j, X j < 12) (hK9 : ∀ j, K j < 3) (hn : n ≤ 12) (hXa : ∀ j, j < n → X j < n) (hr0 : r0 < n) : Met l y_Mo_ring w_Mo_ring ({ frames := 4, cells := 0, slots := 0, locals := 88 }) (tH D cI cZ cJ cS aT ceT [.ref g0, .int (nI r0)] sz [(g0, .inr (6, [.int co, .int (nI n), .ref m_sea, .ref m_center, .ref m_home, .ref m_borders, .int mp, .int mt, .ref m_owner, .ref m_units, .ref m_kind, .ref m_toX, .ref m_toY, .ref m_results, .ref m_known, .ref m_reached, .ref m_way, .ref m_aside, .ref m_origin, .ref m_retreats, .ref m_contested, .ref m_moved, .int msh, .ref m_past])), (m_sea, .inl (cZ, 12, .inl (fun j => bI (S j)))), (m_borders, .inl (cZ, 144, .inl (fun j => bI (Bo j)))), (m_units, .inl (cI, 12, .inl fu)), (m_kind, .inl (cI, 12, .inl (fun j => nI (Kd j)))), (m_toX, .inl (cI, 12, .inl (fun j => nI (X j)))), (m_known, .inl (cI, 12, .inl (fun j => nI (K j)))), (m_reached, .inl (cZ, 12, .inl (fun j => bI (Re j)))), (m_way, .inl (cI, 13, .inl (fun j => nI (Wy j))))]) (va_Qi (fun (r : Int32) (_ : Unit) => r = bI (rgM Bo S fu Kd X K n r0)) (fun _ t => ∃ (Re2 : Nat → Bool) (Wy2 : Nat → Nat), tB D (va_A [(g0, .inr (6, [.int co, .int (nI n), .ref m_sea, .ref m_center, .ref m_home, .ref m_borders, .int mp, .int mt, .ref m_owner, .ref m_units, .ref m_kind, .ref m_toX, .ref m_toY, .ref m_results, .ref m_known, .ref m_reached, .ref m_way, .ref m_aside, .ref m_origin, .ref m_retreats, .ref m_contested, .ref m_moved, .int msh, .ref m_past])), (m_sea, .inl (cZ, 12, .inl (fun j => bI (S j)))), (m_borders, .inl (cZ, 144, .inl (fun j => bI (Bo j)))), (m_units, .inl (cI, 12, .inl fu)), (m_kind, .inl (cI, 12, .inl (fun j => nI (Kd j)))), (m_toX, .inl (cI, 12, .inl (fun j => nI (X j)))), (m_known, .inl (cI, 12, .inl (fun j => nI (K j)))), (m_reached, .inl (cZ, 12, .inl (fun j => bI (Re j)))), (m_way, .inl (cI, 13, .inl (fun j => nI (Wy j))))] sz) [(g0, .inr (6, [.int co, .int (nI n), .ref m_sea, .ref m_center, .ref m_home, .ref m_borders, .int mp, .int mt, .ref m_owner, .ref m_units, .ref m_kind, .ref m_toX, .ref m_toY, .ref m_results, .ref m_known, .ref m_reached, .ref m_way, .ref m_aside, .ref m_origin, .ref m_retreats, .ref m_contested, .ref m_moved, .int msh, .ref m_past])), (m_sea, .inl (cZ, 12, .inl (fun j => bI (S j)))), (m_borders, .inl (cZ, 144, .inl (fun j => bI (Bo j)))), (m_units, .inl (cI, 12, .inl fu)), (m_kind, .inl (cI, 12, .inl (fun j => nI (Kd j)))), (m_toX, .inl (cI, 12, .inl (fun j => nI (X j)))), (m_known, .inl (cI, 12, .inl (fun j => nI (rgK Bo S fu Kd X K n r0 j)))), (m_reached, .inl (cZ, 12, .inl (fun j => bI (Re2 j)))), (m_way, .inl (cI, 13, .inl (fun j => nI (Wy2 j))))] t) (va_A [(g0, .inr (6, [.int co, .int (nI n), .ref m_sea, .ref m_center, .ref m_home, .ref m_borders, .int mp, .int mt, .ref m_owner, .ref m_units, .ref m_kind, .ref m_toX, .ref m_toY, .ref m_results, .ref m_known, .ref m_reached, .ref m_way, .ref m_aside, .ref m_origin, .ref m_retreats, .ref m_contested, .ref m_moved, .int msh, .ref m_past])), (m_sea, .inl (cZ, 12, .inl (fun j => bI (S j)))), (m_borders, .inl (cZ, 144, .inl (fun j => bI (Bo j)))), (m_units, .inl (cI, 12, .inl fu)), (m_kind, .inl (cI, 12, .inl (fun j => nI (Kd j)))), (m_toX, .inl (cI, 12, .inl (fun j => nI (X j)))), (m_known, .inl (cI, 12, .inl (fun j => nI (K j)))), (m_reached, .inl (cZ, 12, .inl (fun j => bI (Re j)))), (m_way, .inl (cI, 13, .inl (fun j => nI (Wy j))))] sz)) 0 0 (va_A [(g0, .inr (6, [.int co, .int (nI n), .ref m_sea, .ref m_center, .ref m_home, .ref m_borders, .int mp, .int mt, .ref m_owner, .ref m_units, .ref m_kind, .ref m_toX, .ref m_toY, .ref m_results, .ref m_known, .ref m_reached, .ref m_way, .ref m_aside, .ref m_origin, .ref m_retreats, .ref m_contested, .ref m_moved, .int msh, .ref m_past])), (m_sea, .inl (cZ, 12, .inl (fun j => bI (S j)))), (m_borders, .inl (cZ, 144, .inl (fun j => bI (Bo j)))), (m_units, .inl (cI, 12, .inl fu)), (m_kind, .inl (cI, 12, .inl (fun j => nI (Kd j)))), (m_toX, .inl (cI, 12, .inl (fun j => nI (X j)))), (m_known, .inl (cI, 12, .inl (fun j => nI (K j)))), (m_reached, .inl (cZ, 12, .inl (fun j => bI (Re j)))), (m_way, .inl (cI, 13, .inl (fun j => nI (Wy j))))] sz) := by
  refine Met.ofW (cc := b_Mo_ring) (maxL := 7) (ret := (some .boolean)) (by decide) rfl ?_
  intro p e s m args below meth c s₁ B hml hv
  obtain ⟨rfl, hsz, hP, hK, hD0, hX⟩ := hv
  have hx := B.exec
  have hb := B.bytes
  have hr := B.returns
  have hts0 := atoms_spec (ws := w_Mo_ring) B.pre
  have hts : ∀ w ∈ TB, w.before _ s = true := fun w h => hts0 w (List.mem_cons_of_mem _ h)
  have hown : s.vm.findClass R_Mo = some m.cls := findClass_of_methodNamed B.named
  have hlocks := B.notSynchronized
  subst hsz
  have hXl := tx_lt hX
  have hXn := tx_far hP hX
  have hD := hD0.self (sz := s.heap.size)
  generalize hAe : va_A [(g0, .inr (6, [.int co, .int (nI n), .ref m_sea, .ref m_center, .ref m_home, .ref m_borders, .int mp, .int mt, .ref m_owner, .ref m_units, .ref m_kind, .ref m_toX, .ref m_toY, .ref m_results, .ref m_known, .ref m_reached, .ref m_way, .ref m_aside, .ref m_origin, .ref m_retreats, .ref m_contested, .ref m_moved, .int msh, .ref m_past])), (m_sea, .inl (cZ, 12, .inl (fun j => bI (S j)))), (m_borders, .inl (cZ, 144, .inl (fun j => bI (Bo j)))), (m_units, .inl (cI, 12, .inl fu)), (m_kind, .inl (cI, 12, .inl (fun j => nI (Kd j)))), (m_toX, .inl (cI, 12, .inl (fun j => nI (X j)))), (m_known, .inl (cI, 12, .inl (fun j => nI (K j)))), (m_reached, .inl (cZ, 12, .inl (fun j => bI (Re j)))), (m_way, .inl (cI, 13, .inl (fun j => nI (Wy j))))] s.heap.size = A at hD hXn ⊢
  have hA : ∀ q : Nat, s.heap.size ≤ q → A q := fun q h => by rw [← hAe]; exact Or.inr h
  have hS : va_S A s.heap s.heap [] := va_S.rf
  have hXH : s.heap[aT]? = s.heap[aT]? := rfl
  have hl := lv_entry ([.ref g0, .int (nI r0)]) (n := 7) (Nat.le_of_ble_eq_true rfl)
  rw [lg_entry_eq]
  generalize (lg_sl ([.ref g0, .int (nI r0)]) ++ List.replicate (7 - (lg_sl ([.ref g0, .int (nI r0)])).length) Slot.unset).toArray = ls at hl ⊢
  have hl : lv_has ls 7 [(0, .ref g0), (1, .int (nI r0))] := hl
  refine lv_iconst (v := 0) hx hb d_Mo_ring_0 (by decide) ?_
  refine lv_istore_n (lv' := [(2, .int 0), (0, .ref g0), (1, .int (nI r0))]) hx hb d_Mo_ring_1 rfl hl (by decide) rfl (fun ls hl => ?_)
  have loop : ∀ (k i : Nat) (ls : Array Slot) (H : Heap) (locs : List Loc), i + k = n → lv_has ls 7 [(2, .int (nI i)), (0, .ref g0), (1, .int (nI r0))] → va_P D vwCl [(g0, .inr (6, [.int co, .int (nI n), .ref m_sea, .ref m_center, .ref m_home, .ref m_borders, .int mp, .int mt, .ref m_owner, .ref m_units, .ref m_kind, .ref m_toX, .ref m_toY, .ref m_results, .ref m_known, .ref m_reached, .ref m_way, .ref m_aside, .ref m_origin, .ref m_retreats, .ref m_contested, .ref m_moved, .int msh, .ref m_past])), (m_sea, .inl (cZ, 12, .inl (fun j => bI (S j)))), (m_borders, .inl (cZ, 144, .inl (fun j => bI (Bo j)))), (m_units, .inl (cI, 12, .inl fu)), (m_kind, .inl (cI, 12, .inl (fun j => nI (Kd j)))), (m_toX, .inl (cI, 12, .inl (fun j => nI (X j)))), (m_known, .inl (cI, 12, .inl (fun j => nI (K j)))), (m_reached, .inl (cZ, 12, .inl (fun j => bI (cl0 Re i j)))), (m_way, .inl (cI, 13, .inl (fun j => nI (Wy j))))] H → va_D A [(g0, .inr (6, [.int co, .int (nI n), .ref m_sea, .ref m_center, .ref m_home, .ref m_borders, .int mp, .int mt, .ref m_owner, .ref m_units, .ref m_kind, .ref m_toX, .ref m_toY, .ref m_results, .ref m_known, .ref m_reached, .ref m_way, .ref m_aside, .ref m_origin, .ref m_retreats, .ref m_contested, .ref m_moved, .int msh, .ref m_past])), (m_sea, .inl (cZ, 12, .inl (fun j => bI (S j)))), (m_borders, .inl (cZ, 144, .inl (fun j => bI (Bo j)))), (m_units, .inl (cI, 12, .inl fu)), (m_kind, .inl (cI, 12, .inl (fun j => nI (Kd j)))), (m_toX, .inl (cI, 12, .inl (fun j => nI (X j)))), (m_known, .inl (cI, 12, .inl (fun j => nI (K j)))), (m_reached, .inl (cZ, 12, .inl (fun j => bI (cl0 Re i j)))), (m_way, .inl (cI, 13, .inl (fun j => nI (Wy j))))] → va_S A s.heap H locs → W p l e (headSpec w_Mo_ring ({ frames := 4, cells := 0, slots := 0, locals := 88 })).room s m ([.ref g0, .int (nI r0)]).toArray below meth c H locs 0 0 (MQ below (va_Qi (fun (r : Int32) (_ : Unit) => r = bI (rgM Bo S fu Kd X K n r0)) (fun _ t => ∃ (Re2 : Nat → Bool) (Wy2 : Nat → Nat), tB D A [(g0, .inr (6, [.int co, .int (nI n), .ref m_sea, .ref m_center, .ref m_home, .ref m_borders, .int mp, .int mt, .ref m_owner, .ref m_units, .ref m_kind, .ref m_toX, .ref m_toY, .ref m_results, .ref m_known, .ref m_reached, .ref m_way, .ref m_aside, .ref m_origin, .ref m_retreats, .ref m_contested, .ref m_moved, .int msh, .ref m_past])), (m_sea, .inl (cZ, 12, .inl (fun j => bI (S j)))), (m_borders, .inl (cZ, 144, .inl (fun j => bI (Bo j)))), (m_units, .inl (cI, 12, .inl fu)), (m_kind, .inl (cI, 12, .inl (fun j => nI (Kd j)))), (m_toX, .inl (cI, 12, .inl (fun j => nI (X j)))), (m_known, .inl (cI, 12, .inl (fun j => nI (rgK Bo S fu Kd X K n r0 j)))), (m_reached, .inl (cZ, 12, .inl (fun j => bI (Re2 j)))), (m_way, .inl (cI, 13, .inl (fun j => nI (Wy2 j))))] t) A) ([.ref g0, .int (nI r0)]).toArray s 0 0 A) (F0 m 2 ls []) := by
    intro k
    induction k with
    | zero =>
      intro i ls H locs hi hl hP hD hS
      have hie : i = n := by omega
      rw [hie] at hl hP hD
      refine lv_iload_n hx hb d_Mo_ring_2 rfl (lv_at hl 0 rfl) ?_
      refine lv_aload_n hx hb d_Mo_ring_3 rfl (lv_at hl 1 rfl) ?_
      refine va_get (D := D) (ci := 6) (v := .int (nI n)) (C := R_Mo) (T := T_Mo) (N := 24) hx hb hts hin_Mo hown hK hP 0 rfl rfl 1 (by decide) (hts _ wd_705) (fun _ h9 => h9) rfl d_Mo_ring_4 ?_
      refine lv_icmp_ge (tgt := 23) hx hb d_Mo_ring_7 (by decide) (fun _ => ?_) (fun h0 => absurd (Int32.le_refl _) h0)
      refine lv_iload_n hx hb d_Mo_ring_23 rfl (lv_at hl 2 rfl) ?_
      refine lv_istore_n (lv' := [(2, .int (nI r0)), (0, .ref g0), (1, .int (nI r0))]) hx hb d_Mo_ring_24 rfl hl (by decide) rfl (fun ls hl => ?_)
      have wh : ∀ (dd kk : Nat) (Ry : Nat → Bool) (ls : Array Slot) (H : Heap) (locs : List Loc), kk + dd = 13 → rgI X (rgQ fu Kd K) r0 n kk Ry → lv_has ls 7 [(2, .int (nI (itr X r0 kk))), (0, .ref g0), (1, .int (nI r0))] → va_P D vwCl [(g0, .inr (6, [.int co, .int (nI n), .ref m_sea, .ref m_center, .ref m_home, .ref m_borders, .int mp, .int mt, .ref m_owner, .ref m_units, .ref m_kind, .ref m_toX, .ref m_toY, .ref m_results, .ref m_known, .ref m_reached, .ref m_way, .ref m_aside, .ref m_origin, .ref m_retreats, .ref m_contested, .ref m_moved, .int msh, .ref m_past])), (m_sea, .inl (cZ, 12, .inl (fun j => bI (S j)))), (m_borders, .inl (cZ, 144, .inl (fun j => bI (Bo j)))), (m_units, .inl (cI, 12, .inl fu)), (m_kind, .inl (cI, 12, .inl (fun j => nI (Kd j)))), (m_toX, .inl (cI, 12, .inl (fun j => nI (X j)))), (m_known, .inl (cI, 12, .inl (fun j => nI (K j)))), (m_reached, .inl (cZ, 12, .inl (fun j => bI (Ry j)))), (m_way, .inl (cI, 13, .inl (fun j => nI (Wy j))))] H → va_D A [(g0, .inr (6, [.int co, .int (nI n), .ref m_sea, .ref m_center, .ref m_home, .ref m_borders, .int mp, .int mt, .ref m_owner, .ref m_units, .ref m_kind, .ref m_toX, .ref m_toY, .ref m_results, .ref m_known, .ref m_reached, .ref m_way, .ref m_aside, .ref m_origin, .ref m_retreats, .ref m_contested, .ref m_moved, .int msh, .ref m_past])), (m_sea, .inl (cZ, 12, .inl (fun j => bI (S j)))), (m_borders, .inl (cZ, 144, .inl (fun j => bI (Bo j)))), (m_units, .inl (cI, 12, .inl fu)), (m_kind, .inl (cI, 12, .inl (fun j => nI (Kd j)))), (m_toX, .inl (cI, 12, .inl (fun j => nI (X j)))), (m_known, .inl (cI, 12, .inl (fun j => nI (K j)))), (m_reached, .inl (cZ, 12, .inl (fun j => bI (Ry j)))), (m_way, .inl (cI, 13, .inl (fun j => nI (Wy j))))] → va_S A s.heap H locs → W p l e (headSpec w_Mo_ring ({ frames := 4, cells := 0, slots := 0, locals := 88 })).room s m ([.ref g0, .int (nI r0)]).toArray below meth c H locs 0 0 (MQ below (va_Qi (fun (r : Int32) (_ : Unit) => r = bI (rgM Bo S fu Kd X K n r0)) (fun _ t => ∃ (Re2 : Nat → Bool) (Wy2 : Nat → Nat), tB D A [(g0, .inr (6, [.int co, .int (nI n), .ref m_sea, .ref m_center, .ref m_home, .ref m_borders, .int mp, .int mt, .ref m_owner, .ref m_units, .ref m_kind, .ref m_toX, .ref m_toY, .ref m_results, .ref m_known, .ref m_reached, .ref m_way, .ref m_aside, .ref m_origin, .ref m_retreats, .ref m_contested, .ref m_moved, .int msh, .ref m_past])), (m_sea, .inl (cZ, 12, .inl (fun j => bI (S j)))), (m_borders, .inl (cZ, 144, .inl (fun j => bI (Bo j)))), (m_units, .inl (cI, 12, .inl fu)), (m_kind, .inl (cI, 12, .inl (fun j => nI (Kd j)))), (m_toX, .inl (cI, 12, .inl (fun j => nI (X j)))), (m_known, .inl (cI, 12, .inl (fun j => nI (rgK Bo S fu Kd X K n r0 j)))), (m_reached, .inl (cZ, 12, .inl (fun j => bI (Re2 j)))), (m_way, .inl (cI, 13, .inl (fun j => nI (Wy2 j))))] t) A) ([.ref g0, .int (nI r0)]).toArray s 0 0 A) (F0 m 25 ls []) := by
        intro dd
        induction dd with
        | zero =>
          intro kk Ry ls H locs hkd hI
          have := rgI_le hI
          omega
        | succ dd ihw =>
          intro kk Ry ls H locs hkd hI hl hP hD hS
          have hit : itr X r0 kk < n := itr_lt hXa hr0 kk
          have hit12 : itr X r0 kk < 12 := Nat.lt_of_lt_of_le hit hn
          refine lv_aload_n hx hb d_Mo_ring_25 rfl (lv_at hl 1 rfl) ?_
          refine lv_iload_n hx hb d_Mo_ring_26 rfl (lv_at hl 0 rfl) ?_
          have hPc := hP.sub (ws' := [(g0, .inr (6, [.int co, .int (nI n), .ref m_sea, .ref m_center, .ref m_home, .ref m_borders, .int mp, .int mt, .ref m_owner, .ref m_units, .ref m_kind, .ref m_toX, .ref m_toY, .ref m_results, .ref m_known, .ref m_reached, .ref m_way, .ref m_aside, .ref m_origin, .ref m_retreats, .ref m_contested, .ref m_moved, .int msh, .ref m_past])), (m_units, .inl (cI, 12, .inl fu)), (m_kind, .inl (cI, 12, .inl (fun j => nI (Kd j))))]) [0, 3, 4] rfl
          refine vp_callSi (va_Run.run (va_runV (As := [.int (nI (itr X r0 kk))]) (rest := []) ⟨hx, hb, hml, hown, hts⟩ (c_Mo_moves l D cI cZ cJ cS aT ceT  g0 m_sea m_center m_home m_borders m_owner m_units m_kind m_toX m_toY m_results m_known m_reached m_way m_aside m_origin m_retreats m_contested m_moved m_past n co mp mt msh fu Kd (itr X r0 kk) hKd hit12) (cwV 1 hts (tb_4 wd_853 wd_855 wp_47 wd_8 (tb_c wd_856)) rfl rfl rfl ⟨rfl, by decide, by decide, by decide +kernel⟩ ⟨Nat.le_of_ble_eq_true rfl, Nat.le_of_ble_eq_true rfl⟩) (tP_V hK hX (hS.2.1 aT hXl hXn) hPc (q := 0) rfl rfl) rfl rfl hl.1 rfl (lv_room (Nat.le_of_ble_eq_true rfl)) d_Mo_ring_27 ⟨Nat.le_of_ble_eq_true rfl, Nat.le_of_ble_eq_true rfl⟩)) (fun r2 hr9 => ?_)
          rw [hr9]
          rcases bI_c (mvs fu Kd (itr X r0 kk)) with ⟨hb4, e9⟩ | ⟨hb4, e9⟩
          · refine tr_top e9 ?_
            refine lv_if_eq (tgt := 68) hx hb d_Mo_ring_30 (by decide) (fun h0 => absurd h0 (by decide)) (fun _ => ?_)
            refine lv_aload_n hx hb d_Mo_ring_33 rfl (lv_at hl 1 rfl) ?_
            refine va_get (D := D) (ci := 6) (v := .ref m_known) (C := R_Mo) (T := T_Mo) (N := 24) hx hb hts hin_Mo hown hK hP 0 rfl rfl 14 (by decide) (hts _ wd_718) (fun _ h9 => h9) rfl d_Mo_ring_34 ?_
            refine lv_iload_n hx hb d_Mo_ring_37 rfl (lv_at hl 0 rfl) ?_
            refine tr_iald (v := nI (K (itr X r0 kk))) hx hb hK hP 6 0 rfl rfl (itr X r0 kk) hit12 (by decide) rfl d_Mo_ring_38 ?_
            refine lv_if_ne (tgt := 68) hx hb d_Mo_ring_39 (by decide) (fun hc6 => ?_) (fun hc6 => ?_)
            · -- 39 taken
              have hc6 : ¬ K (itr X r0 kk) = 0 := fun h9 => hc6 (congrArg nI h9)
              have hqf : rgQ fu Kd K (itr X r0 kk) = false := by simp [rgQ, hb4, hc6]
              have hRf : Ry (itr X r0 kk) = false := rgI_no hI hit hqf
              have eM : rgM Bo S fu Kd X K n r0 = false := rgM_out (t := kk) (by omega) hqf
              refine lv_aload_n hx hb d_Mo_ring_68 rfl (lv_at hl 1 rfl) ?_
              refine va_get (D := D) (ci := 6) (v := .ref m_reached) (C := R_Mo) (T := T_Mo) (N := 24) hx hb hts hin_Mo hown hK hP 0 rfl rfl 15 (by decide) (hts _ wd_719) (fun _ h9 => h9) rfl d_Mo_ring_69 ?_
              refine lv_iload_n hx hb d_Mo_ring_72 rfl (lv_at hl 0 rfl) ?_
              refine tr_zald (v := bI (Ry (itr X r0 kk))) hx hb hK hP 7 1 rfl rfl (itr X r0 kk) hit12 (by decide) rfl d_Mo_ring_73 ?_
              refine tr_top (bI_f hRf) ?_
              refine lv_if_ne (tgt := 79) hx hb d_Mo_ring_74 (by decide) (fun h0 => absurd (by decide) h0) (fun _ => ?_)
              refine lv_iconst (v := 0) hx hb d_Mo_ring_77 (by decide) ?_
              have hP9 := hP.sub (ws' := [(g0, .inr (6, [.int co, .int (nI n), .ref m_sea, .ref m_center, .ref m_home, .ref m_borders, .int mp, .int mt, .ref m_owner, .ref m_units, .ref m_kind, .ref m_toX, .ref m_toY, .ref m_results, .ref m_known, .ref m_reached, .ref m_way, .ref m_aside, .ref m_origin, .ref m_retreats, .ref m_contested, .ref m_moved, .int msh, .ref m_past])), (m_sea, .inl (cZ, 12, .inl (fun j => bI (S j)))), (m_borders, .inl (cZ, 144, .inl (fun j => bI (Bo j)))), (m_units, .inl (cI, 12, .inl fu)), (m_kind, .inl (cI, 12, .inl (fun j => nI (Kd j)))), (m_toX, .inl (cI, 12, .inl (fun j => nI (X j)))), (m_known, .inl (cI, 12, .inl (fun j => nI (K j)))), (m_reached, .inl (cZ, 12, .inl (fun j => bI (Ry j)))), (m_way, .inl (cI, 13, .inl (fun j => nI (Wy j))))]) [0, 1, 2, 3, 4, 5, 6, 7, 8] rfl
              have hD9 := hD.sub (ws' := [(g0, .inr (6, [.int co, .int (nI n), .ref m_sea, .ref m_center, .ref m_home, .ref m_borders, .int mp, .int mt, .ref m_owner, .ref m_units, .ref m_kind, .ref m_toX, .ref m_toY, .ref m_results, .ref m_known, .ref m_reached, .ref m_way, .ref m_aside, .ref m_origin, .ref m_retreats, .ref m_contested, .ref m_moved, .int msh, .ref m_past])), (m_sea, .inl (cZ, 12, .inl (fun j => bI (S j)))), (m_borders, .inl (cZ, 144, .inl (fun j => bI (Bo j)))), (m_units, .inl (cI, 12, .inl fu)), (m_kind, .inl (cI, 12, .inl (fun j => nI (Kd j)))), (m_toX, .inl (cI, 12, .inl (fun j => nI (X j)))), (m_known, .inl (cI, 12, .inl (fun j => nI (K j)))), (m_reached, .inl (cZ, 12, .inl (fun j => bI (Ry j)))), (m_way, .inl (cI, 13, .inl (fun j => nI (Wy j))))]) [0, 1, 2, 3, 4, 5, 6, 7, 8] (by decide) rfl
              have hP9 : va_P D vwCl [(g0, .inr (6, [.int co, .int (nI n), .ref m_sea, .ref m_center, .ref m_home, .ref m_borders, .int mp, .int mt, .ref m_owner, .ref m_units, .ref m_kind, .ref m_toX, .ref m_toY, .ref m_results, .ref m_known, .ref m_reached, .ref m_way, .ref m_aside, .ref m_origin, .ref m_retreats, .ref m_contested, .ref m_moved, .int msh, .ref m_past])), (m_sea, .inl (cZ, 12, .inl (fun j => bI (S j)))), (m_borders, .inl (cZ, 144, .inl (fun j => bI (Bo j)))), (m_units, .inl (cI, 12, .inl fu)), (m_kind, .inl (cI, 12, .inl (fun j => nI (Kd j)))), (m_toX, .inl (cI, 12, .inl (fun j => nI (X j)))), (m_known, .inl (cI, 12, .inl (fun j => nI (rgK Bo S fu Kd X K n r0 j)))), (m_reached, .inl (cZ, 12, .inl (fun j => bI (Ry j)))), (m_way, .inl (cI, 13, .inl (fun j => nI (Wy j))))] H := by rw [rgK_no eM]; exact hP9
              have hD9 : va_D A [(g0, .inr (6, [.int co, .int (nI n), .ref m_sea, .ref m_center, .ref m_home, .ref m_borders, .int mp, .int mt, .ref m_owner, .ref m_units, .ref m_kind, .ref m_toX, .ref m_toY, .ref m_results, .ref m_known, .ref m_reached, .ref m_way, .ref m_aside, .ref m_origin, .ref m_retreats, .ref m_contested, .ref m_moved, .int msh, .ref m_past])), (m_sea, .inl (cZ, 12, .inl (fun j => bI (S j)))), (m_borders, .inl (cZ, 144, .inl (fun j => bI (Bo j)))), (m_units, .inl (cI, 12, .inl fu)), (m_kind, .inl (cI, 12, .inl (fun j => nI (Kd j)))), (m_toX, .inl (cI, 12, .inl (fun j => nI (X j)))), (m_known, .inl (cI, 12, .inl (fun j => nI (rgK Bo S fu Kd X K n r0 j)))), (m_reached, .inl (cZ, 12, .inl (fun j => bI (Ry j)))), (m_way, .inl (cI, 13, .inl (fun j => nI (Wy j))))] := by rw [rgK_no eM]; exact hD9
              exact W.zret (v := 0) hx hb hr (by decide) (fun t ht hW => ⟨⟨0, (), rfl, (bI_f eM).symm, Ry, Wy, by rw [ht]; exact hP9, hD9⟩, hS.F ht⟩) hS.2.2 d_Mo_ring_78
            · -- 39 not taken
              have hc6 : K (itr X r0 kk) = 0 := (nI_lit (Nat.lt_trans (hK9 _) (by decide)) (by decide)).mp hc6
              refine lv_aload_n hx hb d_Mo_ring_42 rfl (lv_at hl 1 rfl) ?_
              refine va_get (D := D) (ci := 6) (v := .ref m_reached) (C := R_Mo) (T := T_Mo) (N := 24) hx hb hts hin_Mo hown hK hP 0 rfl rfl 15 (by decide) (hts _ wd_719) (fun _ h9 => h9) rfl d_Mo_ring_43 ?_
              refine lv_iload_n hx hb d_Mo_ring_46 rfl (lv_at hl 0 rfl) ?_
              refine tr_zald (v := bI (Ry (itr X r0 kk))) hx hb hK hP 7 1 rfl rfl (itr X r0 kk) hit12 (by decide) rfl d_Mo_ring_47 ?_
              rcases bI_c (Ry (itr X r0 kk)) with ⟨hb10, e9⟩ | ⟨hb10, e9⟩
              · refine tr_top e9 ?_
                refine lv_if_ne (tgt := 68) hx hb d_Mo_ring_48 (by decide) (fun _ => ?_) (fun h0 => absurd h0 (by decide))
                refine lv_aload_n hx hb d_Mo_ring_68 rfl (lv_at hl 1 rfl) ?_
                refine va_get (D := D) (ci := 6) (v := .ref m_reached) (C := R_Mo) (T := T_Mo) (N := 24) hx hb hts hin_Mo hown hK hP 0 rfl rfl 15 (by decide) (hts _ wd_719) (fun _ h9 => h9) rfl d_Mo_ring_69 ?_
                refine lv_iload_n hx hb d_Mo_ring_72 rfl (lv_at hl 0 rfl) ?_
                refine tr_zald (v := bI (Ry (itr X r0 kk))) hx hb hK hP 7 1 rfl rfl (itr X r0 kk) hit12 (by decide) rfl d_Mo_ring_73 ?_
                refine tr_top (bI_t hb10) ?_
                refine lv_if_ne (tgt := 79) hx hb d_Mo_ring_74 (by decide) (fun _ => ?_) (fun h0 => absurd h0 (by decide))
                refine lv_iconst (v := 0) hx hb d_Mo_ring_79 (by decide) ?_
                refine lv_istore_n (lv' := [(3, .int 0), (2, .int (nI (itr X r0 kk))), (0, .ref g0), (1, .int (nI r0))]) hx hb d_Mo_ring_80 rfl hl (by decide) rfl (fun ls hl => ?_)
                have loop : ∀ (k i : Nat) (ls : Array Slot) (H : Heap) (locs : List Loc), i + k = n → lv_has ls 7 [(3, .int (nI i)), (2, .int (nI (itr X r0 kk))), (0, .ref g0), (1, .int (nI r0))] → va_P D vwCl [(g0, .inr (6, [.int co, .int (nI n), .ref m_sea, .ref m_center, .ref m_home, .ref m_borders, .int mp, .int mt, .ref m_owner, .ref m_units, .ref m_kind, .ref m_toX, .ref m_toY, .ref m_results, .ref m_known, .ref m_reached, .ref m_way, .ref m_aside, .ref m_origin, .ref m_retreats, .ref m_contested, .ref m_moved, .int msh, .ref m_past])), (m_sea, .inl (cZ, 12, .inl (fun j => bI (S j)))), (m_borders, .inl (cZ, 144, .inl (fun j => bI (Bo j)))), (m_units, .inl (cI, 12, .inl fu)), (m_kind, .inl (cI, 12, .inl (fun j => nI (Kd j)))), (m_toX, .inl (cI, 12, .inl (fun j => nI (X j)))), (m_known, .inl (cI, 12, .inl (fun j => nI (K j)))), (m_reached, .inl (cZ, 12, .inl (fun j => bI (cl0 Ry i j)))), (m_way, .inl (cI, 13, .inl (fun j => nI (Wy j))))] H → va_D A [(g0, .inr (6, [.int co, .int (nI n), .ref m_sea, .ref m_center, .ref m_home, .ref m_borders, .int mp, .int mt, .ref m_owner, .ref m_units, .ref m_kind, .ref m_toX, .ref m_toY, .ref m_results, .ref m_known, .ref m_reached, .ref m_way, .ref m_aside, .ref m_origin, .ref m_retreats, .ref m_contested, .ref m_moved, .int msh, .ref m_past])), (m_sea, .inl (cZ, 12, .inl (fun j => bI (S j)))), (m_borders, .inl (cZ, 144, .inl (fun j => bI (Bo j)))), (m_units, .inl (cI, 12, .inl fu)), (m_kind, .inl (cI, 12, .inl (fun j => nI (Kd j)))), (m_toX, .inl (cI, 12, .inl (fun j => nI (X j)))), (m_known, .inl (cI, 12, .inl (fun j => nI (K j)))), (m_reached, .inl (cZ, 12, .inl (fun j => bI (cl0 Ry i j)))), (m_way, .inl (cI, 13, .inl (fun j => nI (Wy j))))] → va_S A s.heap H locs → W p l e (headSpec w_Mo_ring ({ frames := 4, cells := 0, slots := 0, locals := 88 })).room s m ([.ref g0, .int (nI r0)]).toArray below meth c H locs 0 0 (MQ below (va_Qi (fun (r : Int32) (_ : Unit) => r = bI (rgM Bo S fu Kd X K n r0)) (fun _ t => ∃ (Re2 : Nat → Bool) (Wy2 : Nat → Nat), tB D A [(g0, .inr (6, [.int co, .int (nI n), .ref m_sea, .ref m_center, .ref m_home, .ref m_borders, .int mp, .int mt, .ref m_owner, .ref m_units, .ref m_kind, .ref m_toX, .ref m_toY, .ref m_results, .ref m_known, .ref m_reached, .ref m_way, .ref m_aside, .ref m_origin, .ref m_retreats, .ref m_contested, .ref m_moved, .int msh, .ref m_past])), (m_sea, .inl (cZ, 12, .inl (fun j => bI (S j)))), (m_borders, .inl (cZ, 144, .inl (fun j => bI (Bo j)))), (m_units, .inl (cI, 12, .inl fu)), (m_kind, .inl (cI, 12, .inl (fun j => nI (Kd j)))), (m_toX, .inl (cI, 12, .inl (fun j => nI (X j)))), (m_known, .inl (cI, 12, .inl (fun j => nI (rgK Bo S fu Kd X K n r0 j)))), (m_reached, .inl (cZ, 12, .inl (fun j => bI (Re2 j)))), (m_way, .inl (cI, 13, .inl (fun j => nI (Wy2 j))))] t) A) ([.ref g0, .int (nI r0)]).toArray s 0 0 A) (F0 m 81 ls []) := by
                  intro k
                  induction k with
                  | zero =>
                    intro i ls H locs hi hl hP hD hS
                    have hie : i = n := by omega
                    rw [hie] at hl hP hD
                    refine lv_iload_n hx hb d_Mo_ring_81 rfl (lv_at hl 0 rfl) ?_
                    refine lv_aload_n hx hb d_Mo_ring_82 rfl (lv_at hl 2 rfl) ?_
                    refine va_get (D := D) (ci := 6) (v := .int (nI n)) (C := R_Mo) (T := T_Mo) (N := 24) hx hb hts hin_Mo hown hK hP 0 rfl rfl 1 (by decide) (hts _ wd_705) (fun _ h9 => h9) rfl d_Mo_ring_83 ?_
                    refine lv_icmp_ge (tgt := 102) hx hb d_Mo_ring_86 (by decide) (fun _ => ?_) (fun h0 => absurd (Int32.le_refl _) h0)
                    refine lv_iconst (v := 0) hx hb d_Mo_ring_102 (by decide) ?_
                    refine lv_istore_n (lv' := [(3, .int 0), (2, .int (nI (itr X r0 kk))), (0, .ref g0), (1, .int (nI r0))]) hx hb d_Mo_ring_103 rfl hl (by decide) rfl (fun ls hl => ?_)
                    refine lv_iload_n hx hb d_Mo_ring_104 rfl (lv_at hl 1 rfl) ?_
                    refine lv_istore (lv' := [(4, .int (nI (itr X r0 kk))), (3, .int 0), (2, .int (nI (itr X r0 kk))), (0, .ref g0), (1, .int (nI r0))]) hx hb d_Mo_ring_105 hl (by decide) rfl (fun ls hl => ?_)
                    have hbR := hb10
                    have wh2 : ∀ (d2 k2 : Nat) (Rz : Nat → Bool) (Wz : Nat → Nat) (ls : Array Slot) (H : Heap) (locs : List Loc), k2 + d2 = 13 → rgI X (fun _ => true) (itr X r0 kk) n k2 Rz → (∀ t, t < k2 → Wz t = itr X (itr X r0 kk) t) → lv_has ls 7 [(4, .int (nI (itr X (itr X r0 kk) k2))), (3, .int (nI k2)), (2, .int (nI (itr X r0 kk))), (0, .ref g0), (1, .int (nI r0))] → va_P D vwCl [(g0, .inr (6, [.int co, .int (nI n), .ref m_sea, .ref m_center, .ref m_home, .ref m_borders, .int mp, .int mt, .ref m_owner, .ref m_units, .ref m_kind, .ref m_toX, .ref m_toY, .ref m_results, .ref m_known, .ref m_reached, .ref m_way, .ref m_aside, .ref m_origin, .ref m_retreats, .ref m_contested, .ref m_moved, .int msh, .ref m_past])), (m_sea, .inl (cZ, 12, .inl (fun j => bI (S j)))), (m_borders, .inl (cZ, 144, .inl (fun j => bI (Bo j)))), (m_units, .inl (cI, 12, .inl fu)), (m_kind, .inl (cI, 12, .inl (fun j => nI (Kd j)))), (m_toX, .inl (cI, 12, .inl (fun j => nI (X j)))), (m_known, .inl (cI, 12, .inl (fun j => nI (K j)))), (m_reached, .inl (cZ, 12, .inl (fun j => bI (Rz j)))), (m_way, .inl (cI, 13, .inl (fun j => nI (Wz j))))] H → va_D A [(g0, .inr (6, [.int co, .int (nI n), .ref m_sea, .ref m_center, .ref m_home, .ref m_borders, .int mp, .int mt, .ref m_owner, .ref m_units, .ref m_kind, .ref m_toX, .ref m_toY, .ref m_results, .ref m_known, .ref m_reached, .ref m_way, .ref m_aside, .ref m_origin, .ref m_retreats, .ref m_contested, .ref m_moved, .int msh, .ref m_past])), (m_sea, .inl (cZ, 12, .inl (fun j => bI (S j)))), (m_borders, .inl (cZ, 144, .inl (fun j => bI (Bo j)))), (m_units, .inl (cI, 12, .inl fu)), (m_kind, .inl (cI, 12, .inl (fun j => nI (Kd j)))), (m_toX, .inl (cI, 12, .inl (fun j => nI (X j)))), (m_known, .inl (cI, 12, .inl (fun j => nI (K j)))), (m_reached, .inl (cZ, 12, .inl (fun j => bI (Rz j)))), (m_way, .inl (cI, 13, .inl (fun j => nI (Wz j))))] → va_S A s.heap H locs → W p l e (headSpec w_Mo_ring ({ frames := 4, cells := 0, slots := 0, locals := 88 })).room s m ([.ref g0, .int (nI r0)]).toArray below meth c H locs 0 0 (MQ below (va_Qi (fun (r : Int32) (_ : Unit) => r = bI (rgM Bo S fu Kd X K n r0)) (fun _ t => ∃ (Re2 : Nat → Bool) (Wy2 : Nat → Nat), tB D A [(g0, .inr (6, [.int co, .int (nI n), .ref m_sea, .ref m_center, .ref m_home, .ref m_borders, .int mp, .int mt, .ref m_owner, .ref m_units, .ref m_kind, .ref m_toX, .ref m_toY, .ref m_results, .ref m_known, .ref m_reached, .ref m_way, .ref m_aside, .ref m_origin, .ref m_retreats, .ref m_contested, .ref m_moved, .int msh, .ref m_past])), (m_sea, .inl (cZ, 12, .inl (fun j => bI (S j)))), (m_borders, .inl (cZ, 144, .inl (fun j => bI (Bo j)))), (m_units, .inl (cI, 12, .inl fu)), (m_kind, .inl (cI, 12, .inl (fun j => nI (Kd j)))), (m_toX, .inl (cI, 12, .inl (fun j => nI (X j)))), (m_known, .inl (cI, 12, .inl (fun j => nI (rgK Bo S fu Kd X K n r0 j)))), (m_reached, .inl (cZ, 12, .inl (fun j => bI (Re2 j)))), (m_way, .inl (cI, 13, .inl (fun j => nI (Wy2 j))))] t) A) ([.ref g0, .int (nI r0)]).toArray s 0 0 A) (F0 m 107 ls []) := by
                      intro d2
                      induction d2 with
                      | zero =>
                        intro k2 Rz Wz ls H locs hkd2 hI2
                        have := rgI_le hI2
                        omega
                      | succ d2 ihw2 =>
                        intro k2 Rz Wz ls H locs hkd2 hI2 hW hl hP hD hS
                        have hit2 : itr X (itr X r0 kk) k2 < n := itr_lt hXa hit k2
                        have hit212 : itr X (itr X r0 kk) k2 < 12 := Nat.lt_of_lt_of_le hit2 hn
                        refine lv_aload_n hx hb d_Mo_ring_107 rfl (lv_at hl 3 rfl) ?_
                        refine va_get (D := D) (ci := 6) (v := .ref m_reached) (C := R_Mo) (T := T_Mo) (N := 24) hx hb hts hin_Mo hown hK hP 0 rfl rfl 15 (by decide) (hts _ wd_719) (fun _ h9 => h9) rfl d_Mo_ring_108 ?_
                        refine lv_iload hx hb d_Mo_ring_111 (lv_at hl 0 rfl) ?_
                        refine tr_zald (v := bI (Rz (itr X (itr X r0 kk) k2))) hx hb hK hP 7 1 rfl rfl (itr X (itr X r0 kk) k2) hit212 (by decide) rfl d_Mo_ring_113 ?_
                        rcases bI_c (Rz (itr X (itr X r0 kk) k2)) with ⟨hb16, e9⟩ | ⟨hb16, e9⟩
                        · refine tr_top e9 ?_
                          refine lv_if_ne (tgt := 148) hx hb d_Mo_ring_114 (by decide) (fun _ => ?_) (fun h0 => absurd h0 (by decide))
                          have eM := rg_may (Bo := Bo) (S := S) hXa hr0 hn hI hbR hI2 hb16
                          refine lv_aload_n hx hb d_Mo_ring_148 rfl (lv_at hl 3 rfl) ?_
                          refine lv_iload_n hx hb d_Mo_ring_149 rfl (lv_at hl 2 rfl) ?_
                          have hPc := hP.sub (ws' := [(g0, .inr (6, [.int co, .int (nI n), .ref m_sea, .ref m_center, .ref m_home, .ref m_borders, .int mp, .int mt, .ref m_owner, .ref m_units, .ref m_kind, .ref m_toX, .ref m_toY, .ref m_results, .ref m_known, .ref m_reached, .ref m_way, .ref m_aside, .ref m_origin, .ref m_retreats, .ref m_contested, .ref m_moved, .int msh, .ref m_past])), (m_sea, .inl (cZ, 12, .inl (fun j => bI (S j)))), (m_borders, .inl (cZ, 144, .inl (fun j => bI (Bo j)))), (m_units, .inl (cI, 12, .inl fu)), (m_kind, .inl (cI, 12, .inl (fun j => nI (Kd j)))), (m_toX, .inl (cI, 12, .inl (fun j => nI (X j))))]) [0, 1, 2, 3, 4, 5] rfl
                          refine vp_callSi (va_Run.run (va_runV (As := [.int (nI (itr X r0 kk))]) (rest := []) ⟨hx, hb, hml, hown, hts⟩ (c_Mo_headOn l D cI cZ cJ cS aT ceT  g0 m_sea m_center m_home m_borders m_owner m_units m_kind m_toX m_toY m_results m_known m_reached m_way m_aside m_origin m_retreats m_contested m_moved m_past n co mp mt msh S Bo fu Kd X (itr X r0 kk) hKd hX9 hit12) (cwV 1 hts (tb_4 wd_897 wd_899 wp_58 wd_8 (tb_c wd_900)) rfl rfl rfl ⟨rfl, by decide, by decide, by decide +kernel⟩ ⟨Nat.le_of_ble_eq_true rfl, Nat.le_of_ble_eq_true rfl⟩) (tP_V hK hX (hS.2.1 aT hXl hXn) hPc (q := 0) rfl rfl) rfl rfl hl.1 rfl (lv_room (Nat.le_of_ble_eq_true rfl)) d_Mo_ring_150 ⟨Nat.le_of_ble_eq_true rfl, Nat.le_of_ble_eq_true rfl⟩)) (fun r18 hr9 => ?_)
                          rw [hr9]
                          rcases bI_c (hOn Bo S fu Kd X (itr X r0 kk)) with ⟨hb20, e9⟩ | ⟨hb20, e9⟩
                          · refine tr_top e9 ?_
                            refine lv_if_ne (tgt := 160) hx hb d_Mo_ring_153 (by decide) (fun _ => ?_) (fun h0 => absurd h0 (by decide))
                            refine lv_iconst (v := 0) hx hb d_Mo_ring_160 (by decide) ?_
                            refine lv_istore (lv' := [(5, .int 0), (4, .int (nI (itr X (itr X r0 kk) k2))), (3, .int (nI k2)), (2, .int (nI (itr X r0 kk))), (0, .ref g0), (1, .int (nI r0))]) hx hb d_Mo_ring_161 hl (by decide) rfl (fun ls hl => ?_)
                            refine lv_iconst (v := 0) hx hb d_Mo_ring_163 (by decide) ?_
                            refine lv_istore (lv' := [(6, .int 0), (5, .int 0), (4, .int (nI (itr X (itr X r0 kk) k2))), (3, .int (nI k2)), (2, .int (nI (itr X r0 kk))), (0, .ref g0), (1, .int (nI r0))]) hx hb d_Mo_ring_164 hl (by decide) rfl (fun ls hl => ?_)
                            have loop : ∀ (k i : Nat) (ls : Array Slot), i + k = n → lv_has ls 7 [(6, .int (nI i)), (5, .int 0), (4, .int (nI (itr X (itr X r0 kk) k2))), (3, .int (nI k2)), (2, .int (nI (itr X r0 kk))), (0, .ref g0), (1, .int (nI r0))] → W p l e (headSpec w_Mo_ring ({ frames := 4, cells := 0, slots := 0, locals := 88 })).room s m ([.ref g0, .int (nI r0)]).toArray below meth c H locs 0 0 (MQ below (va_Qi (fun (r : Int32) (_ : Unit) => r = bI (rgM Bo S fu Kd X K n r0)) (fun _ t => ∃ (Re2 : Nat → Bool) (Wy2 : Nat → Nat), tB D A [(g0, .inr (6, [.int co, .int (nI n), .ref m_sea, .ref m_center, .ref m_home, .ref m_borders, .int mp, .int mt, .ref m_owner, .ref m_units, .ref m_kind, .ref m_toX, .ref m_toY, .ref m_results, .ref m_known, .ref m_reached, .ref m_way, .ref m_aside, .ref m_origin, .ref m_retreats, .ref m_contested, .ref m_moved, .int msh, .ref m_past])), (m_sea, .inl (cZ, 12, .inl (fun j => bI (S j)))), (m_borders, .inl (cZ, 144, .inl (fun j => bI (Bo j)))), (m_units, .inl (cI, 12, .inl fu)), (m_kind, .inl (cI, 12, .inl (fun j => nI (Kd j)))), (m_toX, .inl (cI, 12, .inl (fun j => nI (X j)))), (m_known, .inl (cI, 12, .inl (fun j => nI (rgK Bo S fu Kd X K n r0 j)))), (m_reached, .inl (cZ, 12, .inl (fun j => bI (Re2 j)))), (m_way, .inl (cI, 13, .inl (fun j => nI (Wy2 j))))] t) A) ([.ref g0, .int (nI r0)]).toArray s 0 0 A) (F0 m 166 ls []) := by
                              intro k
                              induction k with
                              | zero =>
                                intro i ls hi hl
                                have hie : i = n := by omega
                                rw [hie] at hl
                                refine lv_iload hx hb d_Mo_ring_166 (lv_at hl 0 rfl) ?_
                                refine lv_aload_n hx hb d_Mo_ring_168 rfl (lv_at hl 5 rfl) ?_
                                refine va_get (D := D) (ci := 6) (v := .int (nI n)) (C := R_Mo) (T := T_Mo) (N := 24) hx hb hts hin_Mo hown hK hP 0 rfl rfl 1 (by decide) (hts _ wd_705) (fun _ h9 => h9) rfl d_Mo_ring_169 ?_
                                refine lv_icmp_ge (tgt := 237) hx hb d_Mo_ring_172 (by decide) (fun _ => ?_) (fun h0 => absurd (Int32.le_refl _) h0)
                                refine lv_iconst (v := 0) hx hb d_Mo_ring_237 (by decide) ?_
                                refine lv_istore (lv' := [(6, .int 0), (5, .int 0), (4, .int (nI (itr X (itr X r0 kk) k2))), (3, .int (nI k2)), (2, .int (nI (itr X r0 kk))), (0, .ref g0), (1, .int (nI r0))]) hx hb d_Mo_ring_238 hl (by decide) rfl (fun ls hl => ?_)
                                have eM2 : rgM Bo S fu Kd X K n r0 = false := by rw [eM]; simp [hb20]
                                refine lv_iload hx hb d_Mo_ring_240 (lv_at hl 0 rfl) ?_
                                refine lv_iload_n hx hb d_Mo_ring_242 rfl (lv_at hl 3 rfl) ?_
                                refine lv_icmp_ge (tgt := 270) hx hb d_Mo_ring_243 (by decide) (fun hc23 => ?_) (fun hc23 => ?_)
                                · -- 243 taken
                                  have hc23 : k2 ≤ 0 := (nI_leI (by omega) (by decide)).mp hc23
                                  refine lv_iload hx hb d_Mo_ring_270 (lv_at hl 1 rfl) ?_
                                  have hP9 := hP.sub (ws' := [(g0, .inr (6, [.int co, .int (nI n), .ref m_sea, .ref m_center, .ref m_home, .ref m_borders, .int mp, .int mt, .ref m_owner, .ref m_units, .ref m_kind, .ref m_toX, .ref m_toY, .ref m_results, .ref m_known, .ref m_reached, .ref m_way, .ref m_aside, .ref m_origin, .ref m_retreats, .ref m_contested, .ref m_moved, .int msh, .ref m_past])), (m_sea, .inl (cZ, 12, .inl (fun j => bI (S j)))), (m_borders, .inl (cZ, 144, .inl (fun j => bI (Bo j)))), (m_units, .inl (cI, 12, .inl fu)), (m_kind, .inl (cI, 12, .inl (fun j => nI (Kd j)))), (m_toX, .inl (cI, 12, .inl (fun j => nI (X j)))), (m_known, .inl (cI, 12, .inl (fun j => nI (K j)))), (m_reached, .inl (cZ, 12, .inl (fun j => bI (Rz j)))), (m_way, .inl (cI, 13, .inl (fun j => nI (Wz j))))]) [0, 1, 2, 3, 4, 5, 6, 7, 8] rfl
                                  have hD9 := hD.sub (ws' := [(g0, .inr (6, [.int co, .int (nI n), .ref m_sea, .ref m_center, .ref m_home, .ref m_borders, .int mp, .int mt, .ref m_owner, .ref m_units, .ref m_kind, .ref m_toX, .ref m_toY, .ref m_results, .ref m_known, .ref m_reached, .ref m_way, .ref m_aside, .ref m_origin, .ref m_retreats, .ref m_contested, .ref m_moved, .int msh, .ref m_past])), (m_sea, .inl (cZ, 12, .inl (fun j => bI (S j)))), (m_borders, .inl (cZ, 144, .inl (fun j => bI (Bo j)))), (m_units, .inl (cI, 12, .inl fu)), (m_kind, .inl (cI, 12, .inl (fun j => nI (Kd j)))), (m_toX, .inl (cI, 12, .inl (fun j => nI (X j)))), (m_known, .inl (cI, 12, .inl (fun j => nI (K j)))), (m_reached, .inl (cZ, 12, .inl (fun j => bI (Rz j)))), (m_way, .inl (cI, 13, .inl (fun j => nI (Wz j))))]) [0, 1, 2, 3, 4, 5, 6, 7, 8] (by decide) rfl
                                  have hP9 : va_P D vwCl [(g0, .inr (6, [.int co, .int (nI n), .ref m_sea, .ref m_center, .ref m_home, .ref m_borders, .int mp, .int mt, .ref m_owner, .ref m_units, .ref m_kind, .ref m_toX, .ref m_toY, .ref m_results, .ref m_known, .ref m_reached, .ref m_way, .ref m_aside, .ref m_origin, .ref m_retreats, .ref m_contested, .ref m_moved, .int msh, .ref m_past])), (m_sea, .inl (cZ, 12, .inl (fun j => bI (S j)))), (m_borders, .inl (cZ, 144, .inl (fun j => bI (Bo j)))), (m_units, .inl (cI, 12, .inl fu)), (m_kind, .inl (cI, 12, .inl (fun j => nI (Kd j)))), (m_toX, .inl (cI, 12, .inl (fun j => nI (X j)))), (m_known, .inl (cI, 12, .inl (fun j => nI (rgK Bo S fu Kd X K n r0 j)))), (m_reached, .inl (cZ, 12, .inl (fun j => bI (Rz j)))), (m_way, .inl (cI, 13, .inl (fun j => nI (Wz j))))] H := by rw [rgK_no eM2]; exact hP9
                                  have hD9 : va_D A [(g0, .inr (6, [.int co, .int (nI n), .ref m_sea, .ref m_center, .ref m_home, .ref m_borders, .int mp, .int mt, .ref m_owner, .ref m_units, .ref m_kind, .ref m_toX, .ref m_toY, .ref m_results, .ref m_known, .ref m_reached, .ref m_way, .ref m_aside, .ref m_origin, .ref m_retreats, .ref m_contested, .ref m_moved, .int msh, .ref m_past])), (m_sea, .inl (cZ, 12, .inl (fun j => bI (S j)))), (m_borders, .inl (cZ, 144, .inl (fun j => bI (Bo j)))), (m_units, .inl (cI, 12, .inl fu)), (m_kind, .inl (cI, 12, .inl (fun j => nI (Kd j)))), (m_toX, .inl (cI, 12, .inl (fun j => nI (X j)))), (m_known, .inl (cI, 12, .inl (fun j => nI (rgK Bo S fu Kd X K n r0 j)))), (m_reached, .inl (cZ, 12, .inl (fun j => bI (Rz j)))), (m_way, .inl (cI, 13, .inl (fun j => nI (Wz j))))] := by rw [rgK_no eM2]; exact hD9
                                  exact W.zret (v := 0) hx hb hr (by decide) (fun t ht hW => ⟨⟨0, (), rfl, (bI_f eM2).symm, Rz, Wz, by rw [ht]; exact hP9, hD9⟩, hS.F ht⟩) hS.2.2 d_Mo_ring_272
                                · -- 243 not taken
                                  have hc23 : 0 < k2 := Nat.lt_of_not_le (fun h9 => hc23 ((nI_leI (by omega) (by decide)).mpr h9))
                                  refine lv_iload hx hb d_Mo_ring_246 (lv_at hl 1 rfl) ?_
                                  refine lv_if_eq (tgt := 270) hx hb d_Mo_ring_248 (by decide) (fun _ => ?_) (fun h0 => absurd (by decide) h0)
                                  refine lv_iload hx hb d_Mo_ring_270 (lv_at hl 1 rfl) ?_
                                  have hP9 := hP.sub (ws' := [(g0, .inr (6, [.int co, .int (nI n), .ref m_sea, .ref m_center, .ref m_home, .ref m_borders, .int mp, .int mt, .ref m_owner, .ref m_units, .ref m_kind, .ref m_toX, .ref m_toY, .ref m_results, .ref m_known, .ref m_reached, .ref m_way, .ref m_aside, .ref m_origin, .ref m_retreats, .ref m_contested, .ref m_moved, .int msh, .ref m_past])), (m_sea, .inl (cZ, 12, .inl (fun j => bI (S j)))), (m_borders, .inl (cZ, 144, .inl (fun j => bI (Bo j)))), (m_units, .inl (cI, 12, .inl fu)), (m_kind, .inl (cI, 12, .inl (fun j => nI (Kd j)))), (m_toX, .inl (cI, 12, .inl (fun j => nI (X j)))), (m_known, .inl (cI, 12, .inl (fun j => nI (K j)))), (m_reached, .inl (cZ, 12, .inl (fun j => bI (Rz j)))), (m_way, .inl (cI, 13, .inl (fun j => nI (Wz j))))]) [0, 1, 2, 3, 4, 5, 6, 7, 8] rfl
                                  have hD9 := hD.sub (ws' := [(g0, .inr (6, [.int co, .int (nI n), .ref m_sea, .ref m_center, .ref m_home, .ref m_borders, .int mp, .int mt, .ref m_owner, .ref m_units, .ref m_kind, .ref m_toX, .ref m_toY, .ref m_results, .ref m_known, .ref m_reached, .ref m_way, .ref m_aside, .ref m_origin, .ref m_retreats, .ref m_contested, .ref m_moved, .int msh, .ref m_past])), (m_sea, .inl (cZ, 12, .inl (fun j => bI (S j)))), (m_borders, .inl (cZ, 144, .inl (fun j => bI (Bo j)))), (m_units, .inl (cI, 12, .inl fu)), (m_kind, .inl (cI, 12, .inl (fun j => nI (Kd j)))), (m_toX, .inl (cI, 12, .inl (fun j => nI (X j)))), (m_known, .inl (cI, 12, .inl (fun j => nI (K j)))), (m_reached, .inl (cZ, 12, .inl (fun j => bI (Rz j)))), (m_way, .inl (cI, 13, .inl (fun j => nI (Wz j))))]) [0, 1, 2, 3, 4, 5, 6, 7, 8] (by decide) rfl
                                  have hP9 : va_P D vwCl [(g0, .inr (6, [.int co, .int (nI n), .ref m_sea, .ref m_center, .ref m_home, .ref m_borders, .int mp, .int mt, .ref m_owner, .ref m_units, .ref m_kind, .ref m_toX, .ref m_toY, .ref m_results, .ref m_known, .ref m_reached, .ref m_way, .ref m_aside, .ref m_origin, .ref m_retreats, .ref m_contested, .ref m_moved, .int msh, .ref m_past])), (m_sea, .inl (cZ, 12, .inl (fun j => bI (S j)))), (m_borders, .inl (cZ, 144, .inl (fun j => bI (Bo j)))), (m_units, .inl (cI, 12, .inl fu)), (m_kind, .inl (cI, 12, .inl (fun j => nI (Kd j)))), (m_toX, .inl (cI, 12, .inl (fun j => nI (X j)))), (m_known, .inl (cI, 12, .inl (fun j => nI (rgK Bo S fu Kd X K n r0 j)))), (m_reached, .inl (cZ, 12, .inl (fun j => bI (Rz j)))), (m_way, .inl (cI, 13, .inl (fun j => nI (Wz j))))] H := by rw [rgK_no eM2]; exact hP9
                                  have hD9 : va_D A [(g0, .inr (6, [.int co, .int (nI n), .ref m_sea, .ref m_center, .ref m_home, .ref m_borders, .int mp, .int mt, .ref m_owner, .ref m_units, .ref m_kind, .ref m_toX, .ref m_toY, .ref m_results, .ref m_known, .ref m_reached, .ref m_way, .ref m_aside, .ref m_origin, .ref m_retreats, .ref m_contested, .ref m_moved, .int msh, .ref m_past])), (m_sea, .inl (cZ, 12, .inl (fun j => bI (S j)))), (m_borders, .inl (cZ, 144, .inl (fun j => bI (Bo j)))), (m_units, .inl (cI, 12, .inl fu)), (m_kind, .inl (cI, 12, .inl (fun j => nI (Kd j)))), (m_toX, .inl (cI, 12, .inl (fun j => nI (X j)))), (m_known, .inl (cI, 12, .inl (fun j => nI (rgK Bo S fu Kd X K n r0 j)))), (m_reached, .inl (cZ, 12, .inl (fun j => bI (Rz j)))), (m_way, .inl (cI, 13, .inl (fun j => nI (Wz j))))] := by rw [rgK_no eM2]; exact hD9
                                  exact W.zret (v := 0) hx hb hr (by decide) (fun t ht hW => ⟨⟨0, (), rfl, (bI_f eM2).symm, Rz, Wz, by rw [ht]; exact hP9, hD9⟩, hS.F ht⟩) hS.2.2 d_Mo_ring_272
                              | succ k ih =>
                                intro i ls hi hl
                                have hlt : i < n := by omega
                                have hlt12 : i < 12 := by omega
                                refine lv_iload hx hb d_Mo_ring_166 (lv_at hl 0 rfl) ?_
                                refine lv_aload_n hx hb d_Mo_ring_168 rfl (lv_at hl 5 rfl) ?_
                                refine va_get (D := D) (ci := 6) (v := .int (nI n)) (C := R_Mo) (T := T_Mo) (N := 24) hx hb hts hin_Mo hown hK hP 0 rfl rfl 1 (by decide) (hts _ wd_705) (fun _ h9 => h9) rfl d_Mo_ring_169 ?_
                                refine lv_icmp_ge (tgt := 237) hx hb d_Mo_ring_172 (by decide) (fun h0 => absurd h0 (nI_ge hlt (by omega))) (fun _ => ?_)
                                refine lv_iload hx hb d_Mo_ring_175 (lv_at hl 1 rfl) ?_
                                refine lv_if_eq (tgt := 228) hx hb d_Mo_ring_177 (by decide) (fun _ => ?_) (fun h0 => absurd (by decide) h0)
                                refine lv_iconst (v := 0) hx hb d_Mo_ring_228 (by decide) ?_
                                refine lv_istore (lv' := [(5, .int 0), (6, .int (nI i)), (4, .int (nI (itr X (itr X r0 kk) k2))), (3, .int (nI k2)), (2, .int (nI (itr X r0 kk))), (0, .ref g0), (1, .int (nI r0))]) hx hb d_Mo_ring_229 hl (by decide) rfl (fun ls hl => ?_)
                                refine lv_iinc (lv' := [(6, .int ((nI i) + 1)), (5, .int 0), (4, .int (nI (itr X (itr X r0 kk) k2))), (3, .int (nI k2)), (2, .int (nI (itr X r0 kk))), (0, .ref g0), (1, .int (nI r0))]) hx hb d_Mo_ring_231 hl (k := 1) rfl rfl (by decide) rfl (fun ls hl => ?_)
                                refine lv_goto (tgt := 166) hx hb d_Mo_ring_234 (by decide) ?_
                                have e27 : (nI i) + 1 = nI (i + 1) := nI_1 i
                                exact ih (i + 1) ls (by omega) (by rw [← e27]; exact lv_sub hl [0, 1, 2, 3, 4, 5, 6] rfl)
                            exact loop n 0 ls (Nat.zero_add _) hl
                          · refine tr_top e9 ?_
                            refine lv_if_ne (tgt := 160) hx hb d_Mo_ring_153 (by decide) (fun h0 => absurd (by decide) h0) (fun _ => ?_)
                            refine lv_iconst (v := 1) hx hb d_Mo_ring_156 (by decide) ?_
                            refine lv_goto (tgt := 161) hx hb d_Mo_ring_157 (by decide) ?_
                            refine lv_istore (lv' := [(5, .int 1), (4, .int (nI (itr X (itr X r0 kk) k2))), (3, .int (nI k2)), (2, .int (nI (itr X r0 kk))), (0, .ref g0), (1, .int (nI r0))]) hx hb d_Mo_ring_161 hl (by decide) rfl (fun ls hl => ?_)
                            refine lv_iconst (v := 0) hx hb d_Mo_ring_163 (by decide) ?_
                            refine lv_istore (lv' := [(6, .int 0), (5, .int 1), (4, .int (nI (itr X (itr X r0 kk) k2))), (3, .int (nI k2)), (2, .int (nI (itr X r0 kk))), (0, .ref g0), (1, .int (nI r0))]) hx hb d_Mo_ring_164 hl (by decide) rfl (fun ls hl => ?_)
                            have loop : ∀ (k i : Nat) (ls : Array Slot), i + k = n → lv_has ls 7 [(6, .int (nI i)), (5, .int (bI (!anyB (fun c => mvs fu Kd c && decide (K c = 0) && !Rz c && Rz (X c)) i))), (4, .int (nI (itr X (itr X r0 kk) k2))), (3, .int (nI k2)), (2, .int (nI (itr X r0 kk))), (0, .ref g0), (1, .int (nI r0))] → W p l e (headSpec w_Mo_ring ({ frames := 4, cells := 0, slots := 0, locals := 88 })).room s m ([.ref g0, .int (nI r0)]).toArray below meth c H locs 0 0 (MQ below (va_Qi (fun (r : Int32) (_ : Unit) => r = bI (rgM Bo S fu Kd X K n r0)) (fun _ t => ∃ (Re2 : Nat → Bool) (Wy2 : Nat → Nat), tB D A [(g0, .inr (6, [.int co, .int (nI n), .ref m_sea, .ref m_center, .ref m_home, .ref m_borders, .int mp, .int mt, .ref m_owner, .ref m_units, .ref m_kind, .ref m_toX, .ref m_toY, .ref m_results, .ref m_known, .ref m_reached, .ref m_way, .ref m_aside, .ref m_origin, .ref m_retreats, .ref m_contested, .ref m_moved, .int msh, .ref m_past])), (m_sea, .inl (cZ, 12, .inl (fun j => bI (S j)))), (m_borders, .inl (cZ, 144, .inl (fun j => bI (Bo j)))), (m_units, .inl (cI, 12, .inl fu)), (m_kind, .inl (cI, 12, .inl (fun j => nI (Kd j)))), (m_toX, .inl (cI, 12, .inl (fun j => nI (X j)))), (m_known, .inl (cI, 12, .inl (fun j => nI (rgK Bo S fu Kd X K n r0 j)))), (m_reached, .inl (cZ, 12, .inl (fun j => bI (Re2 j)))), (m_way, .inl (cI, 13, .inl (fun j => nI (Wy2 j))))] t) A) ([.ref g0, .int (nI r0)]).toArray s 0 0 A) (F0 m 166 ls []) := by
                              intro k
                              induction k with
                              | zero =>
                                intro i ls hi hl
                                have hie : i = n := by omega
                                rw [hie] at hl
                                refine lv_iload hx hb d_Mo_ring_166 (lv_at hl 0 rfl) ?_
                                refine lv_aload_n hx hb d_Mo_ring_168 rfl (lv_at hl 5 rfl) ?_
                                refine va_get (D := D) (ci := 6) (v := .int (nI n)) (C := R_Mo) (T := T_Mo) (N := 24) hx hb hts hin_Mo hown hK hP 0 rfl rfl 1 (by decide) (hts _ wd_705) (fun _ h9 => h9) rfl d_Mo_ring_169 ?_
                                refine lv_icmp_ge (tgt := 237) hx hb d_Mo_ring_172 (by decide) (fun _ => ?_) (fun h0 => absurd (Int32.le_refl _) h0)
                                refine lv_iconst (v := 0) hx hb d_Mo_ring_237 (by decide) ?_
                                refine lv_istore (lv' := [(6, .int 0), (5, .int (bI (!anyB (fun c => mvs fu Kd c && decide (K c = 0) && !Rz c && Rz (X c)) n))), (4, .int (nI (itr X (itr X r0 kk) k2))), (3, .int (nI k2)), (2, .int (nI (itr X r0 kk))), (0, .ref g0), (1, .int (nI r0))]) hx hb d_Mo_ring_238 hl (by decide) rfl (fun ls hl => ?_)
                                cases hmy : anyB (fun c => mvs fu Kd c && decide (K c = 0) && !Rz c && Rz (X c)) n with
                                | true =>
                                  have eM2 : rgM Bo S fu Kd X K n r0 = false := by rw [eM, hmy]; simp
                                  have hl : lv_has ls 7 [(6, .int 0), (5, .int 0), (4, .int (nI (itr X (itr X r0 kk) k2))), (3, .int (nI k2)), (2, .int (nI (itr X r0 kk))), (0, .ref g0), (1, .int (nI r0))] := by rw [hmy] at hl; exact hl
                                  refine lv_iload hx hb d_Mo_ring_240 (lv_at hl 0 rfl) ?_
                                  refine lv_iload_n hx hb d_Mo_ring_242 rfl (lv_at hl 3 rfl) ?_
                                  refine lv_icmp_ge (tgt := 270) hx hb d_Mo_ring_243 (by decide) (fun hc30 => ?_) (fun hc30 => ?_)
                                  · -- 243 taken
                                    have hc30 : k2 ≤ 0 := (nI_leI (by omega) (by decide)).mp hc30
                                    refine lv_iload hx hb d_Mo_ring_270 (lv_at hl 1 rfl) ?_
                                    have hP9 := hP.sub (ws' := [(g0, .inr (6, [.int co, .int (nI n), .ref m_sea, .ref m_center, .ref m_home, .ref m_borders, .int mp, .int mt, .ref m_owner, .ref m_units, .ref m_kind, .ref m_toX, .ref m_toY, .ref m_results, .ref m_known, .ref m_reached, .ref m_way, .ref m_aside, .ref m_origin, .ref m_retreats, .ref m_contested, .ref m_moved, .int msh, .ref m_past])), (m_sea, .inl (cZ, 12, .inl (fun j => bI (S j)))), (m_borders, .inl (cZ, 144, .inl (fun j => bI (Bo j)))), (m_units, .inl (cI, 12, .inl fu)), (m_kind, .inl (cI, 12, .inl (fun j => nI (Kd j)))), (m_toX, .inl (cI, 12, .inl (fun j => nI (X j)))), (m_known, .inl (cI, 12, .inl (fun j => nI (K j)))), (m_reached, .inl (cZ, 12, .inl (fun j => bI (Rz j)))), (m_way, .inl (cI, 13, .inl (fun j => nI (Wz j))))]) [0, 1, 2, 3, 4, 5, 6, 7, 8] rfl
                                    have hD9 := hD.sub (ws' := [(g0, .inr (6, [.int co, .int (nI n), .ref m_sea, .ref m_center, .ref m_home, .ref m_borders, .int mp, .int mt, .ref m_owner, .ref m_units, .ref m_kind, .ref m_toX, .ref m_toY, .ref m_results, .ref m_known, .ref m_reached, .ref m_way, .ref m_aside, .ref m_origin, .ref m_retreats, .ref m_contested, .ref m_moved, .int msh, .ref m_past])), (m_sea, .inl (cZ, 12, .inl (fun j => bI (S j)))), (m_borders, .inl (cZ, 144, .inl (fun j => bI (Bo j)))), (m_units, .inl (cI, 12, .inl fu)), (m_kind, .inl (cI, 12, .inl (fun j => nI (Kd j)))), (m_toX, .inl (cI, 12, .inl (fun j => nI (X j)))), (m_known, .inl (cI, 12, .inl (fun j => nI (K j)))), (m_reached, .inl (cZ, 12, .inl (fun j => bI (Rz j)))), (m_way, .inl (cI, 13, .inl (fun j => nI (Wz j))))]) [0, 1, 2, 3, 4, 5, 6, 7, 8] (by decide) rfl
                                    have hP9 : va_P D vwCl [(g0, .inr (6, [.int co, .int (nI n), .ref m_sea, .ref m_center, .ref m_home, .ref m_borders, .int mp, .int mt, .ref m_owner, .ref m_units, .ref m_kind, .ref m_toX, .ref m_toY, .ref m_results, .ref m_known, .ref m_reached, .ref m_way, .ref m_aside, .ref m_origin, .ref m_retreats, .ref m_contested, .ref m_moved, .int msh, .ref m_past])), (m_sea, .inl (cZ, 12, .inl (fun j => bI (S j)))), (m_borders, .inl (cZ, 144, .inl (fun j => bI (Bo j)))), (m_units, .inl (cI, 12, .inl fu)), (m_kind, .inl (cI, 12, .inl (fun j => nI (Kd j)))), (m_toX, .inl (cI, 12, .inl (fun j => nI (X j)))), (m_known, .inl (cI, 12, .inl (fun j => nI (rgK Bo S fu Kd X K n r0 j)))), (m_reached, .inl (cZ, 12, .inl (fun j => bI (Rz j)))), (m_way, .inl (cI, 13, .inl (fun j => nI (Wz j))))] H := by rw [rgK_no eM2]; exact hP9
                                    have hD9 : va_D A [(g0, .inr (6, [.int co, .int (nI n), .ref m_sea, .ref m_center, .ref m_home, .ref m_borders, .int mp, .int mt, .ref m_owner, .ref m_units, .ref m_kind, .ref m_toX, .ref m_toY, .ref m_results, .ref m_known, .ref m_reached, .ref m_way, .ref m_aside, .ref m_origin, .ref m_retreats, .ref m_contested, .ref m_moved, .int msh, .ref m_past])), (m_sea, .inl (cZ, 12, .inl (fun j => bI (S j)))), (m_borders, .inl (cZ, 144, .inl (fun j => bI (Bo j)))), (m_units, .inl (cI, 12, .inl fu)), (m_kind, .inl (cI, 12, .inl (fun j => nI (Kd j)))), (m_toX, .inl (cI, 12, .inl (fun j => nI (X j)))), (m_known, .inl (cI, 12, .inl (fun j => nI (rgK Bo S fu Kd X K n r0 j)))), (m_reached, .inl (cZ, 12, .inl (fun j => bI (Rz j)))), (m_way, .inl (cI, 13, .inl (fun j => nI (Wz j))))] := by rw [rgK_no eM2]; exact hD9
                                    exact W.zret (v := 0) hx hb hr (by decide) (fun t ht hW => ⟨⟨0, (), rfl, (bI_f eM2).symm, Rz, Wz, by rw [ht]; exact hP9, hD9⟩, hS.F ht⟩) hS.2.2 d_Mo_ring_272
                                  · -- 243 not taken
                                    have hc30 : 0 < k2 := Nat.lt_of_not_le (fun h9 => hc30 ((nI_leI (by omega) (by decide)).mpr h9))
                                    refine lv_iload hx hb d_Mo_ring_246 (lv_at hl 1 rfl) ?_
                                    refine lv_if_eq (tgt := 270) hx hb d_Mo_ring_248 (by decide) (fun _ => ?_) (fun h0 => absurd (by decide) h0)
                                    refine lv_iload hx hb d_Mo_ring_270 (lv_at hl 1 rfl) ?_
                                    have hP9 := hP.sub (ws' := [(g0, .inr (6, [.int co, .int (nI n), .ref m_sea, .ref m_center, .ref m_home, .ref m_borders, .int mp, .int mt, .ref m_owner, .ref m_units, .ref m_kind, .ref m_toX, .ref m_toY, .ref m_results, .ref m_known, .ref m_reached, .ref m_way, .ref m_aside, .ref m_origin, .ref m_retreats, .ref m_contested, .ref m_moved, .int msh, .ref m_past])), (m_sea, .inl (cZ, 12, .inl (fun j => bI (S j)))), (m_borders, .inl (cZ, 144, .inl (fun j => bI (Bo j)))), (m_units, .inl (cI, 12, .inl fu)), (m_kind, .inl (cI, 12, .inl (fun j => nI (Kd j)))), (m_toX, .inl (cI, 12, .inl (fun j => nI (X j)))), (m_known, .inl (cI, 12, .inl (fun j => nI (K j)))), (m_reached, .inl (cZ, 12, .inl (fun j => bI (Rz j)))), (m_way, .inl (cI, 13, .inl (fun j => nI (Wz j))))]) [0, 1, 2, 3, 4, 5, 6, 7, 8] rfl
                                    have hD9 := hD.sub (ws' := [(g0, .inr (6, [.int co, .int (nI n), .ref m_sea, .ref m_center, .ref m_home, .ref m_borders, .int mp, .int mt, .ref m_owner, .ref m_units, .ref m_kind, .ref m_toX, .ref m_toY, .ref m_results, .ref m_known, .ref m_reached, .ref m_way, .ref m_aside, .ref m_origin, .ref m_retreats, .ref m_contested, .ref m_moved, .int msh, .ref m_past])), (m_sea, .inl (cZ, 12, .inl (fun j => bI (S j)))), (m_borders, .inl (cZ, 144, .inl (fun j => bI (Bo j)))), (m_units, .inl (cI, 12, .inl fu)), (m_kind, .inl (cI, 12, .inl (fun j => nI (Kd j)))), (m_toX, .inl (cI, 12, .inl (fun j => nI (X j)))), (m_known, .inl (cI, 12, .inl (fun j => nI (K j)))), (m_reached, .inl (cZ, 12, .inl (fun j => bI (Rz j)))), (m_way, .inl (cI, 13, .inl (fun j => nI (Wz j))))]) [0, 1, 2, 3, 4, 5, 6, 7, 8] (by decide) rfl
                                    have hP9 : va_P D vwCl [(g0, .inr (6, [.int co, .int (nI n), .ref m_sea, .ref m_center, .ref m_home, .ref m_borders, .int mp, .int mt, .ref m_owner, .ref m_units, .ref m_kind, .ref m_toX, .ref m_toY, .ref m_results, .ref m_known, .ref m_reached, .ref m_way, .ref m_aside, .ref m_origin, .ref m_retreats, .ref m_contested, .ref m_moved, .int msh, .ref m_past])), (m_sea, .inl (cZ, 12, .inl (fun j => bI (S j)))), (m_borders, .inl (cZ, 144, .inl (fun j => bI (Bo j)))), (m_units, .inl (cI, 12, .inl fu)), (m_kind, .inl (cI, 12, .inl (fun j => nI (Kd j)))), (m_toX, .inl (cI, 12, .inl (fun j => nI (X j)))), (m_known, .inl (cI, 12, .inl (fun j => nI (rgK Bo S fu Kd X K n r0 j)))), (m_reached, .inl (cZ, 12, .inl (fun j => bI (Rz j)))), (m_way, .inl (cI, 13, .inl (fun j => nI (Wz j))))] H := by rw [rgK_no eM2]; exact hP9
                                    have hD9 : va_D A [(g0, .inr (6, [.int co, .int (nI n), .ref m_sea, .ref m_center, .ref m_home, .ref m_borders, .int mp, .int mt, .ref m_owner, .ref m_units, .ref m_kind, .ref m_toX, .ref m_toY, .ref m_results, .ref m_known, .ref m_reached, .ref m_way, .ref m_aside, .ref m_origin, .ref m_retreats, .ref m_contested, .ref m_moved, .int msh, .ref m_past])), (m_sea, .inl (cZ, 12, .inl (fun j => bI (S j)))), (m_borders, .inl (cZ, 144, .inl (fun j => bI (Bo j)))), (m_units, .inl (cI, 12, .inl fu)), (m_kind, .inl (cI, 12, .inl (fun j => nI (Kd j)))), (m_toX, .inl (cI, 12, .inl (fun j => nI (X j)))), (m_known, .inl (cI, 12, .inl (fun j => nI (rgK Bo S fu Kd X K n r0 j)))), (m_reached, .inl (cZ, 12, .inl (fun j => bI (Rz j)))), (m_way, .inl (cI, 13, .inl (fun j => nI (Wz j))))] := by rw [rgK_no eM2]; exact hD9
                                    exact W.zret (v := 0) hx hb hr (by decide) (fun t ht hW => ⟨⟨0, (), rfl, (bI_f eM2).symm, Rz, Wz, by rw [ht]; exact hP9, hD9⟩, hS.F ht⟩) hS.2.2 d_Mo_ring_272
                                | false =>
                                  have eM2 : rgM Bo S fu Kd X K n r0 = true := by rw [eM, hmy, hb20]; rfl
                                  have hl : lv_has ls 7 [(6, .int 0), (5, .int 1), (4, .int (nI (itr X (itr X r0 kk) k2))), (3, .int (nI k2)), (2, .int (nI (itr X r0 kk))), (0, .ref g0), (1, .int (nI r0))] := by rw [hmy] at hl; exact hl
                                  have loop3 : ∀ (k i : Nat) (ls : Array Slot) (H : Heap) (locs : List Loc), i + k = k2 → lv_has ls 7 [(6, .int (nI i)), (5, .int 1), (4, .int (nI (itr X (itr X r0 kk) k2))), (3, .int (nI k2)), (2, .int (nI (itr X r0 kk))), (0, .ref g0), (1, .int (nI r0))] → va_P D vwCl [(g0, .inr (6, [.int co, .int (nI n), .ref m_sea, .ref m_center, .ref m_home, .ref m_borders, .int mp, .int mt, .ref m_owner, .ref m_units, .ref m_kind, .ref m_toX, .ref m_toY, .ref m_results, .ref m_known, .ref m_reached, .ref m_way, .ref m_aside, .ref m_origin, .ref m_retreats, .ref m_contested, .ref m_moved, .int msh, .ref m_past])), (m_sea, .inl (cZ, 12, .inl (fun j => bI (S j)))), (m_borders, .inl (cZ, 144, .inl (fun j => bI (Bo j)))), (m_units, .inl (cI, 12, .inl fu)), (m_kind, .inl (cI, 12, .inl (fun j => nI (Kd j)))), (m_toX, .inl (cI, 12, .inl (fun j => nI (X j)))), (m_known, .inl (cI, 12, .inl (fun j => nI (kwF K Wz i j)))), (m_reached, .inl (cZ, 12, .inl (fun j => bI (Rz j)))), (m_way, .inl (cI, 13, .inl (fun j => nI (Wz j))))] H → va_D A [(g0, .inr (6, [.int co, .int (nI n), .ref m_sea, .ref m_center, .ref m_home, .ref m_borders, .int mp, .int mt, .ref m_owner, .ref m_units, .ref m_kind, .ref m_toX, .ref m_toY, .ref m_results, .ref m_known, .ref m_reached, .ref m_way, .ref m_aside, .ref m_origin, .ref m_retreats, .ref m_contested, .ref m_moved, .int msh, .ref m_past])), (m_sea, .inl (cZ, 12, .inl (fun j => bI (S j)))), (m_borders, .inl (cZ, 144, .inl (fun j => bI (Bo j)))), (m_units, .inl (cI, 12, .inl fu)), (m_kind, .inl (cI, 12, .inl (fun j => nI (Kd j)))), (m_toX, .inl (cI, 12, .inl (fun j => nI (X j)))), (m_known, .inl (cI, 12, .inl (fun j => nI (kwF K Wz i j)))), (m_reached, .inl (cZ, 12, .inl (fun j => bI (Rz j)))), (m_way, .inl (cI, 13, .inl (fun j => nI (Wz j))))] → va_S A s.heap H locs → W p l e (headSpec w_Mo_ring ({ frames := 4, cells := 0, slots := 0, locals := 88 })).room s m ([.ref g0, .int (nI r0)]).toArray below meth c H locs 0 0 (MQ below (va_Qi (fun (r : Int32) (_ : Unit) => r = bI (rgM Bo S fu Kd X K n r0)) (fun _ t => ∃ (Re2 : Nat → Bool) (Wy2 : Nat → Nat), tB D A [(g0, .inr (6, [.int co, .int (nI n), .ref m_sea, .ref m_center, .ref m_home, .ref m_borders, .int mp, .int mt, .ref m_owner, .ref m_units, .ref m_kind, .ref m_toX, .ref m_toY, .ref m_results, .ref m_known, .ref m_reached, .ref m_way, .ref m_aside, .ref m_origin, .ref m_retreats, .ref m_contested, .ref m_moved, .int msh, .ref m_past])), (m_sea, .inl (cZ, 12, .inl (fun j => bI (S j)))), (m_borders, .inl (cZ, 144, .inl (fun j => bI (Bo j)))), (m_units, .inl (cI, 12, .inl fu)), (m_kind, .inl (cI, 12, .inl (fun j => nI (Kd j)))), (m_toX, .inl (cI, 12, .inl (fun j => nI (X j)))), (m_known, .inl (cI, 12, .inl (fun j => nI (rgK Bo S fu Kd X K n r0 j)))), (m_reached, .inl (cZ, 12, .inl (fun j => bI (Re2 j)))), (m_way, .inl (cI, 13, .inl (fun j => nI (Wy2 j))))] t) A) ([.ref g0, .int (nI r0)]).toArray s 0 0 A) (F0 m 240 ls []) := by
                                    intro k
                                    induction k with
                                    | zero =>
                                      intro i ls H locs hi hl hP hD hS
                                      have hie : i = k2 := by omega
                                      rw [hie] at hl hP hD
                                      refine lv_iload hx hb d_Mo_ring_240 (lv_at hl 0 rfl) ?_
                                      refine lv_iload_n hx hb d_Mo_ring_242 rfl (lv_at hl 3 rfl) ?_
                                      refine lv_icmp_ge (tgt := 270) hx hb d_Mo_ring_243 (by decide) (fun _ => ?_) (fun h0 => absurd (Int32.le_refl _) h0)
                                      refine lv_iload hx hb d_Mo_ring_270 (lv_at hl 1 rfl) ?_
                                      have hP9 := hP.sub (ws' := [(g0, .inr (6, [.int co, .int (nI n), .ref m_sea, .ref m_center, .ref m_home, .ref m_borders, .int mp, .int mt, .ref m_owner, .ref m_units, .ref m_kind, .ref m_toX, .ref m_toY, .ref m_results, .ref m_known, .ref m_reached, .ref m_way, .ref m_aside, .ref m_origin, .ref m_retreats, .ref m_contested, .ref m_moved, .int msh, .ref m_past])), (m_sea, .inl (cZ, 12, .inl (fun j => bI (S j)))), (m_borders, .inl (cZ, 144, .inl (fun j => bI (Bo j)))), (m_units, .inl (cI, 12, .inl fu)), (m_kind, .inl (cI, 12, .inl (fun j => nI (Kd j)))), (m_toX, .inl (cI, 12, .inl (fun j => nI (X j)))), (m_known, .inl (cI, 12, .inl (fun j => nI (kwF K Wz k2 j)))), (m_reached, .inl (cZ, 12, .inl (fun j => bI (Rz j)))), (m_way, .inl (cI, 13, .inl (fun j => nI (Wz j))))]) [0, 1, 2, 3, 4, 5, 6, 7, 8] rfl
                                      have hD9 := hD.sub (ws' := [(g0, .inr (6, [.int co, .int (nI n), .ref m_sea, .ref m_center, .ref m_home, .ref m_borders, .int mp, .int mt, .ref m_owner, .ref m_units, .ref m_kind, .ref m_toX, .ref m_toY, .ref m_results, .ref m_known, .ref m_reached, .ref m_way, .ref m_aside, .ref m_origin, .ref m_retreats, .ref m_contested, .ref m_moved, .int msh, .ref m_past])), (m_sea, .inl (cZ, 12, .inl (fun j => bI (S j)))), (m_borders, .inl (cZ, 144, .inl (fun j => bI (Bo j)))), (m_units, .inl (cI, 12, .inl fu)), (m_kind, .inl (cI, 12, .inl (fun j => nI (Kd j)))), (m_toX, .inl (cI, 12, .inl (fun j => nI (X j)))), (m_known, .inl (cI, 12, .inl (fun j => nI (kwF K Wz k2 j)))), (m_reached, .inl (cZ, 12, .inl (fun j => bI (Rz j)))), (m_way, .inl (cI, 13, .inl (fun j => nI (Wz j))))]) [0, 1, 2, 3, 4, 5, 6, 7, 8] (by decide) rfl
                                      have eK := rg_K hXa hr0 hn hI hbR hI2 hb16 hW eM2
                                      have hP9 : va_P D vwCl [(g0, .inr (6, [.int co, .int (nI n), .ref m_sea, .ref m_center, .ref m_home, .ref m_borders, .int mp, .int mt, .ref m_owner, .ref m_units, .ref m_kind, .ref m_toX, .ref m_toY, .ref m_results, .ref m_known, .ref m_reached, .ref m_way, .ref m_aside, .ref m_origin, .ref m_retreats, .ref m_contested, .ref m_moved, .int msh, .ref m_past])), (m_sea, .inl (cZ, 12, .inl (fun j => bI (S j)))), (m_borders, .inl (cZ, 144, .inl (fun j => bI (Bo j)))), (m_units, .inl (cI, 12, .inl fu)), (m_kind, .inl (cI, 12, .inl (fun j => nI (Kd j)))), (m_toX, .inl (cI, 12, .inl (fun j => nI (X j)))), (m_known, .inl (cI, 12, .inl (fun j => nI (rgK Bo S fu Kd X K n r0 j)))), (m_reached, .inl (cZ, 12, .inl (fun j => bI (Rz j)))), (m_way, .inl (cI, 13, .inl (fun j => nI (Wz j))))] H := by rw [← eK]; exact hP9
                                      have hD9 : va_D A [(g0, .inr (6, [.int co, .int (nI n), .ref m_sea, .ref m_center, .ref m_home, .ref m_borders, .int mp, .int mt, .ref m_owner, .ref m_units, .ref m_kind, .ref m_toX, .ref m_toY, .ref m_results, .ref m_known, .ref m_reached, .ref m_way, .ref m_aside, .ref m_origin, .ref m_retreats, .ref m_contested, .ref m_moved, .int msh, .ref m_past])), (m_sea, .inl (cZ, 12, .inl (fun j => bI (S j)))), (m_borders, .inl (cZ, 144, .inl (fun j => bI (Bo j)))), (m_units, .inl (cI, 12, .inl fu)), (m_kind, .inl (cI, 12, .inl (fun j => nI (Kd j)))), (m_toX, .inl (cI, 12, .inl (fun j => nI (X j)))), (m_known, .inl (cI, 12, .inl (fun j => nI (rgK Bo S fu Kd X K n r0 j)))), (m_reached, .inl (cZ, 12, .inl (fun j => bI (Rz j)))), (m_way, .inl (cI, 13, .inl (fun j => nI (Wz j))))] := by rw [← eK]; exact hD9
                                      exact W.zret (v := 1) hx hb hr (by decide) (fun t ht hW => ⟨⟨1, (), rfl, (bI_t eM2).symm, Rz, Wz, by rw [ht]; exact hP9, hD9⟩, hS.F ht⟩) hS.2.2 d_Mo_ring_272
                                    | succ k ih =>
                                      intro i ls H locs hi hl hP hD hS
                                      have hlt : i < k2 := by omega
                                      have hlt12 : i < 12 := by omega
                                      refine lv_iload hx hb d_Mo_ring_240 (lv_at hl 0 rfl) ?_
                                      refine lv_iload_n hx hb d_Mo_ring_242 rfl (lv_at hl 3 rfl) ?_
                                      refine lv_icmp_ge (tgt := 270) hx hb d_Mo_ring_243 (by decide) (fun h0 => absurd h0 (nI_ge hlt (by omega))) (fun _ => ?_)
                                      refine lv_iload hx hb d_Mo_ring_246 (lv_at hl 1 rfl) ?_
                                      refine lv_if_eq (tgt := 270) hx hb d_Mo_ring_248 (by decide) (fun h0 => absurd h0 (by decide)) (fun _ => ?_)
                                      refine lv_aload_n hx hb d_Mo_ring_251 rfl (lv_at hl 5 rfl) ?_
                                      refine va_get (D := D) (ci := 6) (v := .ref m_known) (C := R_Mo) (T := T_Mo) (N := 24) hx hb hts hin_Mo hown hK hP 0 rfl rfl 14 (by decide) (hts _ wd_718) (fun _ h9 => h9) rfl d_Mo_ring_252 ?_
                                      refine lv_aload_n hx hb d_Mo_ring_255 rfl (lv_at hl 5 rfl) ?_
                                      refine va_get (D := D) (ci := 6) (v := .ref m_way) (C := R_Mo) (T := T_Mo) (N := 24) hx hb hts hin_Mo hown hK hP 0 rfl rfl 16 (by decide) (hts _ wd_720) (fun _ h9 => h9) rfl d_Mo_ring_256 ?_
                                      refine lv_iload hx hb d_Mo_ring_259 (lv_at hl 0 rfl) ?_
                                      refine tr_iald (v := nI (Wz i)) hx hb hK hP 8 0 rfl rfl i (Nat.lt_of_lt_of_le hlt12 (by decide)) (by decide) rfl d_Mo_ring_261 ?_
                                      have hwi : Wz i < 12 := by rw [hW i hlt]; exact Nat.lt_of_lt_of_le (itr_lt hXa hit i) hn
                                      refine lv_iconst (v := 1) hx hb d_Mo_ring_262 (by decide) ?_
                                      refine tr_iast (g := fun j => nI (upN (fun j => kwF K Wz i j) (Wz i) 1 j)) hx hb hK hP hD hS 6 0 rfl rfl (Wz i) hwi (by decide) (upN_I (fun j => kwF K Wz i j) (Wz i) 1) d_Mo_ring_263 (fun H locs hP hD hS => ?_)
                                      have hP : va_P D vwCl [(g0, .inr (6, [.int co, .int (nI n), .ref m_sea, .ref m_center, .ref m_home, .ref m_borders, .int mp, .int mt, .ref m_owner, .ref m_units, .ref m_kind, .ref m_toX, .ref m_toY, .ref m_results, .ref m_known, .ref m_reached, .ref m_way, .ref m_aside, .ref m_origin, .ref m_retreats, .ref m_contested, .ref m_moved, .int msh, .ref m_past])), (m_sea, .inl (cZ, 12, .inl (fun j => bI (S j)))), (m_borders, .inl (cZ, 144, .inl (fun j => bI (Bo j)))), (m_units, .inl (cI, 12, .inl fu)), (m_kind, .inl (cI, 12, .inl (fun j => nI (Kd j)))), (m_toX, .inl (cI, 12, .inl (fun j => nI (X j)))), (m_known, .inl (cI, 12, .inl (fun j => nI (upN (fun j => kwF K Wz i j) (Wz i) 1 j)))), (m_reached, .inl (cZ, 12, .inl (fun j => bI (Rz j)))), (m_way, .inl (cI, 13, .inl (fun j => nI (Wz j))))] H := hP
                                      have hD : va_D A [(g0, .inr (6, [.int co, .int (nI n), .ref m_sea, .ref m_center, .ref m_home, .ref m_borders, .int mp, .int mt, .ref m_owner, .ref m_units, .ref m_kind, .ref m_toX, .ref m_toY, .ref m_results, .ref m_known, .ref m_reached, .ref m_way, .ref m_aside, .ref m_origin, .ref m_retreats, .ref m_contested, .ref m_moved, .int msh, .ref m_past])), (m_sea, .inl (cZ, 12, .inl (fun j => bI (S j)))), (m_borders, .inl (cZ, 144, .inl (fun j => bI (Bo j)))), (m_units, .inl (cI, 12, .inl fu)), (m_kind, .inl (cI, 12, .inl (fun j => nI (Kd j)))), (m_toX, .inl (cI, 12, .inl (fun j => nI (X j)))), (m_known, .inl (cI, 12, .inl (fun j => nI (upN (fun j => kwF K Wz i j) (Wz i) 1 j)))), (m_reached, .inl (cZ, 12, .inl (fun j => bI (Rz j)))), (m_way, .inl (cI, 13, .inl (fun j => nI (Wz j))))] := hD
                                      refine lv_iinc (lv' := [(6, .int ((nI i) + 1)), (5, .int 1), (4, .int (nI (itr X (itr X r0 kk) k2))), (3, .int (nI k2)), (2, .int (nI (itr X r0 kk))), (0, .ref g0), (1, .int (nI r0))]) hx hb d_Mo_ring_264 hl (k := 0) rfl rfl (by decide) rfl (fun ls hl => ?_)
                                      refine lv_goto (tgt := 240) hx hb d_Mo_ring_267 (by decide) ?_
                                      have e35 : (nI i) + 1 = nI (i + 1) := nI_1 i
                                      have eo36 : (fun j => nI (upN (fun j => kwF K Wz i j) (Wz i) 1 j)) = (fun j => nI (kwF K Wz (i + 1) j)) := kwF_s K Wz i
                                      exact ih (i + 1) ls H locs (by omega) (by rw [← e35]; exact lv_sub hl [0, 1, 2, 3, 4, 5, 6] rfl) (by rw [← eo36]; exact hP) (by rw [← eo36]; exact hD) hS
                                  have ei37 : (fun j => nI (kwF K Wz 0 j)) = (fun j => nI (K j)) := kwF_0 K Wz
                                  exact loop3 k2 0 ls _ _ (Nat.zero_add _) hl (by rw [ei37]; exact hP) (by rw [ei37]; exact hD) hS
                              | succ k ih =>
                                intro i ls hi hl
                                have hlt : i < n := by omega
                                have hlt12 : i < 12 := by omega
                                refine lv_iload hx hb d_Mo_ring_166 (lv_at hl 0 rfl) ?_
                                refine lv_aload_n hx hb d_Mo_ring_168 rfl (lv_at hl 5 rfl) ?_
                                refine va_get (D := D) (ci := 6) (v := .int (nI n)) (C := R_Mo) (T := T_Mo) (N := 24) hx hb hts hin_Mo hown hK hP 0 rfl rfl 1 (by decide) (hts _ wd_705) (fun _ h9 => h9) rfl d_Mo_ring_169 ?_
                                refine lv_icmp_ge (tgt := 237) hx hb d_Mo_ring_172 (by decide) (fun h0 => absurd h0 (nI_ge hlt (by omega))) (fun _ => ?_)
                                refine lv_iload hx hb d_Mo_ring_175 (lv_at hl 1 rfl) ?_
                                rcases bI_c (!anyB (fun c => mvs fu Kd c && decide (K c = 0) && !Rz c && Rz (X c)) i) with ⟨hb40, e9⟩ | ⟨hb40, e9⟩
                                · refine tr_top e9 ?_
                                  refine lv_if_eq (tgt := 228) hx hb d_Mo_ring_177 (by decide) (fun h0 => absurd h0 (by decide)) (fun _ => ?_)
                                  refine lv_aload_n hx hb d_Mo_ring_180 rfl (lv_at hl 5 rfl) ?_
                                  refine lv_iload hx hb d_Mo_ring_181 (lv_at hl 0 rfl) ?_
                                  have hPc := hP.sub (ws' := [(g0, .inr (6, [.int co, .int (nI n), .ref m_sea, .ref m_center, .ref m_home, .ref m_borders, .int mp, .int mt, .ref m_owner, .ref m_units, .ref m_kind, .ref m_toX, .ref m_toY, .ref m_results, .ref m_known, .ref m_reached, .ref m_way, .ref m_aside, .ref m_origin, .ref m_retreats, .ref m_contested, .ref m_moved, .int msh, .ref m_past])), (m_units, .inl (cI, 12, .inl fu)), (m_kind, .inl (cI, 12, .inl (fun j => nI (Kd j))))]) [0, 3, 4] rfl
                                  refine vp_callSi (va_Run.run (va_runV (As := [.int (nI i)]) (rest := []) ⟨hx, hb, hml, hown, hts⟩ (c_Mo_moves l D cI cZ cJ cS aT ceT  g0 m_sea m_center m_home m_borders m_owner m_units m_kind m_toX m_toY m_results m_known m_reached m_way m_aside m_origin m_retreats m_contested m_moved m_past n co mp mt msh fu Kd i hKd hlt12) (cwV 1 hts (tb_4 wd_853 wd_855 wp_47 wd_8 (tb_c wd_856)) rfl rfl rfl ⟨rfl, by decide, by decide, by decide +kernel⟩ ⟨Nat.le_of_ble_eq_true rfl, Nat.le_of_ble_eq_true rfl⟩) (tP_V hK hX (hS.2.1 aT hXl hXn) hPc (q := 0) rfl rfl) rfl rfl hl.1 rfl (lv_room (Nat.le_of_ble_eq_true rfl)) d_Mo_ring_183 ⟨Nat.le_of_ble_eq_true rfl, Nat.le_of_ble_eq_true rfl⟩)) (fun r42 hr9 => ?_)
                                  rw [hr9]
                                  rcases bI_c (mvs fu Kd i) with ⟨hb44, e9⟩ | ⟨hb44, e9⟩
                                  · refine tr_top e9 ?_
                                    refine lv_if_eq (tgt := 224) hx hb d_Mo_ring_186 (by decide) (fun h0 => absurd h0 (by decide)) (fun _ => ?_)
                                    refine lv_aload_n hx hb d_Mo_ring_189 rfl (lv_at hl 5 rfl) ?_
                                    refine va_get (D := D) (ci := 6) (v := .ref m_known) (C := R_Mo) (T := T_Mo) (N := 24) hx hb hts hin_Mo hown hK hP 0 rfl rfl 14 (by decide) (hts _ wd_718) (fun _ h9 => h9) rfl d_Mo_ring_190 ?_
                                    refine lv_iload hx hb d_Mo_ring_193 (lv_at hl 0 rfl) ?_
                                    refine tr_iald (v := nI (K i)) hx hb hK hP 6 0 rfl rfl i hlt12 (by decide) rfl d_Mo_ring_195 ?_
                                    refine lv_if_ne (tgt := 224) hx hb d_Mo_ring_196 (by decide) (fun hc46 => ?_) (fun hc46 => ?_)
                                    · -- 196 taken
                                      have hc46 : ¬ K i = 0 := fun h9 => hc46 (congrArg nI h9)
                                      refine lv_iconst (v := 1) hx hb d_Mo_ring_224 (by decide) ?_
                                      refine lv_goto (tgt := 229) hx hb d_Mo_ring_225 (by decide) ?_
                                      refine lv_istore (lv' := [(5, .int 1), (6, .int (nI i)), (4, .int (nI (itr X (itr X r0 kk) k2))), (3, .int (nI k2)), (2, .int (nI (itr X r0 kk))), (0, .ref g0), (1, .int (nI r0))]) hx hb d_Mo_ring_229 hl (by decide) rfl (fun ls hl => ?_)
                                      refine lv_iinc (lv' := [(6, .int ((nI i) + 1)), (5, .int 1), (4, .int (nI (itr X (itr X r0 kk) k2))), (3, .int (nI k2)), (2, .int (nI (itr X r0 kk))), (0, .ref g0), (1, .int (nI r0))]) hx hb d_Mo_ring_231 hl (k := 1) rfl rfl (by decide) rfl (fun ls hl => ?_)
                                      refine lv_goto (tgt := 166) hx hb d_Mo_ring_234 (by decide) ?_
                                      have e47 : (nI i) + 1 = nI (i + 1) := nI_1 i
                                      have e48 : 1 = bI (!anyB (fun c => mvs fu Kd c && decide (K c = 0) && !Rz c && Rz (X c)) (i + 1)) := (bI_t (show (!(anyB (fun c => mvs fu Kd c && decide (K c = 0) && !Rz c && Rz (X c)) i || (mvs fu Kd i && decide (K i = 0) && !Rz i && Rz (X i)))) = true by simp [hb4, hc6, hb10, hb16, hb20, hb40, hb44, hc46])).symm
                                      exact ih (i + 1) ls (by omega) (by rw [← e47, ← e48]; exact lv_sub hl [0, 1, 2, 3, 4, 5, 6] rfl)
                                    · -- 196 not taken
                                      have hc46 : K i = 0 := (nI_lit (Nat.lt_trans (hK9 _) (by decide)) (by decide)).mp hc46
                                      refine lv_aload_n hx hb d_Mo_ring_199 rfl (lv_at hl 5 rfl) ?_
                                      refine va_get (D := D) (ci := 6) (v := .ref m_reached) (C := R_Mo) (T := T_Mo) (N := 24) hx hb hts hin_Mo hown hK hP 0 rfl rfl 15 (by decide) (hts _ wd_719) (fun _ h9 => h9) rfl d_Mo_ring_200 ?_
                                      refine lv_iload hx hb d_Mo_ring_203 (lv_at hl 0 rfl) ?_
                                      refine tr_zald (v := bI (Rz i)) hx hb hK hP 7 1 rfl rfl i hlt12 (by decide) rfl d_Mo_ring_205 ?_
                                      rcases bI_c (Rz i) with ⟨hb50, e9⟩ | ⟨hb50, e9⟩
                                      · refine tr_top e9 ?_
                                        refine lv_if_ne (tgt := 224) hx hb d_Mo_ring_206 (by decide) (fun _ => ?_) (fun h0 => absurd h0 (by decide))
                                        refine lv_iconst (v := 1) hx hb d_Mo_ring_224 (by decide) ?_
                                        refine lv_goto (tgt := 229) hx hb d_Mo_ring_225 (by decide) ?_
                                        refine lv_istore (lv' := [(5, .int 1), (6, .int (nI i)), (4, .int (nI (itr X (itr X r0 kk) k2))), (3, .int (nI k2)), (2, .int (nI (itr X r0 kk))), (0, .ref g0), (1, .int (nI r0))]) hx hb d_Mo_ring_229 hl (by decide) rfl (fun ls hl => ?_)
                                        refine lv_iinc (lv' := [(6, .int ((nI i) + 1)), (5, .int 1), (4, .int (nI (itr X (itr X r0 kk) k2))), (3, .int (nI k2)), (2, .int (nI (itr X r0 kk))), (0, .ref g0), (1, .int (nI r0))]) hx hb d_Mo_ring_231 hl (k := 1) rfl rfl (by decide) rfl (fun ls hl => ?_)
                                        refine lv_goto (tgt := 166) hx hb d_Mo_ring_234 (by decide) ?_
                                        have e52 : (nI i) + 1 = nI (i + 1) := nI_1 i
                                        have e53 : 1 = bI (!anyB (fun c => mvs fu Kd c && decide (K c = 0) && !Rz c && Rz (X c)) (i + 1)) := (bI_t (show (!(anyB (fun c => mvs fu Kd c && decide (K c = 0) && !Rz c && Rz (X c)) i || (mvs fu Kd i && decide (K i = 0) && !Rz i && Rz (X i)))) = true by simp [hb4, hc6, hb10, hb16, hb20, hb40, hb44, hc46, hb50])).symm
                                        exact ih (i + 1) ls (by omega) (by rw [← e52, ← e53]; exact lv_sub hl [0, 1, 2, 3, 4, 5, 6] rfl)
                                      · refine tr_top e9 ?_
                                        refine lv_if_ne (tgt := 224) hx hb d_Mo_ring_206 (by decide) (fun h0 => absurd (by decide) h0) (fun _ => ?_)
                                        refine lv_aload_n hx hb d_Mo_ring_209 rfl (lv_at hl 5 rfl) ?_
                                        refine va_get (D := D) (ci := 6) (v := .ref m_reached) (C := R_Mo) (T := T_Mo) (N := 24) hx hb hts hin_Mo hown hK hP 0 rfl rfl 15 (by decide) (hts _ wd_719) (fun _ h9 => h9) rfl d_Mo_ring_210 ?_
                                        refine lv_aload_n hx hb d_Mo_ring_213 rfl (lv_at hl 5 rfl) ?_
                                        refine va_get (D := D) (ci := 6) (v := .ref m_toX) (C := R_Mo) (T := T_Mo) (N := 24) hx hb hts hin_Mo hown hK hP 0 rfl rfl 11 (by decide) (hts _ wd_715) (fun _ h9 => h9) rfl d_Mo_ring_214 ?_
                                        refine lv_iload hx hb d_Mo_ring_217 (lv_at hl 0 rfl) ?_
                                        refine tr_iald (v := nI (X i)) hx hb hK hP 5 0 rfl rfl i hlt12 (by decide) rfl d_Mo_ring_219 ?_
                                        refine tr_zald (v := bI (Rz (X i))) hx hb hK hP 7 1 rfl rfl (X i) (hX9 _) (by decide) rfl d_Mo_ring_220 ?_
                                        rcases bI_c (Rz (X i)) with ⟨hb56, e9⟩ | ⟨hb56, e9⟩
                                        · refine tr_top e9 ?_
                                          refine lv_if_ne (tgt := 228) hx hb d_Mo_ring_221 (by decide) (fun _ => ?_) (fun h0 => absurd h0 (by decide))
                                          refine lv_iconst (v := 0) hx hb d_Mo_ring_228 (by decide) ?_
                                          refine lv_istore (lv' := [(5, .int 0), (6, .int (nI i)), (4, .int (nI (itr X (itr X r0 kk) k2))), (3, .int (nI k2)), (2, .int (nI (itr X r0 kk))), (0, .ref g0), (1, .int (nI r0))]) hx hb d_Mo_ring_229 hl (by decide) rfl (fun ls hl => ?_)
                                          refine lv_iinc (lv' := [(6, .int ((nI i) + 1)), (5, .int 0), (4, .int (nI (itr X (itr X r0 kk) k2))), (3, .int (nI k2)), (2, .int (nI (itr X r0 kk))), (0, .ref g0), (1, .int (nI r0))]) hx hb d_Mo_ring_231 hl (k := 1) rfl rfl (by decide) rfl (fun ls hl => ?_)
                                          refine lv_goto (tgt := 166) hx hb d_Mo_ring_234 (by decide) ?_
                                          have e58 : (nI i) + 1 = nI (i + 1) := nI_1 i
                                          have e59 : 0 = bI (!anyB (fun c => mvs fu Kd c && decide (K c = 0) && !Rz c && Rz (X c)) (i + 1)) := (bI_f (show (!(anyB (fun c => mvs fu Kd c && decide (K c = 0) && !Rz c && Rz (X c)) i || (mvs fu Kd i && decide (K i = 0) && !Rz i && Rz (X i)))) = false by simp [hb4, hc6, hb10, hb16, hb20, hb40, hb44, hc46, hb50, hb56])).symm
                                          exact ih (i + 1) ls (by omega) (by rw [← e58, ← e59]; exact lv_sub hl [0, 1, 2, 3, 4, 5, 6] rfl)
                                        · refine tr_top e9 ?_
                                          refine lv_if_ne (tgt := 228) hx hb d_Mo_ring_221 (by decide) (fun h0 => absurd (by decide) h0) (fun _ => ?_)
                                          refine lv_iconst (v := 1) hx hb d_Mo_ring_224 (by decide) ?_
                                          refine lv_goto (tgt := 229) hx hb d_Mo_ring_225 (by decide) ?_
                                          refine lv_istore (lv' := [(5, .int 1), (6, .int (nI i)), (4, .int (nI (itr X (itr X r0 kk) k2))), (3, .int (nI k2)), (2, .int (nI (itr X r0 kk))), (0, .ref g0), (1, .int (nI r0))]) hx hb d_Mo_ring_229 hl (by decide) rfl (fun ls hl => ?_)
                                          refine lv_iinc (lv' := [(6, .int ((nI i) + 1)), (5, .int 1), (4, .int (nI (itr X (itr X r0 kk) k2))), (3, .int (nI k2)), (2, .int (nI (itr X r0 kk))), (0, .ref g0), (1, .int (nI r0))]) hx hb d_Mo_ring_231 hl (k := 1) rfl rfl (by decide) rfl (fun ls hl => ?_)
                                          refine lv_goto (tgt := 166) hx hb d_Mo_ring_234 (by decide) ?_
                                          have e61 : (nI i) + 1 = nI (i + 1) := nI_1 i
                                          have e62 : 1 = bI (!anyB (fun c => mvs fu Kd c && decide (K c = 0) && !Rz c && Rz (X c)) (i + 1)) := (bI_t (show (!(anyB (fun c => mvs fu Kd c && decide (K c = 0) && !Rz c && Rz (X c)) i || (mvs fu Kd i && decide (K i = 0) && !Rz i && Rz (X i)))) = true by simp [hb4, hc6, hb10, hb16, hb20, hb40, hb44, hc46, hb50, hb56])).symm
                                          exact ih (i + 1) ls (by omega) (by rw [← e61, ← e62]; exact lv_sub hl [0, 1, 2, 3, 4, 5, 6] rfl)
                                  · refine tr_top e9 ?_
                                    refine lv_if_eq (tgt := 224) hx hb d_Mo_ring_186 (by decide) (fun _ => ?_) (fun h0 => absurd (by decide) h0)
                                    refine lv_iconst (v := 1) hx hb d_Mo_ring_224 (by decide) ?_
                                    refine lv_goto (tgt := 229) hx hb d_Mo_ring_225 (by decide) ?_
                                    refine lv_istore (lv' := [(5, .int 1), (6, .int (nI i)), (4, .int (nI (itr X (itr X r0 kk) k2))), (3, .int (nI k2)), (2, .int (nI (itr X r0 kk))), (0, .ref g0), (1, .int (nI r0))]) hx hb d_Mo_ring_229 hl (by decide) rfl (fun ls hl => ?_)
                                    refine lv_iinc (lv' := [(6, .int ((nI i) + 1)), (5, .int 1), (4, .int (nI (itr X (itr X r0 kk) k2))), (3, .int (nI k2)), (2, .int (nI (itr X r0 kk))), (0, .ref g0), (1, .int (nI r0))]) hx hb d_Mo_ring_231 hl (k := 1) rfl rfl (by decide) rfl (fun ls hl => ?_)
                                    refine lv_goto (tgt := 166) hx hb d_Mo_ring_234 (by decide) ?_
                                    have e64 : (nI i) + 1 = nI (i + 1) := nI_1 i
                                    have e65 : 1 = bI (!anyB (fun c => mvs fu Kd c && decide (K c = 0) && !Rz c && Rz (X c)) (i + 1)) := (bI_t (show (!(anyB (fun c => mvs fu Kd c && decide (K c = 0) && !Rz c && Rz (X c)) i || (mvs fu Kd i && decide (K i = 0) && !Rz i && Rz (X i)))) = true by simp [hb4, hc6, hb10, hb16, hb20, hb40, hb44])).symm
                                    exact ih (i + 1) ls (by omega) (by rw [← e64, ← e65]; exact lv_sub hl [0, 1, 2, 3, 4, 5, 6] rfl)
                                · refine tr_top e9 ?_
                                  refine lv_if_eq (tgt := 228) hx hb d_Mo_ring_177 (by decide) (fun _ => ?_) (fun h0 => absurd (by decide) h0)
                                  refine lv_iconst (v := 0) hx hb d_Mo_ring_228 (by decide) ?_
                                  refine lv_istore (lv' := [(5, .int 0), (6, .int (nI i)), (4, .int (nI (itr X (itr X r0 kk) k2))), (3, .int (nI k2)), (2, .int (nI (itr X r0 kk))), (0, .ref g0), (1, .int (nI r0))]) hx hb d_Mo_ring_229 hl (by decide) rfl (fun ls hl => ?_)
                                  refine lv_iinc (lv' := [(6, .int ((nI i) + 1)), (5, .int 0), (4, .int (nI (itr X (itr X r0 kk) k2))), (3, .int (nI k2)), (2, .int (nI (itr X r0 kk))), (0, .ref g0), (1, .int (nI r0))]) hx hb d_Mo_ring_231 hl (k := 1) rfl rfl (by decide) rfl (fun ls hl => ?_)
                                  refine lv_goto (tgt := 166) hx hb d_Mo_ring_234 (by decide) ?_
                                  have e67 : (nI i) + 1 = nI (i + 1) := nI_1 i
                                  have e68 : 0 = bI (!anyB (fun c => mvs fu Kd c && decide (K c = 0) && !Rz c && Rz (X c)) (i + 1)) := (bI_f (show (!(anyB (fun c => mvs fu Kd c && decide (K c = 0) && !Rz c && Rz (X c)) i || (mvs fu Kd i && decide (K i = 0) && !Rz i && Rz (X i)))) = false by simp [hb4, hc6, hb10, hb16, hb20, hb40])).symm
                                  exact ih (i + 1) ls (by omega) (by rw [← e67, ← e68]; exact lv_sub hl [0, 1, 2, 3, 4, 5, 6] rfl)
                            exact loop n 0 ls (Nat.zero_add _) hl
                        · refine tr_top e9 ?_
                          refine lv_if_ne (tgt := 148) hx hb d_Mo_ring_114 (by decide) (fun h0 => absurd (by decide) h0) (fun _ => ?_)
                          refine lv_aload_n hx hb d_Mo_ring_117 rfl (lv_at hl 3 rfl) ?_
                          refine va_get (D := D) (ci := 6) (v := .ref m_reached) (C := R_Mo) (T := T_Mo) (N := 24) hx hb hts hin_Mo hown hK hP 0 rfl rfl 15 (by decide) (hts _ wd_719) (fun _ h9 => h9) rfl d_Mo_ring_118 ?_
                          refine lv_iload hx hb d_Mo_ring_121 (lv_at hl 0 rfl) ?_
                          refine lv_iconst (v := 1) hx hb d_Mo_ring_123 (by decide) ?_
                          refine tr_zast (g := fun j => bI (upB Rz (itr X (itr X r0 kk) k2) true j)) hx hb hK hP hD hS 7 1 rfl rfl (itr X (itr X r0 kk) k2) hit212 (by decide) (upB_I Rz (itr X (itr X r0 kk) k2) true) d_Mo_ring_124 (fun H locs hP hD hS => ?_)
                          have hP : va_P D vwCl [(g0, .inr (6, [.int co, .int (nI n), .ref m_sea, .ref m_center, .ref m_home, .ref m_borders, .int mp, .int mt, .ref m_owner, .ref m_units, .ref m_kind, .ref m_toX, .ref m_toY, .ref m_results, .ref m_known, .ref m_reached, .ref m_way, .ref m_aside, .ref m_origin, .ref m_retreats, .ref m_contested, .ref m_moved, .int msh, .ref m_past])), (m_sea, .inl (cZ, 12, .inl (fun j => bI (S j)))), (m_borders, .inl (cZ, 144, .inl (fun j => bI (Bo j)))), (m_units, .inl (cI, 12, .inl fu)), (m_kind, .inl (cI, 12, .inl (fun j => nI (Kd j)))), (m_toX, .inl (cI, 12, .inl (fun j => nI (X j)))), (m_known, .inl (cI, 12, .inl (fun j => nI (K j)))), (m_reached, .inl (cZ, 12, .inl (fun j => bI (upB Rz (itr X (itr X r0 kk) k2) true j)))), (m_way, .inl (cI, 13, .inl (fun j => nI (Wz j))))] H := hP
                          have hD : va_D A [(g0, .inr (6, [.int co, .int (nI n), .ref m_sea, .ref m_center, .ref m_home, .ref m_borders, .int mp, .int mt, .ref m_owner, .ref m_units, .ref m_kind, .ref m_toX, .ref m_toY, .ref m_results, .ref m_known, .ref m_reached, .ref m_way, .ref m_aside, .ref m_origin, .ref m_retreats, .ref m_contested, .ref m_moved, .int msh, .ref m_past])), (m_sea, .inl (cZ, 12, .inl (fun j => bI (S j)))), (m_borders, .inl (cZ, 144, .inl (fun j => bI (Bo j)))), (m_units, .inl (cI, 12, .inl fu)), (m_kind, .inl (cI, 12, .inl (fun j => nI (Kd j)))), (m_toX, .inl (cI, 12, .inl (fun j => nI (X j)))), (m_known, .inl (cI, 12, .inl (fun j => nI (K j)))), (m_reached, .inl (cZ, 12, .inl (fun j => bI (upB Rz (itr X (itr X r0 kk) k2) true j)))), (m_way, .inl (cI, 13, .inl (fun j => nI (Wz j))))] := hD
                          refine lv_aload_n hx hb d_Mo_ring_125 rfl (lv_at hl 3 rfl) ?_
                          refine va_get (D := D) (ci := 6) (v := .ref m_way) (C := R_Mo) (T := T_Mo) (N := 24) hx hb hts hin_Mo hown hK hP 0 rfl rfl 16 (by decide) (hts _ wd_720) (fun _ h9 => h9) rfl d_Mo_ring_126 ?_
                          refine lv_iload_n hx hb d_Mo_ring_129 rfl (lv_at hl 1 rfl) ?_
                          refine lv_iload hx hb d_Mo_ring_130 (lv_at hl 0 rfl) ?_
                          refine tr_iast (g := fun j => nI (upN Wz k2 (itr X (itr X r0 kk) k2) j)) hx hb hK hP hD hS 8 0 rfl rfl k2 (by omega) (by decide) (upN_I Wz k2 (itr X (itr X r0 kk) k2)) d_Mo_ring_132 (fun H locs hP hD hS => ?_)
                          have hP : va_P D vwCl [(g0, .inr (6, [.int co, .int (nI n), .ref m_sea, .ref m_center, .ref m_home, .ref m_borders, .int mp, .int mt, .ref m_owner, .ref m_units, .ref m_kind, .ref m_toX, .ref m_toY, .ref m_results, .ref m_known, .ref m_reached, .ref m_way, .ref m_aside, .ref m_origin, .ref m_retreats, .ref m_contested, .ref m_moved, .int msh, .ref m_past])), (m_sea, .inl (cZ, 12, .inl (fun j => bI (S j)))), (m_borders, .inl (cZ, 144, .inl (fun j => bI (Bo j)))), (m_units, .inl (cI, 12, .inl fu)), (m_kind, .inl (cI, 12, .inl (fun j => nI (Kd j)))), (m_toX, .inl (cI, 12, .inl (fun j => nI (X j)))), (m_known, .inl (cI, 12, .inl (fun j => nI (K j)))), (m_reached, .inl (cZ, 12, .inl (fun j => bI (upB Rz (itr X (itr X r0 kk) k2) true j)))), (m_way, .inl (cI, 13, .inl (fun j => nI (upN Wz k2 (itr X (itr X r0 kk) k2) j))))] H := hP
                          have hD : va_D A [(g0, .inr (6, [.int co, .int (nI n), .ref m_sea, .ref m_center, .ref m_home, .ref m_borders, .int mp, .int mt, .ref m_owner, .ref m_units, .ref m_kind, .ref m_toX, .ref m_toY, .ref m_results, .ref m_known, .ref m_reached, .ref m_way, .ref m_aside, .ref m_origin, .ref m_retreats, .ref m_contested, .ref m_moved, .int msh, .ref m_past])), (m_sea, .inl (cZ, 12, .inl (fun j => bI (S j)))), (m_borders, .inl (cZ, 144, .inl (fun j => bI (Bo j)))), (m_units, .inl (cI, 12, .inl fu)), (m_kind, .inl (cI, 12, .inl (fun j => nI (Kd j)))), (m_toX, .inl (cI, 12, .inl (fun j => nI (X j)))), (m_known, .inl (cI, 12, .inl (fun j => nI (K j)))), (m_reached, .inl (cZ, 12, .inl (fun j => bI (upB Rz (itr X (itr X r0 kk) k2) true j)))), (m_way, .inl (cI, 13, .inl (fun j => nI (upN Wz k2 (itr X (itr X r0 kk) k2) j))))] := hD
                          refine lv_iinc (lv' := [(3, .int ((nI k2) + 1)), (4, .int (nI (itr X (itr X r0 kk) k2))), (2, .int (nI (itr X r0 kk))), (0, .ref g0), (1, .int (nI r0))]) hx hb d_Mo_ring_133 hl (k := 1) rfl rfl (by decide) rfl (fun ls hl => ?_)
                          refine lv_aload_n hx hb d_Mo_ring_136 rfl (lv_at hl 3 rfl) ?_
                          refine va_get (D := D) (ci := 6) (v := .ref m_toX) (C := R_Mo) (T := T_Mo) (N := 24) hx hb hts hin_Mo hown hK hP 0 rfl rfl 11 (by decide) (hts _ wd_715) (fun _ h9 => h9) rfl d_Mo_ring_137 ?_
                          refine lv_iload hx hb d_Mo_ring_140 (lv_at hl 1 rfl) ?_
                          refine tr_iald (v := nI (X (itr X (itr X r0 kk) k2))) hx hb hK hP 5 0 rfl rfl (itr X (itr X r0 kk) k2) hit212 (by decide) rfl d_Mo_ring_142 ?_
                          refine lv_istore (lv' := [(4, .int (nI (X (itr X (itr X r0 kk) k2)))), (3, .int ((nI k2) + 1)), (2, .int (nI (itr X r0 kk))), (0, .ref g0), (1, .int (nI r0))]) hx hb d_Mo_ring_143 hl (by decide) rfl (fun ls hl => ?_)
                          refine lv_goto (tgt := 107) hx hb d_Mo_ring_145 (by decide) ?_
                          have hI3 := rgI_s hI2 hit2 rfl hb16
                          have e3 : nI k2 + 1 = nI (k2 + 1) := nI_1 k2
                          have hW3 : ∀ t, t < k2 + 1 → upN Wz k2 (itr X (itr X r0 kk) k2) t = itr X (itr X r0 kk) t := fun t ht => by
                            unfold upN
                            split
                            · rename_i e; rw [e]
                            · exact hW t (by omega)
                          exact ihw2 (k2 + 1) (upB Rz (itr X (itr X r0 kk) k2) true) (upN Wz k2 (itr X (itr X r0 kk) k2)) ls H locs (by omega) hI3 hW3 (by rw [← e3]; exact lv_sub hl [0, 1, 2, 3, 4] rfl) hP hD hS
                    exact wh2 13 0 (fun j => cl0 Ry n j) Wy ls _ _ (Nat.zero_add _) rgI_0 (fun t ht => absurd ht (Nat.not_lt_zero _)) (lv_sub hl [0, 1, 2, 3, 4] rfl) hP hD hS
                  | succ k ih =>
                    intro i ls H locs hi hl hP hD hS
                    have hlt : i < n := by omega
                    have hlt12 : i < 12 := by omega
                    refine lv_iload_n hx hb d_Mo_ring_81 rfl (lv_at hl 0 rfl) ?_
                    refine lv_aload_n hx hb d_Mo_ring_82 rfl (lv_at hl 2 rfl) ?_
                    refine va_get (D := D) (ci := 6) (v := .int (nI n)) (C := R_Mo) (T := T_Mo) (N := 24) hx hb hts hin_Mo hown hK hP 0 rfl rfl 1 (by decide) (hts _ wd_705) (fun _ h9 => h9) rfl d_Mo_ring_83 ?_
                    refine lv_icmp_ge (tgt := 102) hx hb d_Mo_ring_86 (by decide) (fun h0 => absurd h0 (nI_ge hlt (by omega))) (fun _ => ?_)
                    refine lv_aload_n hx hb d_Mo_ring_89 rfl (lv_at hl 2 rfl) ?_
                    refine va_get (D := D) (ci := 6) (v := .ref m_reached) (C := R_Mo) (T := T_Mo) (N := 24) hx hb hts hin_Mo hown hK hP 0 rfl rfl 15 (by decide) (hts _ wd_719) (fun _ h9 => h9) rfl d_Mo_ring_90 ?_
                    refine lv_iload_n hx hb d_Mo_ring_93 rfl (lv_at hl 0 rfl) ?_
                    refine lv_iconst (v := 0) hx hb d_Mo_ring_94 (by decide) ?_
                    refine tr_zast (g := fun j => bI (upB (fun j => cl0 Ry i j) i false j)) hx hb hK hP hD hS 7 1 rfl rfl i hlt12 (by decide) (upB_I (fun j => cl0 Ry i j) i false) d_Mo_ring_95 (fun H locs hP hD hS => ?_)
                    have hP : va_P D vwCl [(g0, .inr (6, [.int co, .int (nI n), .ref m_sea, .ref m_center, .ref m_home, .ref m_borders, .int mp, .int mt, .ref m_owner, .ref m_units, .ref m_kind, .ref m_toX, .ref m_toY, .ref m_results, .ref m_known, .ref m_reached, .ref m_way, .ref m_aside, .ref m_origin, .ref m_retreats, .ref m_contested, .ref m_moved, .int msh, .ref m_past])), (m_sea, .inl (cZ, 12, .inl (fun j => bI (S j)))), (m_borders, .inl (cZ, 144, .inl (fun j => bI (Bo j)))), (m_units, .inl (cI, 12, .inl fu)), (m_kind, .inl (cI, 12, .inl (fun j => nI (Kd j)))), (m_toX, .inl (cI, 12, .inl (fun j => nI (X j)))), (m_known, .inl (cI, 12, .inl (fun j => nI (K j)))), (m_reached, .inl (cZ, 12, .inl (fun j => bI (upB (fun j => cl0 Ry i j) i false j)))), (m_way, .inl (cI, 13, .inl (fun j => nI (Wy j))))] H := hP
                    have hD : va_D A [(g0, .inr (6, [.int co, .int (nI n), .ref m_sea, .ref m_center, .ref m_home, .ref m_borders, .int mp, .int mt, .ref m_owner, .ref m_units, .ref m_kind, .ref m_toX, .ref m_toY, .ref m_results, .ref m_known, .ref m_reached, .ref m_way, .ref m_aside, .ref m_origin, .ref m_retreats, .ref m_contested, .ref m_moved, .int msh, .ref m_past])), (m_sea, .inl (cZ, 12, .inl (fun j => bI (S j)))), (m_borders, .inl (cZ, 144, .inl (fun j => bI (Bo j)))), (m_units, .inl (cI, 12, .inl fu)), (m_kind, .inl (cI, 12, .inl (fun j => nI (Kd j)))), (m_toX, .inl (cI, 12, .inl (fun j => nI (X j)))), (m_known, .inl (cI, 12, .inl (fun j => nI (K j)))), (m_reached, .inl (cZ, 12, .inl (fun j => bI (upB (fun j => cl0 Ry i j) i false j)))), (m_way, .inl (cI, 13, .inl (fun j => nI (Wy j))))] := hD
                    refine lv_iinc (lv' := [(3, .int ((nI i) + 1)), (2, .int (nI (itr X r0 kk))), (0, .ref g0), (1, .int (nI r0))]) hx hb d_Mo_ring_96 hl (k := 0) rfl rfl (by decide) rfl (fun ls hl => ?_)
                    refine lv_goto (tgt := 81) hx hb d_Mo_ring_99 (by decide) ?_
                    have e71 : (nI i) + 1 = nI (i + 1) := nI_1 i
                    have eF : (fun j => bI (upB (fun j => cl0 Ry i j) i false j)) = (fun j => bI (cl0 Ry (i + 1) j)) := by funext j; exact congrArg bI (cl0_s Ry i j)
                    exact ih (i + 1) ls H locs (by omega) (by rw [← e71]; exact lv_sub hl [0, 1, 2, 3] rfl) (by rw [← eF]; exact hP) (by rw [← eF]; exact hD) hS
                exact loop n 0 ls _ _ (Nat.zero_add _) hl hP hD hS
              · refine tr_top e9 ?_
                refine lv_if_ne (tgt := 68) hx hb d_Mo_ring_48 (by decide) (fun h0 => absurd (by decide) h0) (fun _ => ?_)
                refine lv_aload_n hx hb d_Mo_ring_51 rfl (lv_at hl 1 rfl) ?_
                refine va_get (D := D) (ci := 6) (v := .ref m_reached) (C := R_Mo) (T := T_Mo) (N := 24) hx hb hts hin_Mo hown hK hP 0 rfl rfl 15 (by decide) (hts _ wd_719) (fun _ h9 => h9) rfl d_Mo_ring_52 ?_
                refine lv_iload_n hx hb d_Mo_ring_55 rfl (lv_at hl 0 rfl) ?_
                refine lv_iconst (v := 1) hx hb d_Mo_ring_56 (by decide) ?_
                refine tr_zast (g := fun j => bI (upB Ry (itr X r0 kk) true j)) hx hb hK hP hD hS 7 1 rfl rfl (itr X r0 kk) hit12 (by decide) (upB_I Ry (itr X r0 kk) true) d_Mo_ring_57 (fun H locs hP hD hS => ?_)
                have hP : va_P D vwCl [(g0, .inr (6, [.int co, .int (nI n), .ref m_sea, .ref m_center, .ref m_home, .ref m_borders, .int mp, .int mt, .ref m_owner, .ref m_units, .ref m_kind, .ref m_toX, .ref m_toY, .ref m_results, .ref m_known, .ref m_reached, .ref m_way, .ref m_aside, .ref m_origin, .ref m_retreats, .ref m_contested, .ref m_moved, .int msh, .ref m_past])), (m_sea, .inl (cZ, 12, .inl (fun j => bI (S j)))), (m_borders, .inl (cZ, 144, .inl (fun j => bI (Bo j)))), (m_units, .inl (cI, 12, .inl fu)), (m_kind, .inl (cI, 12, .inl (fun j => nI (Kd j)))), (m_toX, .inl (cI, 12, .inl (fun j => nI (X j)))), (m_known, .inl (cI, 12, .inl (fun j => nI (K j)))), (m_reached, .inl (cZ, 12, .inl (fun j => bI (upB Ry (itr X r0 kk) true j)))), (m_way, .inl (cI, 13, .inl (fun j => nI (Wy j))))] H := hP
                have hD : va_D A [(g0, .inr (6, [.int co, .int (nI n), .ref m_sea, .ref m_center, .ref m_home, .ref m_borders, .int mp, .int mt, .ref m_owner, .ref m_units, .ref m_kind, .ref m_toX, .ref m_toY, .ref m_results, .ref m_known, .ref m_reached, .ref m_way, .ref m_aside, .ref m_origin, .ref m_retreats, .ref m_contested, .ref m_moved, .int msh, .ref m_past])), (m_sea, .inl (cZ, 12, .inl (fun j => bI (S j)))), (m_borders, .inl (cZ, 144, .inl (fun j => bI (Bo j)))), (m_units, .inl (cI, 12, .inl fu)), (m_kind, .inl (cI, 12, .inl (fun j => nI (Kd j)))), (m_toX, .inl (cI, 12, .inl (fun j => nI (X j)))), (m_known, .inl (cI, 12, .inl (fun j => nI (K j)))), (m_reached, .inl (cZ, 12, .inl (fun j => bI (upB Ry (itr X r0 kk) true j)))), (m_way, .inl (cI, 13, .inl (fun j => nI (Wy j))))] := hD
                refine lv_aload_n hx hb d_Mo_ring_58 rfl (lv_at hl 1 rfl) ?_
                refine va_get (D := D) (ci := 6) (v := .ref m_toX) (C := R_Mo) (T := T_Mo) (N := 24) hx hb hts hin_Mo hown hK hP 0 rfl rfl 11 (by decide) (hts _ wd_715) (fun _ h9 => h9) rfl d_Mo_ring_59 ?_
                refine lv_iload_n hx hb d_Mo_ring_62 rfl (lv_at hl 0 rfl) ?_
                refine tr_iald (v := nI (X (itr X r0 kk))) hx hb hK hP 5 0 rfl rfl (itr X r0 kk) hit12 (by decide) rfl d_Mo_ring_63 ?_
                refine lv_istore_n (lv' := [(2, .int (nI (X (itr X r0 kk)))), (0, .ref g0), (1, .int (nI r0))]) hx hb d_Mo_ring_64 rfl hl (by decide) rfl (fun ls hl => ?_)
                refine lv_goto (tgt := 25) hx hb d_Mo_ring_65 (by decide) ?_
                have hI1 := rgI_s hI hit (show rgQ fu Kd K (itr X r0 kk) = true by simp [rgQ, hb4, hc6, hb10]) hb10
                exact ihw (kk + 1) (upB Ry (itr X r0 kk) true) ls H locs (by omega) hI1 (lv_sub hl [0, 1, 2] rfl) hP hD hS
          · refine tr_top e9 ?_
            refine lv_if_eq (tgt := 68) hx hb d_Mo_ring_30 (by decide) (fun _ => ?_) (fun h0 => absurd (by decide) h0)
            have hqf : rgQ fu Kd K (itr X r0 kk) = false := by simp [rgQ, hb4]
            have hRf : Ry (itr X r0 kk) = false := rgI_no hI hit hqf
            have eM : rgM Bo S fu Kd X K n r0 = false := rgM_out (t := kk) (by omega) hqf
            refine lv_aload_n hx hb d_Mo_ring_68 rfl (lv_at hl 1 rfl) ?_
            refine va_get (D := D) (ci := 6) (v := .ref m_reached) (C := R_Mo) (T := T_Mo) (N := 24) hx hb hts hin_Mo hown hK hP 0 rfl rfl 15 (by decide) (hts _ wd_719) (fun _ h9 => h9) rfl d_Mo_ring_69 ?_
            refine lv_iload_n hx hb d_Mo_ring_72 rfl (lv_at hl 0 rfl) ?_
            refine tr_zald (v := bI (Ry (itr X r0 kk))) hx hb hK hP 7 1 rfl rfl (itr X r0 kk) hit12 (by decide) rfl d_Mo_ring_73 ?_
            refine tr_top (bI_f hRf) ?_
            refine lv_if_ne (tgt := 79) hx hb d_Mo_ring_74 (by decide) (fun h0 => absurd (by decide) h0) (fun _ => ?_)
            refine lv_iconst (v := 0) hx hb d_Mo_ring_77 (by decide) ?_
            have hP9 := hP.sub (ws' := [(g0, .inr (6, [.int co, .int (nI n), .ref m_sea, .ref m_center, .ref m_home, .ref m_borders, .int mp, .int mt, .ref m_owner, .ref m_units, .ref m_kind, .ref m_toX, .ref m_toY, .ref m_results, .ref m_known, .ref m_reached, .ref m_way, .ref m_aside, .ref m_origin, .ref m_retreats, .ref m_contested, .ref m_moved, .int msh, .ref m_past])), (m_sea, .inl (cZ, 12, .inl (fun j => bI (S j)))), (m_borders, .inl (cZ, 144, .inl (fun j => bI (Bo j)))), (m_units, .inl (cI, 12, .inl fu)), (m_kind, .inl (cI, 12, .inl (fun j => nI (Kd j)))), (m_toX, .inl (cI, 12, .inl (fun j => nI (X j)))), (m_known, .inl (cI, 12, .inl (fun j => nI (K j)))), (m_reached, .inl (cZ, 12, .inl (fun j => bI (Ry j)))), (m_way, .inl (cI, 13, .inl (fun j => nI (Wy j))))]) [0, 1, 2, 3, 4, 5, 6, 7, 8] rfl
            have hD9 := hD.sub (ws' := [(g0, .inr (6, [.int co, .int (nI n), .ref m_sea, .ref m_center, .ref m_home, .ref m_borders, .int mp, .int mt, .ref m_owner, .ref m_units, .ref m_kind, .ref m_toX, .ref m_toY, .ref m_results, .ref m_known, .ref m_reached, .ref m_way, .ref m_aside, .ref m_origin, .ref m_retreats, .ref m_contested, .ref m_moved, .int msh, .ref m_past])), (m_sea, .inl (cZ, 12, .inl (fun j => bI (S j)))), (m_borders, .inl (cZ, 144, .inl (fun j => bI (Bo j)))), (m_units, .inl (cI, 12, .inl fu)), (m_kind, .inl (cI, 12, .inl (fun j => nI (Kd j)))), (m_toX, .inl (cI, 12, .inl (fun j => nI (X j)))), (m_known, .inl (cI, 12, .inl (fun j => nI (K j)))), (m_reached, .inl (cZ, 12, .inl (fun j => bI (Ry j)))), (m_way, .inl (cI, 13, .inl (fun j => nI (Wy j))))]) [0, 1, 2, 3, 4, 5, 6, 7, 8] (by decide) rfl
            have hP9 : va_P D vwCl [(g0, .inr (6, [.int co, .int (nI n), .ref m_sea, .ref m_center, .ref m_home, .ref m_borders, .int mp, .int mt, .ref m_owner, .ref m_units, .ref m_kind, .ref m_toX, .ref m_toY, .ref m_results, .ref m_known, .ref m_reached, .ref m_way, .ref m_aside, .ref m_origin, .ref m_retreats, .ref m_contested, .ref m_moved, .int msh, .ref m_past])), (m_sea, .inl (cZ, 12, .inl (fun j => bI (S j)))), (m_borders, .inl (cZ, 144, .inl (fun j => bI (Bo j)))), (m_units, .inl (cI, 12, .inl fu)), (m_kind, .inl (cI, 12, .inl (fun j => nI (Kd j)))), (m_toX, .inl (cI, 12, .inl (fun j => nI (X j)))), (m_known, .inl (cI, 12, .inl (fun j => nI (rgK Bo S fu Kd X K n r0 j)))), (m_reached, .inl (cZ, 12, .inl (fun j => bI (Ry j)))), (m_way, .inl (cI, 13, .inl (fun j => nI (Wy j))))] H := by rw [rgK_no eM]; exact hP9
            have hD9 : va_D A [(g0, .inr (6, [.int co, .int (nI n), .ref m_sea, .ref m_center, .ref m_home, .ref m_borders, .int mp, .int mt, .ref m_owner, .ref m_units, .ref m_kind, .ref m_toX, .ref m_toY, .ref m_results, .ref m_known, .ref m_reached, .ref m_way, .ref m_aside, .ref m_origin, .ref m_retreats, .ref m_contested, .ref m_moved, .int msh, .ref m_past])), (m_sea, .inl (cZ, 12, .inl (fun j => bI (S j)))), (m_borders, .inl (cZ, 144, .inl (fun j => bI (Bo j)))), (m_units, .inl (cI, 12, .inl fu)), (m_kind, .inl (cI, 12, .inl (fun j => nI (Kd j)))), (m_toX, .inl (cI, 12, .inl (fun j => nI (X j)))), (m_known, .inl (cI, 12, .inl (fun j => nI (rgK Bo S fu Kd X K n r0 j)))), (m_reached, .inl (cZ, 12, .inl (fun j => bI (Ry j)))), (m_way, .inl (cI, 13, .inl (fun j => nI (Wy j))))] := by rw [rgK_no eM]; exact hD9
            exact W.zret (v := 0) hx hb hr (by decide) (fun t ht hW => ⟨⟨0, (), rfl, (bI_f eM).symm, Ry, Wy, by rw [ht]; exact hP9, hD9⟩, hS.F ht⟩) hS.2.2 d_Mo_ring_78
      exact wh 13 0 (fun j => cl0 Re n j) ls _ _ (Nat.zero_add _) rgI_0 (lv_sub hl [0, 1, 2] rfl) hP hD hS
    | succ k ih =>
      intro i ls H locs hi hl hP hD hS
      have hlt : i < n := by omega
      have hlt12 : i < 12 := by omega
      refine lv_iload_n hx hb d_Mo_ring_2 rfl (lv_at hl 0 rfl) ?_
      refine lv_aload_n hx hb d_Mo_ring_3 rfl (lv_at hl 1 rfl) ?_
      refine va_get (D := D) (ci := 6) (v := .int (nI n)) (C := R_Mo) (T := T_Mo) (N := 24) hx hb hts hin_Mo hown hK hP 0 rfl rfl 1 (by decide) (hts _ wd_705) (fun _ h9 => h9) rfl d_Mo_ring_4 ?_
      refine lv_icmp_ge (tgt := 23) hx hb d_Mo_ring_7 (by decide) (fun h0 => absurd h0 (nI_ge hlt (by omega))) (fun _ => ?_)
      refine lv_aload_n hx hb d_Mo_ring_10 rfl (lv_at hl 1 rfl) ?_
      refine va_get (D := D) (ci := 6) (v := .ref m_reached) (C := R_Mo) (T := T_Mo) (N := 24) hx hb hts hin_Mo hown hK hP 0 rfl rfl 15 (by decide) (hts _ wd_719) (fun _ h9 => h9) rfl d_Mo_ring_11 ?_
      refine lv_iload_n hx hb d_Mo_ring_14 rfl (lv_at hl 0 rfl) ?_
      refine lv_iconst (v := 0) hx hb d_Mo_ring_15 (by decide) ?_
      refine tr_zast (g := fun j => bI (upB (fun j => cl0 Re i j) i false j)) hx hb hK hP hD hS 7 1 rfl rfl i hlt12 (by decide) (upB_I (fun j => cl0 Re i j) i false) d_Mo_ring_16 (fun H locs hP hD hS => ?_)
      have hP : va_P D vwCl [(g0, .inr (6, [.int co, .int (nI n), .ref m_sea, .ref m_center, .ref m_home, .ref m_borders, .int mp, .int mt, .ref m_owner, .ref m_units, .ref m_kind, .ref m_toX, .ref m_toY, .ref m_results, .ref m_known, .ref m_reached, .ref m_way, .ref m_aside, .ref m_origin, .ref m_retreats, .ref m_contested, .ref m_moved, .int msh, .ref m_past])), (m_sea, .inl (cZ, 12, .inl (fun j => bI (S j)))), (m_borders, .inl (cZ, 144, .inl (fun j => bI (Bo j)))), (m_units, .inl (cI, 12, .inl fu)), (m_kind, .inl (cI, 12, .inl (fun j => nI (Kd j)))), (m_toX, .inl (cI, 12, .inl (fun j => nI (X j)))), (m_known, .inl (cI, 12, .inl (fun j => nI (K j)))), (m_reached, .inl (cZ, 12, .inl (fun j => bI (upB (fun j => cl0 Re i j) i false j)))), (m_way, .inl (cI, 13, .inl (fun j => nI (Wy j))))] H := hP
      have hD : va_D A [(g0, .inr (6, [.int co, .int (nI n), .ref m_sea, .ref m_center, .ref m_home, .ref m_borders, .int mp, .int mt, .ref m_owner, .ref m_units, .ref m_kind, .ref m_toX, .ref m_toY, .ref m_results, .ref m_known, .ref m_reached, .ref m_way, .ref m_aside, .ref m_origin, .ref m_retreats, .ref m_contested, .ref m_moved, .int msh, .ref m_past])), (m_sea, .inl (cZ, 12, .inl (fun j => bI (S j)))), (m_borders, .inl (cZ, 144, .inl (fun j => bI (Bo j)))), (m_units, .inl (cI, 12, .inl fu)), (m_kind, .inl (cI, 12, .inl (fun j => nI (Kd j)))), (m_toX, .inl (cI, 12, .inl (fun j => nI (X j)))), (m_known, .inl (cI, 12, .inl (fun j => nI (K j)))), (m_reached, .inl (cZ, 12, .inl (fun j => bI (upB (fun j => cl0 Re i j) i false j)))), (m_way, .inl (cI, 13, .inl (fun j => nI (Wy j))))] := hD
      refine lv_iinc (lv' := [(2, .int ((nI i) + 1)), (0, .ref g0), (1, .int (nI r0))]) hx hb d_Mo_ring_17 hl (k := 0) rfl rfl (by decide) rfl (fun ls hl => ?_)
      refine lv_goto (tgt := 2) hx hb d_Mo_ring_20 (by decide) ?_
      have e77 : (nI i) + 1 = nI (i + 1) := nI_1 i
      have eF : (fun j => bI (upB (fun j => cl0 Re i j) i false j)) = (fun j => bI (cl0 Re (i + 1) j)) := by funext j; exact congrArg bI (cl0_s Re i j)
      exact ih (i + 1) ls H locs (by omega) (by rw [← e77]; exact lv_sub hl [0, 1, 2] rfl) (by rw [← eF]; exact hP) (by rw [← eF]; exact hD) hS
  exact loop n 0 ls _ _ (Nat.zero_add _) hl hP hD hS
