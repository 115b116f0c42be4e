theorem d_Mo_carried_0 : decode b_Mo_carried 0 = .ok (.iconst 0, 1) := by decide +kernel
theorem d_Mo_carried_1 : decode b_Mo_carried 1 = .ok (.istore_n 3, 1) := by decide +kernel
theorem d_Mo_carried_2 : decode b_Mo_carried 2 = .ok (.iload_n 3, 1) := by decide +kernel
theorem d_Mo_carried_3 : decode b_Mo_carried 3 = .ok (.aload_n 0, 1) := by decide +kernel
theorem d_Mo_carried_4 : decode b_Mo_carried 4 = .ok (.getfield 72, 3) := by decide +kernel
theorem d_Mo_carried_7 : decode b_Mo_carried 7 = .ok (.if_icmp .ge 16, 3) := by decide +kernel
theorem d_Mo_carried_10 : decode b_Mo_carried 10 = .ok (.aload_n 0, 1) := by decide +kernel
theorem d_Mo_carried_11 : decode b_Mo_carried 11 = .ok (.getfield 44, 3) := by decide +kernel
theorem d_Mo_carried_14 : decode b_Mo_carried 14 = .ok (.iload_n 3, 1) := by decide +kernel
theorem d_Mo_carried_15 : decode b_Mo_carried 15 = .ok (.iconst 0, 1) := by decide +kernel
theorem d_Mo_carried_16 : decode b_Mo_carried 16 = .ok (.bastore, 1) := by decide +kernel
theorem d_Mo_carried_17 : decode b_Mo_carried 17 = .ok (.iinc 3 1, 3) := by decide +kernel
theorem d_Mo_carried_20 : decode b_Mo_carried 20 = .ok (.goto (-18), 3) := by decide +kernel
theorem d_Mo_carried_23 : decode b_Mo_carried 23 = .ok (.iconst 1, 1) := by decide +kernel
theorem d_Mo_carried_24 : decode b_Mo_carried 24 = .ok (.istore_n 3, 1) := by decide +kernel
theorem d_Mo_carried_25 : decode b_Mo_carried 25 = .ok (.iload_n 3, 1) := by decide +kernel
theorem d_Mo_carried_26 : decode b_Mo_carried 26 = .ok (.ifCond .eq 217, 3) := by decide +kernel
theorem d_Mo_carried_29 : decode b_Mo_carried 29 = .ok (.iconst 0, 1) := by decide +kernel
theorem d_Mo_carried_30 : decode b_Mo_carried 30 = .ok (.istore_n 3, 1) := by decide +kernel
theorem d_Mo_carried_31 : decode b_Mo_carried 31 = .ok (.iconst 0, 1) := by decide +kernel
theorem d_Mo_carried_32 : decode b_Mo_carried 32 = .ok (.istore 4, 2) := by decide +kernel
theorem d_Mo_carried_34 : decode b_Mo_carried 34 = .ok (.iload 4, 2) := by decide +kernel
theorem d_Mo_carried_36 : decode b_Mo_carried 36 = .ok (.aload_n 0, 1) := by decide +kernel
theorem d_Mo_carried_37 : decode b_Mo_carried 37 = .ok (.getfield 72, 3) := by decide +kernel
theorem d_Mo_carried_40 : decode b_Mo_carried 40 = .ok (.if_icmp .ge 200, 3) := by decide +kernel
theorem d_Mo_carried_43 : decode b_Mo_carried 43 = .ok (.aload_n 0, 1) := by decide +kernel
theorem d_Mo_carried_44 : decode b_Mo_carried 44 = .ok (.getfield 44, 3) := by decide +kernel
theorem d_Mo_carried_47 : decode b_Mo_carried 47 = .ok (.iload 4, 2) := by decide +kernel
theorem d_Mo_carried_49 : decode b_Mo_carried 49 = .ok (.baload, 1) := by decide +kernel
theorem d_Mo_carried_50 : decode b_Mo_carried 50 = .ok (.ifCond .ne 65, 3) := by decide +kernel
theorem d_Mo_carried_53 : decode b_Mo_carried 53 = .ok (.aload_n 0, 1) := by decide +kernel
theorem d_Mo_carried_54 : decode b_Mo_carried 54 = .ok (.getfield 7, 3) := by decide +kernel
theorem d_Mo_carried_57 : decode b_Mo_carried 57 = .ok (.iload 4, 2) := by decide +kernel
theorem d_Mo_carried_59 : decode b_Mo_carried 59 = .ok (.baload, 1) := by decide +kernel
theorem d_Mo_carried_60 : decode b_Mo_carried 60 = .ok (.ifCond .eq 55, 3) := by decide +kernel
theorem d_Mo_carried_63 : decode b_Mo_carried 63 = .ok (.aload_n 0, 1) := by decide +kernel
theorem d_Mo_carried_64 : decode b_Mo_carried 64 = .ok (.getfield 26, 3) := by decide +kernel
theorem d_Mo_carried_67 : decode b_Mo_carried 67 = .ok (.iload 4, 2) := by decide +kernel
theorem d_Mo_carried_69 : decode b_Mo_carried 69 = .ok (.iaload, 1) := by decide +kernel
theorem d_Mo_carried_70 : decode b_Mo_carried 70 = .ok (.ifCond .lt 45, 3) := by decide +kernel
theorem d_Mo_carried_73 : decode b_Mo_carried 73 = .ok (.aload_n 0, 1) := by decide +kernel
theorem d_Mo_carried_74 : decode b_Mo_carried 74 = .ok (.getfield 29, 3) := by decide +kernel
theorem d_Mo_carried_77 : decode b_Mo_carried 77 = .ok (.iload 4, 2) := by decide +kernel
theorem d_Mo_carried_79 : decode b_Mo_carried 79 = .ok (.iaload, 1) := by decide +kernel
theorem d_Mo_carried_80 : decode b_Mo_carried 80 = .ok (.iconst 3, 1) := by decide +kernel
theorem d_Mo_carried_81 : decode b_Mo_carried 81 = .ok (.if_icmp .ne 34, 3) := by decide +kernel
theorem d_Mo_carried_84 : decode b_Mo_carried 84 = .ok (.aload_n 0, 1) := by decide +kernel
theorem d_Mo_carried_85 : decode b_Mo_carried 85 = .ok (.getfield 32, 3) := by decide +kernel
theorem d_Mo_carried_88 : decode b_Mo_carried 88 = .ok (.iload 4, 2) := by decide +kernel
theorem d_Mo_carried_90 : decode b_Mo_carried 90 = .ok (.iaload, 1) := by decide +kernel
theorem d_Mo_carried_91 : decode b_Mo_carried 91 = .ok (.iload_n 1, 1) := by decide +kernel
theorem d_Mo_carried_92 : decode b_Mo_carried 92 = .ok (.if_icmp .ne 23, 3) := by decide +kernel
theorem d_Mo_carried_95 : decode b_Mo_carried 95 = .ok (.aload_n 0, 1) := by decide +kernel
theorem d_Mo_carried_96 : decode b_Mo_carried 96 = .ok (.getfield 35, 3) := by decide +kernel
theorem d_Mo_carried_99 : decode b_Mo_carried 99 = .ok (.iload 4, 2) := by decide +kernel
theorem d_Mo_carried_101 : decode b_Mo_carried 101 = .ok (.iaload, 1) := by decide +kernel
theorem d_Mo_carried_102 : decode b_Mo_carried 102 = .ok (.aload_n 0, 1) := by decide +kernel
theorem d_Mo_carried_103 : decode b_Mo_carried 103 = .ok (.getfield 32, 3) := by decide +kernel
theorem d_Mo_carried_106 : decode b_Mo_carried 106 = .ok (.iload_n 1, 1) := by decide +kernel
theorem d_Mo_carried_107 : decode b_Mo_carried 107 = .ok (.iaload, 1) := by decide +kernel
theorem d_Mo_carried_108 : decode b_Mo_carried 108 = .ok (.if_icmp .ne 7, 3) := by decide +kernel
theorem d_Mo_carried_111 : decode b_Mo_carried 111 = .ok (.iconst 1, 1) := by decide +kernel
theorem d_Mo_carried_112 : decode b_Mo_carried 112 = .ok (.goto 4, 3) := by decide +kernel
theorem d_Mo_carried_115 : decode b_Mo_carried 115 = .ok (.iconst 0, 1) := by decide +kernel
theorem d_Mo_carried_116 : decode b_Mo_carried 116 = .ok (.istore 5, 2) := by decide +kernel
theorem d_Mo_carried_118 : decode b_Mo_carried 118 = .ok (.iload 5, 2) := by decide +kernel
theorem d_Mo_carried_120 : decode b_Mo_carried 120 = .ok (.ifCond .eq 114, 3) := by decide +kernel
theorem d_Mo_carried_123 : decode b_Mo_carried 123 = .ok (.aload_n 0, 1) := by decide +kernel
theorem d_Mo_carried_124 : decode b_Mo_carried 124 = .ok (.iload 4, 2) := by decide +kernel
theorem d_Mo_carried_126 : decode b_Mo_carried 126 = .ok (.invokevirtual 121, 3) := by decide +kernel
theorem d_Mo_carried_129 : decode b_Mo_carried 129 = .ok (.iconst 1, 1) := by decide +kernel
theorem d_Mo_carried_130 : decode b_Mo_carried 130 = .ok (.if_icmp .eq 104, 3) := by decide +kernel
theorem d_Mo_carried_133 : decode b_Mo_carried 133 = .ok (.iload_n 2, 1) := by decide +kernel
theorem d_Mo_carried_134 : decode b_Mo_carried 134 = .ok (.ifCond .eq 16, 3) := by decide +kernel
theorem d_Mo_carried_137 : decode b_Mo_carried 137 = .ok (.aload_n 0, 1) := by decide +kernel
theorem d_Mo_carried_138 : decode b_Mo_carried 138 = .ok (.iload 4, 2) := by decide +kernel
theorem d_Mo_carried_140 : decode b_Mo_carried 140 = .ok (.invokevirtual 121, 3) := by decide +kernel
theorem d_Mo_carried_143 : decode b_Mo_carried 143 = .ok (.iconst 2, 1) := by decide +kernel
theorem d_Mo_carried_144 : decode b_Mo_carried 144 = .ok (.if_icmp .eq 6, 3) := by decide +kernel
theorem d_Mo_carried_147 : decode b_Mo_carried 147 = .ok (.goto 87, 3) := by decide +kernel
theorem d_Mo_carried_150 : decode b_Mo_carried 150 = .ok (.aload_n 0, 1) := by decide +kernel
theorem d_Mo_carried_151 : decode b_Mo_carried 151 = .ok (.iload_n 1, 1) := by decide +kernel
theorem d_Mo_carried_152 : decode b_Mo_carried 152 = .ok (.iload 4, 2) := by decide +kernel
theorem d_Mo_carried_154 : decode b_Mo_carried 154 = .ok (.invokevirtual 82, 3) := by decide +kernel
theorem d_Mo_carried_157 : decode b_Mo_carried 157 = .ok (.istore 6, 2) := by decide +kernel
theorem d_Mo_carried_159 : decode b_Mo_carried 159 = .ok (.iconst 0, 1) := by decide +kernel
theorem d_Mo_carried_160 : decode b_Mo_carried 160 = .ok (.istore 7, 2) := by decide +kernel
theorem d_Mo_carried_162 : decode b_Mo_carried 162 = .ok (.iload 7, 2) := by decide +kernel
theorem d_Mo_carried_164 : decode b_Mo_carried 164 = .ok (.aload_n 0, 1) := by decide +kernel
theorem d_Mo_carried_165 : decode b_Mo_carried 165 = .ok (.getfield 72, 3) := by decide +kernel
theorem d_Mo_carried_168 : decode b_Mo_carried 168 = .ok (.if_icmp .ge 42, 3) := by decide +kernel
theorem d_Mo_carried_171 : decode b_Mo_carried 171 = .ok (.iload 6, 2) := by decide +kernel
theorem d_Mo_carried_173 : decode b_Mo_carried 173 = .ok (.ifCond .ne 24, 3) := by decide +kernel
theorem d_Mo_carried_176 : decode b_Mo_carried 176 = .ok (.aload_n 0, 1) := by decide +kernel
theorem d_Mo_carried_177 : decode b_Mo_carried 177 = .ok (.getfield 44, 3) := by decide +kernel
theorem d_Mo_carried_180 : decode b_Mo_carried 180 = .ok (.iload 7, 2) := by decide +kernel
theorem d_Mo_carried_182 : decode b_Mo_carried 182 = .ok (.baload, 1) := by decide +kernel
theorem d_Mo_carried_183 : decode b_Mo_carried 183 = .ok (.ifCond .eq 18, 3) := by decide +kernel
theorem d_Mo_carried_186 : decode b_Mo_carried 186 = .ok (.aload_n 0, 1) := by decide +kernel
theorem d_Mo_carried_187 : decode b_Mo_carried 187 = .ok (.iload 7, 2) := by decide +kernel
theorem d_Mo_carried_189 : decode b_Mo_carried 189 = .ok (.iload 4, 2) := by decide +kernel
theorem d_Mo_carried_191 : decode b_Mo_carried 191 = .ok (.invokevirtual 82, 3) := by decide +kernel
theorem d_Mo_carried_194 : decode b_Mo_carried 194 = .ok (.ifCond .eq 7, 3) := by decide +kernel
theorem d_Mo_carried_197 : decode b_Mo_carried 197 = .ok (.iconst 1, 1) := by decide +kernel
theorem d_Mo_carried_198 : decode b_Mo_carried 198 = .ok (.goto 4, 3) := by decide +kernel
theorem d_Mo_carried_201 : decode b_Mo_carried 201 = .ok (.iconst 0, 1) := by decide +kernel
theorem d_Mo_carried_202 : decode b_Mo_carried 202 = .ok (.istore 6, 2) := by decide +kernel
theorem d_Mo_carried_204 : decode b_Mo_carried 204 = .ok (.iinc 7 1, 3) := by decide +kernel
theorem d_Mo_carried_207 : decode b_Mo_carried 207 = .ok (.goto (-45), 3) := by decide +kernel
theorem d_Mo_carried_210 : decode b_Mo_carried 210 = .ok (.aload_n 0, 1) := by decide +kernel
theorem d_Mo_carried_211 : decode b_Mo_carried 211 = .ok (.getfield 44, 3) := by decide +kernel
theorem d_Mo_carried_214 : decode b_Mo_carried 214 = .ok (.iload 4, 2) := by decide +kernel
theorem d_Mo_carried_216 : decode b_Mo_carried 216 = .ok (.iload 6, 2) := by decide +kernel
theorem d_Mo_carried_218 : decode b_Mo_carried 218 = .ok (.bastore, 1) := by decide +kernel
theorem d_Mo_carried_219 : decode b_Mo_carried 219 = .ok (.iload_n 3, 1) := by decide +kernel
theorem d_Mo_carried_220 : decode b_Mo_carried 220 = .ok (.ifCond .ne 8, 3) := by decide +kernel
theorem d_Mo_carried_223 : decode b_Mo_carried 223 = .ok (.iload 6, 2) := by decide +kernel
theorem d_Mo_carried_225 : decode b_Mo_carried 225 = .ok (.ifCond .eq 7, 3) := by decide +kernel
theorem d_Mo_carried_228 : decode b_Mo_carried 228 = .ok (.iconst 1, 1) := by decide +kernel
theorem d_Mo_carried_229 : decode b_Mo_carried 229 = .ok (.goto 4, 3) := by decide +kernel
theorem d_Mo_carried_232 : decode b_Mo_carried 232 = .ok (.iconst 0, 1) := by decide +kernel
theorem d_Mo_carried_233 : decode b_Mo_carried 233 = .ok (.istore_n 3, 1) := by decide +kernel
theorem d_Mo_carried_234 : decode b_Mo_carried 234 = .ok (.iinc 4 1, 3) := by decide +kernel
theorem d_Mo_carried_237 : decode b_Mo_carried 237 = .ok (.goto (-203), 3) := by decide +kernel
theorem d_Mo_carried_240 : decode b_Mo_carried 240 = .ok (.goto (-215), 3) := by decide +kernel
theorem d_Mo_carried_243 : decode b_Mo_carried 243 = .ok (.iconst 0, 1) := by decide +kernel
theorem d_Mo_carried_244 : decode b_Mo_carried 244 = .ok (.istore 4, 2) := by decide +kernel
theorem d_Mo_carried_246 : decode b_Mo_carried 246 = .ok (.iconst 0, 1) := by decide +kernel
theorem d_Mo_carried_247 : decode b_Mo_carried 247 = .ok (.istore 5, 2) := by decide +kernel
theorem d_Mo_carried_249 : decode b_Mo_carried 249 = .ok (.iload 5, 2) := by decide +kernel
theorem d_Mo_carried_251 : decode b_Mo_carried 251 = .ok (.aload_n 0, 1) := by decide +kernel
theorem d_Mo_carried_252 : decode b_Mo_carried 252 = .ok (.getfield 72, 3) := by decide +kernel
theorem d_Mo_carried_255 : decode b_Mo_carried 255 = .ok (.if_icmp .ge 46, 3) := by decide +kernel
theorem d_Mo_carried_258 : decode b_Mo_carried 258 = .ok (.iload 4, 2) := by decide +kernel
theorem d_Mo_carried_260 : decode b_Mo_carried 260 = .ok (.ifCond .ne 28, 3) := by decide +kernel
theorem d_Mo_carried_263 : decode b_Mo_carried 263 = .ok (.aload_n 0, 1) := by decide +kernel
theorem d_Mo_carried_264 : decode b_Mo_carried 264 = .ok (.getfield 44, 3) := by decide +kernel
theorem d_Mo_carried_267 : decode b_Mo_carried 267 = .ok (.iload 5, 2) := by decide +kernel
theorem d_Mo_carried_269 : decode b_Mo_carried 269 = .ok (.baload, 1) := by decide +kernel
theorem d_Mo_carried_270 : decode b_Mo_carried 270 = .ok (.ifCond .eq 22, 3) := by decide +kernel
theorem d_Mo_carried_273 : decode b_Mo_carried 273 = .ok (.aload_n 0, 1) := by decide +kernel
theorem d_Mo_carried_274 : decode b_Mo_carried 274 = .ok (.iload 5, 2) := by decide +kernel
theorem d_Mo_carried_276 : decode b_Mo_carried 276 = .ok (.aload_n 0, 1) := by decide +kernel
theorem d_Mo_carried_277 : decode b_Mo_carried 277 = .ok (.getfield 32, 3) := by decide +kernel
theorem d_Mo_carried_280 : decode b_Mo_carried 280 = .ok (.iload_n 1, 1) := by decide +kernel
theorem d_Mo_carried_281 : decode b_Mo_carried 281 = .ok (.iaload, 1) := by decide +kernel
theorem d_Mo_carried_282 : decode b_Mo_carried 282 = .ok (.invokevirtual 82, 3) := by decide +kernel
theorem d_Mo_carried_285 : decode b_Mo_carried 285 = .ok (.ifCond .eq 7, 3) := by decide +kernel
theorem d_Mo_carried_288 : decode b_Mo_carried 288 = .ok (.iconst 1, 1) := by decide +kernel
theorem d_Mo_carried_289 : decode b_Mo_carried 289 = .ok (.goto 4, 3) := by decide +kernel
theorem d_Mo_carried_292 : decode b_Mo_carried 292 = .ok (.iconst 0, 1) := by decide +kernel
theorem d_Mo_carried_293 : decode b_Mo_carried 293 = .ok (.istore 4, 2) := by decide +kernel
theorem d_Mo_carried_295 : decode b_Mo_carried 295 = .ok (.iinc 5 1, 3) := by decide +kernel
theorem d_Mo_carried_298 : decode b_Mo_carried 298 = .ok (.goto (-49), 3) := by decide +kernel
theorem d_Mo_carried_301 : decode b_Mo_carried 301 = .ok (.iload 4, 2) := by decide +kernel
theorem d_Mo_carried_303 : decode b_Mo_carried 303 = .ok (.ireturn, 1) := by decide +kernel
theorem wd_892 : (Cond.code ({ cls := "SheetWarModel", name := "displacedAt", desc := "(I)I" } : MethodName) prog_8_method_23_code (5 : Nat) (Option.some FieldType.int)) ∈ TB := tb_t 892 (by decide +kernel) (by decide +kernel)
theorem wd_889 : (Cond.methodLink "SheetWarModel" (121 : Nat) ({ cls := "SheetWarModel", name := "displacedAt", desc := "(I)I" } : MethodName)) ∈ TB := tb_t 889 (by decide +kernel) (by decide +kernel)
theorem wd_891 : (Cond.instanceMethod ({ cls := "SheetWarModel", name := "displacedAt", desc := "(I)I" } : MethodName)) ∈ TB := tb_t 891 (by decide +kernel) (by decide +kernel)
theorem wp_56 : Cond.selects "SheetWarModel" ⟨"SheetWarModel", "displacedAt", "(I)I"⟩ ⟨"SheetWarModel", "displacedAt", "(I)I"⟩ ∈ TB := tb_p 56 (by decide +kernel) (by decide +kernel)
set_option maxHeartbeats 4000000 in
set_option maxRecDepth 100000 in
theorem c_Mo_carried (l : Launch) (D : va_G) (cI cZ cJ cS : ClassId) (aT : Nat) (ceT : Cell) (sz : Nat) (g0 m_sea m_center m_home m_borders m_owner m_units m_kind m_toX m_toY m_results m_known m_reached m_way m_aside m_origin m_retreats m_contested m_moved m_past : Nat) (n : Nat) (co mp mt msh : Int32) (S : Nat → Bool) (Bo : Nat → Bool) (fu : Nat → Int32) (Kd : Nat → Nat) (X : Nat → Nat) (Y : Nat → Nat) (K : Nat → Nat) (Re : Nat → Bool) (a : Nat) (su : Bool) (hKd : ∀ j, Kd j < 4) (hX9 : ∀ j, X j < 12) (hY9 : ∀ j, Y j < 12) (hK9 : ∀ j, K j < 3) (h_a : a < 12) (hn : n ≤ 12) : Met l y_Mo_carried w_Mo_carried ({ frames := 3, cells := 0, slots := 0, locals := 67 }) (tH D cI cZ cJ cS aT ceT [.ref g0, .int (nI a), .int (bI su)] sz [(g0, .inr (6, [.int co, .int (nI n), .ref m_sea, .ref m_center, .ref m_home, .ref m_borders, .int mp, .int mt, .ref m_owner, .ref m_units, .ref m_kind, .ref m_toX, .ref m_toY, .ref m_results, .ref m_known, .ref m_reached, .ref m_way, .ref m_aside, .ref m_origin, .ref m_retreats, .ref m_contested, .ref m_moved, .int msh, .ref m_past])), (m_sea, .inl (cZ, 12, .inl (fun j => bI (S j)))), (m_borders, .inl (cZ, 144, .inl (fun j => bI (Bo j)))), (m_units, .inl (cI, 12, .inl fu)), (m_kind, .inl (cI, 12, .inl (fun j => nI (Kd j)))), (m_toX, .inl (cI, 12, .inl (fun j => nI (X j)))), (m_toY, .inl (cI, 12, .inl (fun j => nI (Y j)))), (m_known, .inl (cI, 12, .inl (fun j => nI (K j)))), (m_reached, .inl (cZ, 12, .inl (fun j => bI (Re j))))]) (va_Qi (fun (r : Int32) (_ : Unit) => r = bI (crd fu Kd X Y K S Bo n a su)) (fun _ t => ∃ (Re2 : Nat → Bool), tB D (va_A [(g0, .inr (6, [.int co, .int (nI n), .ref m_sea, .ref m_center, .ref m_home, .ref m_borders, .int mp, .int mt, .ref m_owner, .ref m_units, .ref m_kind, .ref m_toX, .ref m_toY, .ref m_results, .ref m_known, .ref m_reached, .ref m_way, .ref m_aside, .ref m_origin, .ref m_retreats, .ref m_contested, .ref m_moved, .int msh, .ref m_past])), (m_sea, .inl (cZ, 12, .inl (fun j => bI (S j)))), (m_borders, .inl (cZ, 144, .inl (fun j => bI (Bo j)))), (m_units, .inl (cI, 12, .inl fu)), (m_kind, .inl (cI, 12, .inl (fun j => nI (Kd j)))), (m_toX, .inl (cI, 12, .inl (fun j => nI (X j)))), (m_toY, .inl (cI, 12, .inl (fun j => nI (Y j)))), (m_known, .inl (cI, 12, .inl (fun j => nI (K j)))), (m_reached, .inl (cZ, 12, .inl (fun j => bI (Re j))))] sz) [(g0, .inr (6, [.int co, .int (nI n), .ref m_sea, .ref m_center, .ref m_home, .ref m_borders, .int mp, .int mt, .ref m_owner, .ref m_units, .ref m_kind, .ref m_toX, .ref m_toY, .ref m_results, .ref m_known, .ref m_reached, .ref m_way, .ref m_aside, .ref m_origin, .ref m_retreats, .ref m_contested, .ref m_moved, .int msh, .ref m_past])), (m_sea, .inl (cZ, 12, .inl (fun j => bI (S j)))), (m_borders, .inl (cZ, 144, .inl (fun j => bI (Bo j)))), (m_units, .inl (cI, 12, .inl fu)), (m_kind, .inl (cI, 12, .inl (fun j => nI (Kd j)))), (m_toX, .inl (cI, 12, .inl (fun j => nI (X j)))), (m_toY, .inl (cI, 12, .inl (fun j => nI (Y j)))), (m_known, .inl (cI, 12, .inl (fun j => nI (K j)))), (m_reached, .inl (cZ, 12, .inl (fun j => bI (Re2 j))))] t) (va_A [(g0, .inr (6, [.int co, .int (nI n), .ref m_sea, .ref m_center, .ref m_home, .ref m_borders, .int mp, .int mt, .ref m_owner, .ref m_units, .ref m_kind, .ref m_toX, .ref m_toY, .ref m_results, .ref m_known, .ref m_reached, .ref m_way, .ref m_aside, .ref m_origin, .ref m_retreats, .ref m_contested, .ref m_moved, .int msh, .ref m_past])), (m_sea, .inl (cZ, 12, .inl (fun j => bI (S j)))), (m_borders, .inl (cZ, 144, .inl (fun j => bI (Bo j)))), (m_units, .inl (cI, 12, .inl fu)), (m_kind, .inl (cI, 12, .inl (fun j => nI (Kd j)))), (m_toX, .inl (cI, 12, .inl (fun j => nI (X j)))), (m_toY, .inl (cI, 12, .inl (fun j => nI (Y j)))), (m_known, .inl (cI, 12, .inl (fun j => nI (K j)))), (m_reached, .inl (cZ, 12, .inl (fun j => bI (Re j))))] sz)) 0 0 (va_A [(g0, .inr (6, [.int co, .int (nI n), .ref m_sea, .ref m_center, .ref m_home, .ref m_borders, .int mp, .int mt, .ref m_owner, .ref m_units, .ref m_kind, .ref m_toX, .ref m_toY, .ref m_results, .ref m_known, .ref m_reached, .ref m_way, .ref m_aside, .ref m_origin, .ref m_retreats, .ref m_contested, .ref m_moved, .int msh, .ref m_past])), (m_sea, .inl (cZ, 12, .inl (fun j => bI (S j)))), (m_borders, .inl (cZ, 144, .inl (fun j => bI (Bo j)))), (m_units, .inl (cI, 12, .inl fu)), (m_kind, .inl (cI, 12, .inl (fun j => nI (Kd j)))), (m_toX, .inl (cI, 12, .inl (fun j => nI (X j)))), (m_toY, .inl (cI, 12, .inl (fun j => nI (Y j)))), (m_known, .inl (cI, 12, .inl (fun j => nI (K j)))), (m_reached, .inl (cZ, 12, .inl (fun j => bI (Re j))))] sz) := by
  refine Met.ofW (cc := b_Mo_carried) (maxL := 8) (ret := (some .boolean)) (by decide) rfl ?_
  intro p e s m args below meth c s₁ B hml hv
  obtain ⟨rfl, hsz, hP, hK, hD0, hX⟩ := hv
  have hx := B.exec
  have hb := B.bytes
  have hr := B.returns
  have hts0 := atoms_spec (ws := w_Mo_carried) B.pre
  have hts : ∀ w ∈ TB, w.before _ s = true := fun w h => hts0 w (List.mem_cons_of_mem _ h)
  have hown : s.vm.findClass R_Mo = some m.cls := findClass_of_methodNamed B.named
  have hlocks := B.notSynchronized
  subst hsz
  have hXl := tx_lt hX
  have hXn := tx_far hP hX
  have hD := hD0.self (sz := s.heap.size)
  generalize hAe : va_A [(g0, .inr (6, [.int co, .int (nI n), .ref m_sea, .ref m_center, .ref m_home, .ref m_borders, .int mp, .int mt, .ref m_owner, .ref m_units, .ref m_kind, .ref m_toX, .ref m_toY, .ref m_results, .ref m_known, .ref m_reached, .ref m_way, .ref m_aside, .ref m_origin, .ref m_retreats, .ref m_contested, .ref m_moved, .int msh, .ref m_past])), (m_sea, .inl (cZ, 12, .inl (fun j => bI (S j)))), (m_borders, .inl (cZ, 144, .inl (fun j => bI (Bo j)))), (m_units, .inl (cI, 12, .inl fu)), (m_kind, .inl (cI, 12, .inl (fun j => nI (Kd j)))), (m_toX, .inl (cI, 12, .inl (fun j => nI (X j)))), (m_toY, .inl (cI, 12, .inl (fun j => nI (Y j)))), (m_known, .inl (cI, 12, .inl (fun j => nI (K j)))), (m_reached, .inl (cZ, 12, .inl (fun j => bI (Re j))))] s.heap.size = A at hD hXn ⊢
  have hA : ∀ q : Nat, s.heap.size ≤ q → A q := fun q h => by rw [← hAe]; exact Or.inr h
  have hS : va_S A s.heap s.heap [] := va_S.rf
  have hXH : s.heap[aT]? = s.heap[aT]? := rfl
  have hl := lv_entry ([.ref g0, .int (nI a), .int (bI su)]) (n := 8) (Nat.le_of_ble_eq_true rfl)
  rw [lg_entry_eq]
  generalize (lg_sl ([.ref g0, .int (nI a), .int (bI su)]) ++ List.replicate (8 - (lg_sl ([.ref g0, .int (nI a), .int (bI su)])).length) Slot.unset).toArray = ls at hl ⊢
  have hl : lv_has ls 8 [(0, .ref g0), (1, .int (nI a)), (2, .int (bI su))] := hl
  refine lv_iconst (v := 0) hx hb d_Mo_carried_0 (by decide) ?_
  refine lv_istore_n (lv' := [(3, .int 0), (0, .ref g0), (1, .int (nI a)), (2, .int (bI su))]) hx hb d_Mo_carried_1 rfl hl (by decide) rfl (fun ls hl => ?_)
  have loop : ∀ (k i : Nat) (ls : Array Slot) (H : Heap) (locs : List Loc), i + k = n → lv_has ls 8 [(3, .int (nI i)), (0, .ref g0), (1, .int (nI a)), (2, .int (bI su))] → va_P D vwCl [(g0, .inr (6, [.int co, .int (nI n), .ref m_sea, .ref m_center, .ref m_home, .ref m_borders, .int mp, .int mt, .ref m_owner, .ref m_units, .ref m_kind, .ref m_toX, .ref m_toY, .ref m_results, .ref m_known, .ref m_reached, .ref m_way, .ref m_aside, .ref m_origin, .ref m_retreats, .ref m_contested, .ref m_moved, .int msh, .ref m_past])), (m_sea, .inl (cZ, 12, .inl (fun j => bI (S j)))), (m_borders, .inl (cZ, 144, .inl (fun j => bI (Bo j)))), (m_units, .inl (cI, 12, .inl fu)), (m_kind, .inl (cI, 12, .inl (fun j => nI (Kd j)))), (m_toX, .inl (cI, 12, .inl (fun j => nI (X j)))), (m_toY, .inl (cI, 12, .inl (fun j => nI (Y j)))), (m_known, .inl (cI, 12, .inl (fun j => nI (K j)))), (m_reached, .inl (cZ, 12, .inl (fun j => bI (cl0 Re i j))))] H → va_D A [(g0, .inr (6, [.int co, .int (nI n), .ref m_sea, .ref m_center, .ref m_home, .ref m_borders, .int mp, .int mt, .ref m_owner, .ref m_units, .ref m_kind, .ref m_toX, .ref m_toY, .ref m_results, .ref m_known, .ref m_reached, .ref m_way, .ref m_aside, .ref m_origin, .ref m_retreats, .ref m_contested, .ref m_moved, .int msh, .ref m_past])), (m_sea, .inl (cZ, 12, .inl (fun j => bI (S j)))), (m_borders, .inl (cZ, 144, .inl (fun j => bI (Bo j)))), (m_units, .inl (cI, 12, .inl fu)), (m_kind, .inl (cI, 12, .inl (fun j => nI (Kd j)))), (m_toX, .inl (cI, 12, .inl (fun j => nI (X j)))), (m_toY, .inl (cI, 12, .inl (fun j => nI (Y j)))), (m_known, .inl (cI, 12, .inl (fun j => nI (K j)))), (m_reached, .inl (cZ, 12, .inl (fun j => bI (cl0 Re i j))))] → va_S A s.heap H locs → W p l e (headSpec w_Mo_carried ({ frames := 3, cells := 0, slots := 0, locals := 67 })).room s m ([.ref g0, .int (nI a), .int (bI su)]).toArray below meth c H locs 0 0 (MQ below (va_Qi (fun (r : Int32) (_ : Unit) => r = bI (crd fu Kd X Y K S Bo n a su)) (fun _ t => ∃ (Re2 : Nat → Bool), tB D A [(g0, .inr (6, [.int co, .int (nI n), .ref m_sea, .ref m_center, .ref m_home, .ref m_borders, .int mp, .int mt, .ref m_owner, .ref m_units, .ref m_kind, .ref m_toX, .ref m_toY, .ref m_results, .ref m_known, .ref m_reached, .ref m_way, .ref m_aside, .ref m_origin, .ref m_retreats, .ref m_contested, .ref m_moved, .int msh, .ref m_past])), (m_sea, .inl (cZ, 12, .inl (fun j => bI (S j)))), (m_borders, .inl (cZ, 144, .inl (fun j => bI (Bo j)))), (m_units, .inl (cI, 12, .inl fu)), (m_kind, .inl (cI, 12, .inl (fun j => nI (Kd j)))), (m_toX, .inl (cI, 12, .inl (fun j => nI (X j)))), (m_toY, .inl (cI, 12, .inl (fun j => nI (Y j)))), (m_known, .inl (cI, 12, .inl (fun j => nI (K j)))), (m_reached, .inl (cZ, 12, .inl (fun j => bI (Re2 j))))] t) A) ([.ref g0, .int (nI a), .int (bI su)]).toArray s 0 0 A) (F0 m 2 ls []) := by
    intro k
    induction k with
    | zero =>
      intro i ls H locs hi hl hP hD hS
      have hie : i = n := by omega
      rw [hie] at hl hP hD
      refine lv_iload_n hx hb d_Mo_carried_2 rfl (lv_at hl 0 rfl) ?_
      refine lv_aload_n hx hb d_Mo_carried_3 rfl (lv_at hl 1 rfl) ?_
      refine va_get (D := D) (ci := 6) (v := .int (nI n)) (C := R_Mo) (T := T_Mo) (N := 24) hx hb hts hin_Mo hown hK hP 0 rfl rfl 1 (by decide) (hts _ wd_705) (fun _ h9 => h9) rfl d_Mo_carried_4 ?_
      refine lv_icmp_ge (tgt := 23) hx hb d_Mo_carried_7 (by decide) (fun _ => ?_) (fun h0 => absurd (Int32.le_refl _) h0)
      refine lv_iconst (v := 1) hx hb d_Mo_carried_23 (by decide) ?_
      refine lv_istore_n (lv' := [(3, .int 1), (0, .ref g0), (1, .int (nI a)), (2, .int (bI su))]) hx hb d_Mo_carried_24 rfl hl (by decide) rfl (fun ls hl => ?_)
      have wh : ∀ (f : Nat) (Rx : Nat → Bool) (ls : Array Slot) (H : Heap) (locs : List Loc), n - numB Rx n < f → (∀ b, b < n → Rx b = true → rcd Bo (cFl fu Kd X Y K S n a su) n a b = true) → lv_has ls 8 [(3, .int 1), (0, .ref g0), (1, .int (nI a)), (2, .int (bI su))] → va_P D vwCl [(g0, .inr (6, [.int co, .int (nI n), .ref m_sea, .ref m_center, .ref m_home, .ref m_borders, .int mp, .int mt, .ref m_owner, .ref m_units, .ref m_kind, .ref m_toX, .ref m_toY, .ref m_results, .ref m_known, .ref m_reached, .ref m_way, .ref m_aside, .ref m_origin, .ref m_retreats, .ref m_contested, .ref m_moved, .int msh, .ref m_past])), (m_sea, .inl (cZ, 12, .inl (fun j => bI (S j)))), (m_borders, .inl (cZ, 144, .inl (fun j => bI (Bo j)))), (m_units, .inl (cI, 12, .inl fu)), (m_kind, .inl (cI, 12, .inl (fun j => nI (Kd j)))), (m_toX, .inl (cI, 12, .inl (fun j => nI (X j)))), (m_toY, .inl (cI, 12, .inl (fun j => nI (Y j)))), (m_known, .inl (cI, 12, .inl (fun j => nI (K j)))), (m_reached, .inl (cZ, 12, .inl (fun j => bI (Rx j))))] H → va_D A [(g0, .inr (6, [.int co, .int (nI n), .ref m_sea, .ref m_center, .ref m_home, .ref m_borders, .int mp, .int mt, .ref m_owner, .ref m_units, .ref m_kind, .ref m_toX, .ref m_toY, .ref m_results, .ref m_known, .ref m_reached, .ref m_way, .ref m_aside, .ref m_origin, .ref m_retreats, .ref m_contested, .ref m_moved, .int msh, .ref m_past])), (m_sea, .inl (cZ, 12, .inl (fun j => bI (S j)))), (m_borders, .inl (cZ, 144, .inl (fun j => bI (Bo j)))), (m_units, .inl (cI, 12, .inl fu)), (m_kind, .inl (cI, 12, .inl (fun j => nI (Kd j)))), (m_toX, .inl (cI, 12, .inl (fun j => nI (X j)))), (m_toY, .inl (cI, 12, .inl (fun j => nI (Y j)))), (m_known, .inl (cI, 12, .inl (fun j => nI (K j)))), (m_reached, .inl (cZ, 12, .inl (fun j => bI (Rx j))))] → va_S A s.heap H locs → W p l e (headSpec w_Mo_carried ({ frames := 3, cells := 0, slots := 0, locals := 67 })).room s m ([.ref g0, .int (nI a), .int (bI su)]).toArray below meth c H locs 0 0 (MQ below (va_Qi (fun (r : Int32) (_ : Unit) => r = bI (crd fu Kd X Y K S Bo n a su)) (fun _ t => ∃ (Re2 : Nat → Bool), tB D A [(g0, .inr (6, [.int co, .int (nI n), .ref m_sea, .ref m_center, .ref m_home, .ref m_borders, .int mp, .int mt, .ref m_owner, .ref m_units, .ref m_kind, .ref m_toX, .ref m_toY, .ref m_results, .ref m_known, .ref m_reached, .ref m_way, .ref m_aside, .ref m_origin, .ref m_retreats, .ref m_contested, .ref m_moved, .int msh, .ref m_past])), (m_sea, .inl (cZ, 12, .inl (fun j => bI (S j)))), (m_borders, .inl (cZ, 144, .inl (fun j => bI (Bo j)))), (m_units, .inl (cI, 12, .inl fu)), (m_kind, .inl (cI, 12, .inl (fun j => nI (Kd j)))), (m_toX, .inl (cI, 12, .inl (fun j => nI (X j)))), (m_toY, .inl (cI, 12, .inl (fun j => nI (Y j)))), (m_known, .inl (cI, 12, .inl (fun j => nI (K j)))), (m_reached, .inl (cZ, 12, .inl (fun j => bI (Re2 j))))] t) A) ([.ref g0, .int (nI a), .int (bI su)]).toArray s 0 0 A) (F0 m 25 ls []) := by
        intro f
        induction f with
        | zero => intro Rx ls H locs hf; exact absurd hf (Nat.not_lt_zero _)
        | succ f ihw =>
          intro Rx ls H locs hf hso hl hP hD hS
          refine lv_iload_n hx hb d_Mo_carried_25 rfl (lv_at hl 0 rfl) ?_
          refine lv_if_eq (tgt := 243) hx hb d_Mo_carried_26 (by decide) (fun h0 => absurd h0 (by decide)) (fun _ => ?_)
          refine lv_iconst (v := 0) hx hb d_Mo_carried_29 (by decide) ?_
          refine lv_istore_n (lv' := [(3, .int 0), (0, .ref g0), (1, .int (nI a)), (2, .int (bI su))]) hx hb d_Mo_carried_30 rfl hl (by decide) rfl (fun ls hl => ?_)
          refine lv_iconst (v := 0) hx hb d_Mo_carried_31 (by decide) ?_
          refine lv_istore (lv' := [(4, .int 0), (3, .int 0), (0, .ref g0), (1, .int (nI a)), (2, .int (bI su))]) hx hb d_Mo_carried_32 hl (by decide) rfl (fun ls hl => ?_)
          have inn : ∀ (k i : Nat) (Ry : Nat → Bool) (mo : Bool) (ls : Array Slot) (H : Heap) (locs : List Loc), i + k = n → crI Bo (cFl fu Kd X Y K S n a su) n a Rx Ry mo i → lv_has ls 8 [(4, .int (nI i)), (3, .int (bI mo)), (0, .ref g0), (1, .int (nI a)), (2, .int (bI su))] → va_P D vwCl [(g0, .inr (6, [.int co, .int (nI n), .ref m_sea, .ref m_center, .ref m_home, .ref m_borders, .int mp, .int mt, .ref m_owner, .ref m_units, .ref m_kind, .ref m_toX, .ref m_toY, .ref m_results, .ref m_known, .ref m_reached, .ref m_way, .ref m_aside, .ref m_origin, .ref m_retreats, .ref m_contested, .ref m_moved, .int msh, .ref m_past])), (m_sea, .inl (cZ, 12, .inl (fun j => bI (S j)))), (m_borders, .inl (cZ, 144, .inl (fun j => bI (Bo j)))), (m_units, .inl (cI, 12, .inl fu)), (m_kind, .inl (cI, 12, .inl (fun j => nI (Kd j)))), (m_toX, .inl (cI, 12, .inl (fun j => nI (X j)))), (m_toY, .inl (cI, 12, .inl (fun j => nI (Y j)))), (m_known, .inl (cI, 12, .inl (fun j => nI (K j)))), (m_reached, .inl (cZ, 12, .inl (fun j => bI (Ry j))))] H → va_D A [(g0, .inr (6, [.int co, .int (nI n), .ref m_sea, .ref m_center, .ref m_home, .ref m_borders, .int mp, .int mt, .ref m_owner, .ref m_units, .ref m_kind, .ref m_toX, .ref m_toY, .ref m_results, .ref m_known, .ref m_reached, .ref m_way, .ref m_aside, .ref m_origin, .ref m_retreats, .ref m_contested, .ref m_moved, .int msh, .ref m_past])), (m_sea, .inl (cZ, 12, .inl (fun j => bI (S j)))), (m_borders, .inl (cZ, 144, .inl (fun j => bI (Bo j)))), (m_units, .inl (cI, 12, .inl fu)), (m_kind, .inl (cI, 12, .inl (fun j => nI (Kd j)))), (m_toX, .inl (cI, 12, .inl (fun j => nI (X j)))), (m_toY, .inl (cI, 12, .inl (fun j => nI (Y j)))), (m_known, .inl (cI, 12, .inl (fun j => nI (K j)))), (m_reached, .inl (cZ, 12, .inl (fun j => bI (Ry j))))] → va_S A s.heap H locs → W p l e (headSpec w_Mo_carried ({ frames := 3, cells := 0, slots := 0, locals := 67 })).room s m ([.ref g0, .int (nI a), .int (bI su)]).toArray below meth c H locs 0 0 (MQ below (va_Qi (fun (r : Int32) (_ : Unit) => r = bI (crd fu Kd X Y K S Bo n a su)) (fun _ t => ∃ (Re2 : Nat → Bool), tB D A [(g0, .inr (6, [.int co, .int (nI n), .ref m_sea, .ref m_center, .ref m_home, .ref m_borders, .int mp, .int mt, .ref m_owner, .ref m_units, .ref m_kind, .ref m_toX, .ref m_toY, .ref m_results, .ref m_known, .ref m_reached, .ref m_way, .ref m_aside, .ref m_origin, .ref m_retreats, .ref m_contested, .ref m_moved, .int msh, .ref m_past])), (m_sea, .inl (cZ, 12, .inl (fun j => bI (S j)))), (m_borders, .inl (cZ, 144, .inl (fun j => bI (Bo j)))), (m_units, .inl (cI, 12, .inl fu)), (m_kind, .inl (cI, 12, .inl (fun j => nI (Kd j)))), (m_toX, .inl (cI, 12, .inl (fun j => nI (X j)))), (m_toY, .inl (cI, 12, .inl (fun j => nI (Y j)))), (m_known, .inl (cI, 12, .inl (fun j => nI (K j)))), (m_reached, .inl (cZ, 12, .inl (fun j => bI (Re2 j))))] t) A) ([.ref g0, .int (nI a), .int (bI su)]).toArray s 0 0 A) (F0 m 34 ls []) := by
            intro k
            induction k with
            | zero =>
              intro i Ry mo ls H locs hi hI hl hP hD hS
              have hie : i = n := by omega
              rw [hie] at hl hI
              refine lv_iload hx hb d_Mo_carried_34 (lv_at hl 0 rfl) ?_
              refine lv_aload_n hx hb d_Mo_carried_36 rfl (lv_at hl 2 rfl) ?_
              refine va_get (D := D) (ci := 6) (v := .int (nI n)) (C := R_Mo) (T := T_Mo) (N := 24) hx hb hts hin_Mo hown hK hP 0 rfl rfl 1 (by decide) (hts _ wd_705) (fun _ h9 => h9) rfl d_Mo_carried_37 ?_
              refine lv_icmp_ge (tgt := 240) hx hb d_Mo_carried_40 (by decide) (fun _ => ?_) (fun h0 => absurd (Int32.le_refl _) h0)
              refine lv_goto (tgt := 25) hx hb d_Mo_carried_240 (by decide) ?_
              cases mo with
              | true =>
                obtain ⟨b9, hb1, hb2, hb3⟩ := hI.2.2.1 rfl
                have hm9 := numB_lt hI.2.1 hb2 hb3 n hb1
                have hm8 := numB_le Ry n
                exact ihw Ry ls H locs (by omega) hI.1 (lv_sub hl [1, 2, 3, 4] rfl) hP hD hS
              | false =>
                obtain ⟨hxy, hcl⟩ := hI.2.2.2 rfl
                have hRe := rcd_eq (Re := Ry) hI.1 (by rw [hxy]; exact hcl)
                have hl : lv_has ls 8 [(4, .int (nI n)), (3, .int 0), (0, .ref g0), (1, .int (nI a)), (2, .int (bI su))] := hl
                refine lv_iload_n hx hb d_Mo_carried_25 rfl (lv_at hl 1 rfl) ?_
                refine lv_if_eq (tgt := 243) hx hb d_Mo_carried_26 (by decide) (fun _ => ?_) (fun h0 => absurd (by decide) h0)
                refine lv_iconst (v := 0) hx hb d_Mo_carried_243 (by decide) ?_
                refine lv_istore (lv' := [(4, .int 0), (3, .int 0), (0, .ref g0), (1, .int (nI a)), (2, .int (bI su))]) hx hb d_Mo_carried_244 hl (by decide) rfl (fun ls hl => ?_)
                refine lv_iconst (v := 0) hx hb d_Mo_carried_246 (by decide) ?_
                refine lv_istore (lv' := [(5, .int 0), (4, .int 0), (3, .int 0), (0, .ref g0), (1, .int (nI a)), (2, .int (bI su))]) hx hb d_Mo_carried_247 hl (by decide) rfl (fun ls hl => ?_)
                have loop : ∀ (k i : Nat) (ls : Array Slot), i + k = n → lv_has ls 8 [(5, .int (nI i)), (4, .int (bI (anyB (fun b => Ry b && Bo (12 * b + X a)) i))), (3, .int 0), (0, .ref g0), (1, .int (nI a)), (2, .int (bI su))] → W p l e (headSpec w_Mo_carried ({ frames := 3, cells := 0, slots := 0, locals := 67 })).room s m ([.ref g0, .int (nI a), .int (bI su)]).toArray below meth c H locs 0 0 (MQ below (va_Qi (fun (r : Int32) (_ : Unit) => r = bI (crd fu Kd X Y K S Bo n a su)) (fun _ t => ∃ (Re2 : Nat → Bool), tB D A [(g0, .inr (6, [.int co, .int (nI n), .ref m_sea, .ref m_center, .ref m_home, .ref m_borders, .int mp, .int mt, .ref m_owner, .ref m_units, .ref m_kind, .ref m_toX, .ref m_toY, .ref m_results, .ref m_known, .ref m_reached, .ref m_way, .ref m_aside, .ref m_origin, .ref m_retreats, .ref m_contested, .ref m_moved, .int msh, .ref m_past])), (m_sea, .inl (cZ, 12, .inl (fun j => bI (S j)))), (m_borders, .inl (cZ, 144, .inl (fun j => bI (Bo j)))), (m_units, .inl (cI, 12, .inl fu)), (m_kind, .inl (cI, 12, .inl (fun j => nI (Kd j)))), (m_toX, .inl (cI, 12, .inl (fun j => nI (X j)))), (m_toY, .inl (cI, 12, .inl (fun j => nI (Y j)))), (m_known, .inl (cI, 12, .inl (fun j => nI (K j)))), (m_reached, .inl (cZ, 12, .inl (fun j => bI (Re2 j))))] t) A) ([.ref g0, .int (nI a), .int (bI su)]).toArray s 0 0 A) (F0 m 249 ls []) := by
                  intro k
                  induction k with
                  | zero =>
                    intro i ls hi hl
                    have hie : i = n := by omega
                    rw [hie] at hl
                    refine lv_iload hx hb d_Mo_carried_249 (lv_at hl 0 rfl) ?_
                    refine lv_aload_n hx hb d_Mo_carried_251 rfl (lv_at hl 3 rfl) ?_
                    refine va_get (D := D) (ci := 6) (v := .int (nI n)) (C := R_Mo) (T := T_Mo) (N := 24) hx hb hts hin_Mo hown hK hP 0 rfl rfl 1 (by decide) (hts _ wd_705) (fun _ h9 => h9) rfl d_Mo_carried_252 ?_
                    refine lv_icmp_ge (tgt := 301) hx hb d_Mo_carried_255 (by decide) (fun _ => ?_) (fun h0 => absurd (Int32.le_refl _) h0)
                    refine lv_iload hx hb d_Mo_carried_301 (lv_at hl 1 rfl) ?_
                    have hP9 := hP.sub (ws' := [(g0, .inr (6, [.int co, .int (nI n), .ref m_sea, .ref m_center, .ref m_home, .ref m_borders, .int mp, .int mt, .ref m_owner, .ref m_units, .ref m_kind, .ref m_toX, .ref m_toY, .ref m_results, .ref m_known, .ref m_reached, .ref m_way, .ref m_aside, .ref m_origin, .ref m_retreats, .ref m_contested, .ref m_moved, .int msh, .ref m_past])), (m_sea, .inl (cZ, 12, .inl (fun j => bI (S j)))), (m_borders, .inl (cZ, 144, .inl (fun j => bI (Bo j)))), (m_units, .inl (cI, 12, .inl fu)), (m_kind, .inl (cI, 12, .inl (fun j => nI (Kd j)))), (m_toX, .inl (cI, 12, .inl (fun j => nI (X j)))), (m_toY, .inl (cI, 12, .inl (fun j => nI (Y j)))), (m_known, .inl (cI, 12, .inl (fun j => nI (K j)))), (m_reached, .inl (cZ, 12, .inl (fun j => bI (Ry j))))]) [0, 1, 2, 3, 4, 5, 6, 7, 8] rfl
                    have hD9 := hD.sub (ws' := [(g0, .inr (6, [.int co, .int (nI n), .ref m_sea, .ref m_center, .ref m_home, .ref m_borders, .int mp, .int mt, .ref m_owner, .ref m_units, .ref m_kind, .ref m_toX, .ref m_toY, .ref m_results, .ref m_known, .ref m_reached, .ref m_way, .ref m_aside, .ref m_origin, .ref m_retreats, .ref m_contested, .ref m_moved, .int msh, .ref m_past])), (m_sea, .inl (cZ, 12, .inl (fun j => bI (S j)))), (m_borders, .inl (cZ, 144, .inl (fun j => bI (Bo j)))), (m_units, .inl (cI, 12, .inl fu)), (m_kind, .inl (cI, 12, .inl (fun j => nI (Kd j)))), (m_toX, .inl (cI, 12, .inl (fun j => nI (X j)))), (m_toY, .inl (cI, 12, .inl (fun j => nI (Y j)))), (m_known, .inl (cI, 12, .inl (fun j => nI (K j)))), (m_reached, .inl (cZ, 12, .inl (fun j => bI (Ry j))))]) [0, 1, 2, 3, 4, 5, 6, 7, 8] (by decide) rfl
                    exact W.zret (v := bI (anyB (fun b => Ry b && Bo (12 * b + X a)) n)) hx hb hr (bI_n _) (fun t ht hW => ⟨⟨bI (anyB (fun b => Ry b && Bo (12 * b + X a)) n), (), rfl, congrArg bI (anyB_congr (fun b hb => by rw [hRe b hb])), Ry, by rw [ht]; exact hP9, hD9⟩, hS.F ht⟩) hS.2.2 d_Mo_carried_303
                  | succ k ih =>
                    intro i ls hi hl
                    have hlt : i < n := by omega
                    have hlt12 : i < 12 := by omega
                    refine lv_iload hx hb d_Mo_carried_249 (lv_at hl 0 rfl) ?_
                    refine lv_aload_n hx hb d_Mo_carried_251 rfl (lv_at hl 3 rfl) ?_
                    refine va_get (D := D) (ci := 6) (v := .int (nI n)) (C := R_Mo) (T := T_Mo) (N := 24) hx hb hts hin_Mo hown hK hP 0 rfl rfl 1 (by decide) (hts _ wd_705) (fun _ h9 => h9) rfl d_Mo_carried_252 ?_
                    refine lv_icmp_ge (tgt := 301) hx hb d_Mo_carried_255 (by decide) (fun h0 => absurd h0 (nI_ge hlt (by omega))) (fun _ => ?_)
                    refine lv_iload hx hb d_Mo_carried_258 (lv_at hl 1 rfl) ?_
                    rcases bI_c (anyB (fun b => Ry b && Bo (12 * b + X a)) i) with ⟨hb8, e9⟩ | ⟨hb8, e9⟩
                    · refine tr_top e9 ?_
                      refine lv_if_ne (tgt := 288) hx hb d_Mo_carried_260 (by decide) (fun _ => ?_) (fun h0 => absurd h0 (by decide))
                      refine lv_iconst (v := 1) hx hb d_Mo_carried_288 (by decide) ?_
                      refine lv_goto (tgt := 293) hx hb d_Mo_carried_289 (by decide) ?_
                      refine lv_istore (lv' := [(4, .int 1), (5, .int (nI i)), (3, .int 0), (0, .ref g0), (1, .int (nI a)), (2, .int (bI su))]) hx hb d_Mo_carried_293 hl (by decide) rfl (fun ls hl => ?_)
                      refine lv_iinc (lv' := [(5, .int ((nI i) + 1)), (4, .int 1), (3, .int 0), (0, .ref g0), (1, .int (nI a)), (2, .int (bI su))]) hx hb d_Mo_carried_295 hl (k := 1) rfl rfl (by decide) rfl (fun ls hl => ?_)
                      refine lv_goto (tgt := 249) hx hb d_Mo_carried_298 (by decide) ?_
                      have e10 : (nI i) + 1 = nI (i + 1) := nI_1 i
                      have e11 : 1 = bI (anyB (fun b => Ry b && Bo (12 * b + X a)) (i + 1)) := (bI_t (show (anyB (fun b => Ry b && Bo (12 * b + X a)) i || (Ry i && Bo (12 * i + X a))) = true by simp [hb8])).symm
                      exact ih (i + 1) ls (by omega) (by rw [← e10, ← e11]; exact lv_sub hl [0, 1, 2, 3, 4, 5] rfl)
                    · refine tr_top e9 ?_
                      refine lv_if_ne (tgt := 288) hx hb d_Mo_carried_260 (by decide) (fun h0 => absurd (by decide) h0) (fun _ => ?_)
                      refine lv_aload_n hx hb d_Mo_carried_263 rfl (lv_at hl 3 rfl) ?_
                      refine va_get (D := D) (ci := 6) (v := .ref m_reached) (C := R_Mo) (T := T_Mo) (N := 24) hx hb hts hin_Mo hown hK hP 0 rfl rfl 15 (by decide) (hts _ wd_719) (fun _ h9 => h9) rfl d_Mo_carried_264 ?_
                      refine lv_iload hx hb d_Mo_carried_267 (lv_at hl 0 rfl) ?_
                      refine tr_zald (v := bI (Ry i)) hx hb hK hP 8 1 rfl rfl i hlt12 (by decide) rfl d_Mo_carried_269 ?_
                      rcases bI_c (Ry i) with ⟨hb14, e9⟩ | ⟨hb14, e9⟩
                      · refine tr_top e9 ?_
                        refine lv_if_eq (tgt := 292) hx hb d_Mo_carried_270 (by decide) (fun h0 => absurd h0 (by decide)) (fun _ => ?_)
                        refine lv_aload_n hx hb d_Mo_carried_273 rfl (lv_at hl 3 rfl) ?_
                        refine lv_iload hx hb d_Mo_carried_274 (lv_at hl 0 rfl) ?_
                        refine lv_aload_n hx hb d_Mo_carried_276 rfl (lv_at hl 3 rfl) ?_
                        refine va_get (D := D) (ci := 6) (v := .ref m_toX) (C := R_Mo) (T := T_Mo) (N := 24) hx hb hts hin_Mo hown hK hP 0 rfl rfl 11 (by decide) (hts _ wd_715) (fun _ h9 => h9) rfl d_Mo_carried_277 ?_
                        refine lv_iload_n hx hb d_Mo_carried_280 rfl (lv_at hl 4 rfl) ?_
                        refine tr_iald (v := nI (X a)) hx hb hK hP 5 0 rfl rfl a h_a (by decide) rfl d_Mo_carried_281 ?_
                        have hPc := hP.sub (ws' := [(g0, .inr (6, [.int co, .int (nI n), .ref m_sea, .ref m_center, .ref m_home, .ref m_borders, .int mp, .int mt, .ref m_owner, .ref m_units, .ref m_kind, .ref m_toX, .ref m_toY, .ref m_results, .ref m_known, .ref m_reached, .ref m_way, .ref m_aside, .ref m_origin, .ref m_retreats, .ref m_contested, .ref m_moved, .int msh, .ref m_past])), (m_borders, .inl (cZ, 144, .inl (fun j => bI (Bo j))))]) [0, 2] rfl
                        refine vp_callSi (va_Run.run (va_runV (As := [.int (nI i), .int (nI (X a))]) (rest := []) ⟨hx, hb, hml, hown, hts⟩ (c_Mo_border2 l D cI cZ cJ cS aT ceT  g0 m_sea m_center m_home m_borders m_owner m_units m_kind m_toX m_toY m_results m_known m_reached m_way m_aside m_origin m_retreats m_contested m_moved m_past n co mp mt msh Bo i (X a) hlt12 (hX9 _)) (cwV 2 hts (tb_4 wd_794 wd_796 wp_37 wd_8 (tb_c wd_797)) rfl rfl rfl ⟨rfl, by decide, by decide, by decide +kernel⟩ ⟨Nat.le_of_ble_eq_true rfl, Nat.le_of_ble_eq_true rfl⟩) (tP_V hK hX (hS.2.1 aT hXl hXn) hPc (q := 0) rfl rfl) rfl rfl hl.1 rfl (lv_room (Nat.le_of_ble_eq_true rfl)) d_Mo_carried_282 ⟨Nat.le_of_ble_eq_true rfl, Nat.le_of_ble_eq_true rfl⟩)) (fun r16 hr9 => ?_)
                        rw [hr9]
                        rcases bI_c (Bo (12 * i + (X a))) with ⟨hb18, e9⟩ | ⟨hb18, e9⟩
                        · refine tr_top e9 ?_
                          refine lv_if_eq (tgt := 292) hx hb d_Mo_carried_285 (by decide) (fun h0 => absurd h0 (by decide)) (fun _ => ?_)
                          refine lv_iconst (v := 1) hx hb d_Mo_carried_288 (by decide) ?_
                          refine lv_goto (tgt := 293) hx hb d_Mo_carried_289 (by decide) ?_
                          refine lv_istore (lv' := [(4, .int 1), (5, .int (nI i)), (3, .int 0), (0, .ref g0), (1, .int (nI a)), (2, .int (bI su))]) hx hb d_Mo_carried_293 hl (by decide) rfl (fun ls hl => ?_)
                          refine lv_iinc (lv' := [(5, .int ((nI i) + 1)), (4, .int 1), (3, .int 0), (0, .ref g0), (1, .int (nI a)), (2, .int (bI su))]) hx hb d_Mo_carried_295 hl (k := 1) rfl rfl (by decide) rfl (fun ls hl => ?_)
                          refine lv_goto (tgt := 249) hx hb d_Mo_carried_298 (by decide) ?_
                          have e20 : (nI i) + 1 = nI (i + 1) := nI_1 i
                          have e21 : 1 = bI (anyB (fun b => Ry b && Bo (12 * b + X a)) (i + 1)) := (bI_t (show (anyB (fun b => Ry b && Bo (12 * b + X a)) i || (Ry i && Bo (12 * i + X a))) = true by simp [hb8, hb14, hb18])).symm
                          exact ih (i + 1) ls (by omega) (by rw [← e20, ← e21]; exact lv_sub hl [0, 1, 2, 3, 4, 5] rfl)
                        · refine tr_top e9 ?_
                          refine lv_if_eq (tgt := 292) hx hb d_Mo_carried_285 (by decide) (fun _ => ?_) (fun h0 => absurd (by decide) h0)
                          refine lv_iconst (v := 0) hx hb d_Mo_carried_292 (by decide) ?_
                          refine lv_istore (lv' := [(4, .int 0), (5, .int (nI i)), (3, .int 0), (0, .ref g0), (1, .int (nI a)), (2, .int (bI su))]) hx hb d_Mo_carried_293 hl (by decide) rfl (fun ls hl => ?_)
                          refine lv_iinc (lv' := [(5, .int ((nI i) + 1)), (4, .int 0), (3, .int 0), (0, .ref g0), (1, .int (nI a)), (2, .int (bI su))]) hx hb d_Mo_carried_295 hl (k := 1) rfl rfl (by decide) rfl (fun ls hl => ?_)
                          refine lv_goto (tgt := 249) hx hb d_Mo_carried_298 (by decide) ?_
                          have e23 : (nI i) + 1 = nI (i + 1) := nI_1 i
                          have e24 : 0 = bI (anyB (fun b => Ry b && Bo (12 * b + X a)) (i + 1)) := (bI_f (show (anyB (fun b => Ry b && Bo (12 * b + X a)) i || (Ry i && Bo (12 * i + X a))) = false by simp [hb8, hb14, hb18])).symm
                          exact ih (i + 1) ls (by omega) (by rw [← e23, ← e24]; exact lv_sub hl [0, 1, 2, 3, 4, 5] rfl)
                      · refine tr_top e9 ?_
                        refine lv_if_eq (tgt := 292) hx hb d_Mo_carried_270 (by decide) (fun _ => ?_) (fun h0 => absurd (by decide) h0)
                        refine lv_iconst (v := 0) hx hb d_Mo_carried_292 (by decide) ?_
                        refine lv_istore (lv' := [(4, .int 0), (5, .int (nI i)), (3, .int 0), (0, .ref g0), (1, .int (nI a)), (2, .int (bI su))]) hx hb d_Mo_carried_293 hl (by decide) rfl (fun ls hl => ?_)
                        refine lv_iinc (lv' := [(5, .int ((nI i) + 1)), (4, .int 0), (3, .int 0), (0, .ref g0), (1, .int (nI a)), (2, .int (bI su))]) hx hb d_Mo_carried_295 hl (k := 1) rfl rfl (by decide) rfl (fun ls hl => ?_)
                        refine lv_goto (tgt := 249) hx hb d_Mo_carried_298 (by decide) ?_
                        have e26 : (nI i) + 1 = nI (i + 1) := nI_1 i
                        have e27 : 0 = bI (anyB (fun b => Ry b && Bo (12 * b + X a)) (i + 1)) := (bI_f (show (anyB (fun b => Ry b && Bo (12 * b + X a)) i || (Ry i && Bo (12 * i + X a))) = false by simp [hb8, hb14])).symm
                        exact ih (i + 1) ls (by omega) (by rw [← e26, ← e27]; exact lv_sub hl [0, 1, 2, 3, 4, 5] rfl)
                exact loop n 0 ls (Nat.zero_add _) hl
            | succ k ih =>
              intro i Ry mo ls H locs hi hI hl hP hD hS
              have hlt : i < n := by omega
              have hlt12 : i < 12 := by omega
              refine lv_iload hx hb d_Mo_carried_34 (lv_at hl 0 rfl) ?_
              refine lv_aload_n hx hb d_Mo_carried_36 rfl (lv_at hl 2 rfl) ?_
              refine va_get (D := D) (ci := 6) (v := .int (nI n)) (C := R_Mo) (T := T_Mo) (N := 24) hx hb hts hin_Mo hown hK hP 0 rfl rfl 1 (by decide) (hts _ wd_705) (fun _ h9 => h9) rfl d_Mo_carried_37 ?_
              refine lv_icmp_ge (tgt := 240) hx hb d_Mo_carried_40 (by decide) (fun h0 => absurd h0 (nI_ge hlt (by omega))) (fun _ => ?_)
              refine lv_aload_n hx hb d_Mo_carried_43 rfl (lv_at hl 2 rfl) ?_
              refine va_get (D := D) (ci := 6) (v := .ref m_reached) (C := R_Mo) (T := T_Mo) (N := 24) hx hb hts hin_Mo hown hK hP 0 rfl rfl 15 (by decide) (hts _ wd_719) (fun _ h9 => h9) rfl d_Mo_carried_44 ?_
              refine lv_iload hx hb d_Mo_carried_47 (lv_at hl 0 rfl) ?_
              refine tr_zald (v := bI (Ry i)) hx hb hK hP 8 1 rfl rfl i hlt12 (by decide) rfl d_Mo_carried_49 ?_
              rcases bI_c (Ry i) with ⟨hb30, e9⟩ | ⟨hb30, e9⟩
              · refine tr_top e9 ?_
                refine lv_if_ne (tgt := 115) hx hb d_Mo_carried_50 (by decide) (fun _ => ?_) (fun h0 => absurd h0 (by decide))
                refine lv_iconst (v := 0) hx hb d_Mo_carried_115 (by decide) ?_
                refine lv_istore (lv' := [(5, .int 0), (4, .int (nI i)), (3, .int (bI mo)), (0, .ref g0), (1, .int (nI a)), (2, .int (bI su))]) hx hb d_Mo_carried_116 hl (by decide) rfl (fun ls hl => ?_)
                refine lv_iload hx hb d_Mo_carried_118 (lv_at hl 0 rfl) ?_
                refine lv_if_eq (tgt := 234) hx hb d_Mo_carried_120 (by decide) (fun _ => ?_) (fun h0 => absurd (by decide) h0)
                refine lv_iinc (lv' := [(4, .int ((nI i) + 1)), (5, .int 0), (3, .int (bI mo)), (0, .ref g0), (1, .int (nI a)), (2, .int (bI su))]) hx hb d_Mo_carried_234 hl (k := 1) rfl rfl (by decide) rfl (fun ls hl => ?_)
                refine lv_goto (tgt := 34) hx hb d_Mo_carried_237 (by decide) ?_
                have e4 : nI i + 1 = nI (i + 1) := nI_1 i
                have hI2 := crI_skip hI (by first | exact Or.inl (by assumption) | exact Or.inr (by simp [cFl, hb30]))
                exact ih (i + 1) Ry mo ls H locs (by omega) hI2 (by rw [← e4]; exact lv_sub hl [0, 2, 3, 4, 5] rfl) hP hD hS
              · refine tr_top e9 ?_
                refine lv_if_ne (tgt := 115) hx hb d_Mo_carried_50 (by decide) (fun h0 => absurd (by decide) h0) (fun _ => ?_)
                refine lv_aload_n hx hb d_Mo_carried_53 rfl (lv_at hl 2 rfl) ?_
                refine va_get (D := D) (ci := 6) (v := .ref m_sea) (C := R_Mo) (T := T_Mo) (N := 24) hx hb hts hin_Mo hown hK hP 0 rfl rfl 2 (by decide) (hts _ wd_706) (fun _ h9 => h9) rfl d_Mo_carried_54 ?_
                refine lv_iload hx hb d_Mo_carried_57 (lv_at hl 0 rfl) ?_
                refine tr_zald (v := bI (S i)) hx hb hK hP 1 1 rfl rfl i hlt12 (by decide) rfl d_Mo_carried_59 ?_
                rcases bI_c (S i) with ⟨hb35, e9⟩ | ⟨hb35, e9⟩
                · refine tr_top e9 ?_
                  refine lv_if_eq (tgt := 115) hx hb d_Mo_carried_60 (by decide) (fun h0 => absurd h0 (by decide)) (fun _ => ?_)
                  refine lv_aload_n hx hb d_Mo_carried_63 rfl (lv_at hl 2 rfl) ?_
                  refine va_get (D := D) (ci := 6) (v := .ref m_units) (C := R_Mo) (T := T_Mo) (N := 24) hx hb hts hin_Mo hown hK hP 0 rfl rfl 9 (by decide) (hts _ wd_713) (fun _ h9 => h9) rfl d_Mo_carried_64 ?_
                  refine lv_iload hx hb d_Mo_carried_67 (lv_at hl 0 rfl) ?_
                  refine tr_iald (v := fu i) hx hb hK hP 3 0 rfl rfl i hlt12 (by decide) rfl d_Mo_carried_69 ?_
                  refine lv_if_lt (tgt := 115) hx hb d_Mo_carried_70 (by decide) (fun hc37 => ?_) (fun hc37 => ?_)
                  · -- 70 taken
                    refine lv_iconst (v := 0) hx hb d_Mo_carried_115 (by decide) ?_
                    refine lv_istore (lv' := [(5, .int 0), (4, .int (nI i)), (3, .int (bI mo)), (0, .ref g0), (1, .int (nI a)), (2, .int (bI su))]) hx hb d_Mo_carried_116 hl (by decide) rfl (fun ls hl => ?_)
                    refine lv_iload hx hb d_Mo_carried_118 (lv_at hl 0 rfl) ?_
                    refine lv_if_eq (tgt := 234) hx hb d_Mo_carried_120 (by decide) (fun _ => ?_) (fun h0 => absurd (by decide) h0)
                    refine lv_iinc (lv' := [(4, .int ((nI i) + 1)), (5, .int 0), (3, .int (bI mo)), (0, .ref g0), (1, .int (nI a)), (2, .int (bI su))]) hx hb d_Mo_carried_234 hl (k := 1) rfl rfl (by decide) rfl (fun ls hl => ?_)
                    refine lv_goto (tgt := 34) hx hb d_Mo_carried_237 (by decide) ?_
                    have e4 : nI i + 1 = nI (i + 1) := nI_1 i
                    have hI2 := crI_skip hI (by first | exact Or.inl (by assumption) | exact Or.inr (by simp [cFl, hb30, hb35, hc37]))
                    exact ih (i + 1) Ry mo ls H locs (by omega) hI2 (by rw [← e4]; exact lv_sub hl [0, 2, 3, 4, 5] rfl) hP hD hS
                  · -- 70 not taken
                    refine lv_aload_n hx hb d_Mo_carried_73 rfl (lv_at hl 2 rfl) ?_
                    refine va_get (D := D) (ci := 6) (v := .ref m_kind) (C := R_Mo) (T := T_Mo) (N := 24) hx hb hts hin_Mo hown hK hP 0 rfl rfl 10 (by decide) (hts _ wd_714) (fun _ h9 => h9) rfl d_Mo_carried_74 ?_
                    refine lv_iload hx hb d_Mo_carried_77 (lv_at hl 0 rfl) ?_
                    refine tr_iald (v := nI (Kd i)) hx hb hK hP 4 0 rfl rfl i hlt12 (by decide) rfl d_Mo_carried_79 ?_
                    refine lv_iconst (v := 3) hx hb d_Mo_carried_80 (by decide) ?_
                    refine lv_icmp_ne (tgt := 115) hx hb d_Mo_carried_81 (by decide) (fun hc39 => ?_) (fun hc39 => ?_)
                    · -- 81 taken
                      have hc39 : ¬ Kd i = 3 := fun h9 => hc39 (congrArg nI h9)
                      refine lv_iconst (v := 0) hx hb d_Mo_carried_115 (by decide) ?_
                      refine lv_istore (lv' := [(5, .int 0), (4, .int (nI i)), (3, .int (bI mo)), (0, .ref g0), (1, .int (nI a)), (2, .int (bI su))]) hx hb d_Mo_carried_116 hl (by decide) rfl (fun ls hl => ?_)
                      refine lv_iload hx hb d_Mo_carried_118 (lv_at hl 0 rfl) ?_
                      refine lv_if_eq (tgt := 234) hx hb d_Mo_carried_120 (by decide) (fun _ => ?_) (fun h0 => absurd (by decide) h0)
                      refine lv_iinc (lv' := [(4, .int ((nI i) + 1)), (5, .int 0), (3, .int (bI mo)), (0, .ref g0), (1, .int (nI a)), (2, .int (bI su))]) hx hb d_Mo_carried_234 hl (k := 1) rfl rfl (by decide) rfl (fun ls hl => ?_)
                      refine lv_goto (tgt := 34) hx hb d_Mo_carried_237 (by decide) ?_
                      have e4 : nI i + 1 = nI (i + 1) := nI_1 i
                      have hI2 := crI_skip hI (by first | exact Or.inl (by assumption) | exact Or.inr (by simp [cFl, hb30, hb35, hc37, hc39]))
                      exact ih (i + 1) Ry mo ls H locs (by omega) hI2 (by rw [← e4]; exact lv_sub hl [0, 2, 3, 4, 5] rfl) hP hD hS
                    · -- 81 not taken
                      have hc39 : Kd i = 3 := (nI_lit (Nat.lt_trans (hKd _) (by decide)) (by decide)).mp hc39
                      refine lv_aload_n hx hb d_Mo_carried_84 rfl (lv_at hl 2 rfl) ?_
                      refine va_get (D := D) (ci := 6) (v := .ref m_toX) (C := R_Mo) (T := T_Mo) (N := 24) hx hb hts hin_Mo hown hK hP 0 rfl rfl 11 (by decide) (hts _ wd_715) (fun _ h9 => h9) rfl d_Mo_carried_85 ?_
                      refine lv_iload hx hb d_Mo_carried_88 (lv_at hl 0 rfl) ?_
                      refine tr_iald (v := nI (X i)) hx hb hK hP 5 0 rfl rfl i hlt12 (by decide) rfl d_Mo_carried_90 ?_
                      refine lv_iload_n hx hb d_Mo_carried_91 rfl (lv_at hl 3 rfl) ?_
                      refine lv_icmp_ne (tgt := 115) hx hb d_Mo_carried_92 (by decide) (fun hc41 => ?_) (fun hc41 => ?_)
                      · -- 92 taken
                        have hc41 : ¬ X i = a := fun h9 => hc41 (congrArg nI h9)
                        refine lv_iconst (v := 0) hx hb d_Mo_carried_115 (by decide) ?_
                        refine lv_istore (lv' := [(5, .int 0), (4, .int (nI i)), (3, .int (bI mo)), (0, .ref g0), (1, .int (nI a)), (2, .int (bI su))]) hx hb d_Mo_carried_116 hl (by decide) rfl (fun ls hl => ?_)
                        refine lv_iload hx hb d_Mo_carried_118 (lv_at hl 0 rfl) ?_
                        refine lv_if_eq (tgt := 234) hx hb d_Mo_carried_120 (by decide) (fun _ => ?_) (fun h0 => absurd (by decide) h0)
                        refine lv_iinc (lv' := [(4, .int ((nI i) + 1)), (5, .int 0), (3, .int (bI mo)), (0, .ref g0), (1, .int (nI a)), (2, .int (bI su))]) hx hb d_Mo_carried_234 hl (k := 1) rfl rfl (by decide) rfl (fun ls hl => ?_)
                        refine lv_goto (tgt := 34) hx hb d_Mo_carried_237 (by decide) ?_
                        have e4 : nI i + 1 = nI (i + 1) := nI_1 i
                        have hI2 := crI_skip hI (by first | exact Or.inl (by assumption) | exact Or.inr (by simp [cFl, hb30, hb35, hc37, hc39, hc41]))
                        exact ih (i + 1) Ry mo ls H locs (by omega) hI2 (by rw [← e4]; exact lv_sub hl [0, 2, 3, 4, 5] rfl) hP hD hS
                      · -- 92 not taken
                        have hc41 : X i = a := (nI_lit (Nat.lt_trans (hX9 _) (by decide)) (Nat.lt_trans h_a (by decide))).mp hc41
                        refine lv_aload_n hx hb d_Mo_carried_95 rfl (lv_at hl 2 rfl) ?_
                        refine va_get (D := D) (ci := 6) (v := .ref m_toY) (C := R_Mo) (T := T_Mo) (N := 24) hx hb hts hin_Mo hown hK hP 0 rfl rfl 12 (by decide) (hts _ wd_716) (fun _ h9 => h9) rfl d_Mo_carried_96 ?_
                        refine lv_iload hx hb d_Mo_carried_99 (lv_at hl 0 rfl) ?_
                        refine tr_iald (v := nI (Y i)) hx hb hK hP 6 0 rfl rfl i hlt12 (by decide) rfl d_Mo_carried_101 ?_
                        refine lv_aload_n hx hb d_Mo_carried_102 rfl (lv_at hl 2 rfl) ?_
                        refine va_get (D := D) (ci := 6) (v := .ref m_toX) (C := R_Mo) (T := T_Mo) (N := 24) hx hb hts hin_Mo hown hK hP 0 rfl rfl 11 (by decide) (hts _ wd_715) (fun _ h9 => h9) rfl d_Mo_carried_103 ?_
                        refine lv_iload_n hx hb d_Mo_carried_106 rfl (lv_at hl 3 rfl) ?_
                        refine tr_iald (v := nI (X a)) hx hb hK hP 5 0 rfl rfl a h_a (by decide) rfl d_Mo_carried_107 ?_
                        refine lv_icmp_ne (tgt := 115) hx hb d_Mo_carried_108 (by decide) (fun hc43 => ?_) (fun hc43 => ?_)
                        · -- 108 taken
                          have hc43 : ¬ Y i = X a := fun h9 => hc43 (congrArg nI h9)
                          refine lv_iconst (v := 0) hx hb d_Mo_carried_115 (by decide) ?_
                          refine lv_istore (lv' := [(5, .int 0), (4, .int (nI i)), (3, .int (bI mo)), (0, .ref g0), (1, .int (nI a)), (2, .int (bI su))]) hx hb d_Mo_carried_116 hl (by decide) rfl (fun ls hl => ?_)
                          refine lv_iload hx hb d_Mo_carried_118 (lv_at hl 0 rfl) ?_
                          refine lv_if_eq (tgt := 234) hx hb d_Mo_carried_120 (by decide) (fun _ => ?_) (fun h0 => absurd (by decide) h0)
                          refine lv_iinc (lv' := [(4, .int ((nI i) + 1)), (5, .int 0), (3, .int (bI mo)), (0, .ref g0), (1, .int (nI a)), (2, .int (bI su))]) hx hb d_Mo_carried_234 hl (k := 1) rfl rfl (by decide) rfl (fun ls hl => ?_)
                          refine lv_goto (tgt := 34) hx hb d_Mo_carried_237 (by decide) ?_
                          have e4 : nI i + 1 = nI (i + 1) := nI_1 i
                          have hI2 := crI_skip hI (by first | exact Or.inl (by assumption) | exact Or.inr (by simp [cFl, hb30, hb35, hc37, hc39, hc41, hc43]))
                          exact ih (i + 1) Ry mo ls H locs (by omega) hI2 (by rw [← e4]; exact lv_sub hl [0, 2, 3, 4, 5] rfl) hP hD hS
                        · -- 108 not taken
                          have hc43 : Y i = X a := (nI_lit (Nat.lt_trans (hY9 _) (by decide)) (Nat.lt_trans (hX9 _) (by decide))).mp hc43
                          refine lv_iconst (v := 1) hx hb d_Mo_carried_111 (by decide) ?_
                          refine lv_goto (tgt := 116) hx hb d_Mo_carried_112 (by decide) ?_
                          refine lv_istore (lv' := [(5, .int 1), (4, .int (nI i)), (3, .int (bI mo)), (0, .ref g0), (1, .int (nI a)), (2, .int (bI su))]) hx hb d_Mo_carried_116 hl (by decide) rfl (fun ls hl => ?_)
                          refine lv_iload hx hb d_Mo_carried_118 (lv_at hl 0 rfl) ?_
                          refine lv_if_eq (tgt := 234) hx hb d_Mo_carried_120 (by decide) (fun h0 => absurd h0 (by decide)) (fun _ => ?_)
                          refine lv_aload_n hx hb d_Mo_carried_123 rfl (lv_at hl 3 rfl) ?_
                          refine lv_iload hx hb d_Mo_carried_124 (lv_at hl 1 rfl) ?_
                          have hPc := hP.sub (ws' := [(g0, .inr (6, [.int co, .int (nI n), .ref m_sea, .ref m_center, .ref m_home, .ref m_borders, .int mp, .int mt, .ref m_owner, .ref m_units, .ref m_kind, .ref m_toX, .ref m_toY, .ref m_results, .ref m_known, .ref m_reached, .ref m_way, .ref m_aside, .ref m_origin, .ref m_retreats, .ref m_contested, .ref m_moved, .int msh, .ref m_past])), (m_units, .inl (cI, 12, .inl fu)), (m_kind, .inl (cI, 12, .inl (fun j => nI (Kd j)))), (m_toX, .inl (cI, 12, .inl (fun j => nI (X j)))), (m_known, .inl (cI, 12, .inl (fun j => nI (K j))))]) [0, 3, 4, 5, 7] rfl
                          refine vp_callSi (va_Run.run (va_runV (As := [.int (nI i)]) (rest := []) ⟨hx, hb, hml, hown, hts⟩ (c_Mo_displacedAt l D cI cZ cJ cS aT ceT  g0 m_sea m_center m_home m_borders m_owner m_units m_kind m_toX m_toY m_results m_known m_reached m_way m_aside m_origin m_retreats m_contested m_moved m_past n co mp mt msh fu Kd X K i hKd hX9 hK9 hlt12 hn) (cwV 1 hts (tb_4 wd_889 wd_891 wp_56 wd_8 (tb_c wd_892)) rfl rfl rfl ⟨rfl, by decide, by decide, by decide +kernel⟩ ⟨Nat.le_of_ble_eq_true rfl, Nat.le_of_ble_eq_true rfl⟩) (tP_V hK hX (hS.2.1 aT hXl hXn) hPc (q := 0) rfl rfl) rfl rfl hl.1 rfl (lv_room (Nat.le_of_ble_eq_true rfl)) d_Mo_carried_126 ⟨Nat.le_of_ble_eq_true rfl, Nat.le_of_ble_eq_true rfl⟩)) (fun r46 hr9 => ?_)
                          rw [hr9]
                          refine lv_iconst (v := 1) hx hb d_Mo_carried_129 (by decide) ?_
                          refine lv_icmp_eq (tgt := 234) hx hb d_Mo_carried_130 (by decide) (fun hc47 => ?_) (fun hc47 => ?_)
                          · -- 130 taken
                            have hc47 : dsA fu Kd X K n i = 1 := (nI_lit (Nat.lt_trans (dsA_lt _ _ _ _ _ _) (by decide)) (by decide)).mp hc47
                            refine lv_iinc (lv' := [(4, .int ((nI i) + 1)), (5, .int 1), (3, .int (bI mo)), (0, .ref g0), (1, .int (nI a)), (2, .int (bI su))]) hx hb d_Mo_carried_234 hl (k := 1) rfl rfl (by decide) rfl (fun ls hl => ?_)
                            refine lv_goto (tgt := 34) hx hb d_Mo_carried_237 (by decide) ?_
                            have e4 : nI i + 1 = nI (i + 1) := nI_1 i
                            have hI2 := crI_skip hI (by first | exact Or.inl (by assumption) | exact Or.inr (by simp [cFl, hb30, hb35, hc37, hc39, hc41, hc43, hc47]))
                            exact ih (i + 1) Ry mo ls H locs (by omega) hI2 (by rw [← e4]; exact lv_sub hl [0, 2, 3, 4, 5] rfl) hP hD hS
                          · -- 130 not taken
                            have hc47 : ¬ dsA fu Kd X K n i = 1 := fun h9 => hc47 (congrArg nI h9)
                            refine lv_iload_n hx hb d_Mo_carried_133 rfl (lv_at hl 5 rfl) ?_
                            rcases bI_c (su) with ⟨hb49, e9⟩ | ⟨hb49, e9⟩
                            · refine tr_top e9 ?_
                              refine lv_if_eq (tgt := 150) hx hb d_Mo_carried_134 (by decide) (fun h0 => absurd h0 (by decide)) (fun _ => ?_)
                              refine lv_aload_n hx hb d_Mo_carried_137 rfl (lv_at hl 3 rfl) ?_
                              refine lv_iload hx hb d_Mo_carried_138 (lv_at hl 1 rfl) ?_
                              have hPc := hP.sub (ws' := [(g0, .inr (6, [.int co, .int (nI n), .ref m_sea, .ref m_center, .ref m_home, .ref m_borders, .int mp, .int mt, .ref m_owner, .ref m_units, .ref m_kind, .ref m_toX, .ref m_toY, .ref m_results, .ref m_known, .ref m_reached, .ref m_way, .ref m_aside, .ref m_origin, .ref m_retreats, .ref m_contested, .ref m_moved, .int msh, .ref m_past])), (m_units, .inl (cI, 12, .inl fu)), (m_kind, .inl (cI, 12, .inl (fun j => nI (Kd j)))), (m_toX, .inl (cI, 12, .inl (fun j => nI (X j)))), (m_known, .inl (cI, 12, .inl (fun j => nI (K j))))]) [0, 3, 4, 5, 7] rfl
                              refine vp_callSi (va_Run.run (va_runV (As := [.int (nI i)]) (rest := []) ⟨hx, hb, hml, hown, hts⟩ (c_Mo_displacedAt l D cI cZ cJ cS aT ceT  g0 m_sea m_center m_home m_borders m_owner m_units m_kind m_toX m_toY m_results m_known m_reached m_way m_aside m_origin m_retreats m_contested m_moved m_past n co mp mt msh fu Kd X K i hKd hX9 hK9 hlt12 hn) (cwV 1 hts (tb_4 wd_889 wd_891 wp_56 wd_8 (tb_c wd_892)) rfl rfl rfl ⟨rfl, by decide, by decide, by decide +kernel⟩ ⟨Nat.le_of_ble_eq_true rfl, Nat.le_of_ble_eq_true rfl⟩) (tP_V hK hX (hS.2.1 aT hXl hXn) hPc (q := 0) rfl rfl) rfl rfl hl.1 rfl (lv_room (Nat.le_of_ble_eq_true rfl)) d_Mo_carried_140 ⟨Nat.le_of_ble_eq_true rfl, Nat.le_of_ble_eq_true rfl⟩)) (fun r51 hr9 => ?_)
                              rw [hr9]
                              refine lv_iconst (v := 2) hx hb d_Mo_carried_143 (by decide) ?_
                              refine lv_icmp_eq (tgt := 150) hx hb d_Mo_carried_144 (by decide) (fun hc52 => ?_) (fun hc52 => ?_)
                              · -- 144 taken
                                have hc52 : dsA fu Kd X K n i = 2 := (nI_lit (Nat.lt_trans (dsA_lt _ _ _ _ _ _) (by decide)) (by decide)).mp hc52
                                refine lv_aload_n hx hb d_Mo_carried_150 rfl (lv_at hl 3 rfl) ?_
                                refine lv_iload_n hx hb d_Mo_carried_151 rfl (lv_at hl 4 rfl) ?_
                                refine lv_iload hx hb d_Mo_carried_152 (lv_at hl 1 rfl) ?_
                                have hPc := hP.sub (ws' := [(g0, .inr (6, [.int co, .int (nI n), .ref m_sea, .ref m_center, .ref m_home, .ref m_borders, .int mp, .int mt, .ref m_owner, .ref m_units, .ref m_kind, .ref m_toX, .ref m_toY, .ref m_results, .ref m_known, .ref m_reached, .ref m_way, .ref m_aside, .ref m_origin, .ref m_retreats, .ref m_contested, .ref m_moved, .int msh, .ref m_past])), (m_borders, .inl (cZ, 144, .inl (fun j => bI (Bo j))))]) [0, 2] rfl
                                refine vp_callSi (va_Run.run (va_runV (As := [.int (nI a), .int (nI i)]) (rest := []) ⟨hx, hb, hml, hown, hts⟩ (c_Mo_border2 l D cI cZ cJ cS aT ceT  g0 m_sea m_center m_home m_borders m_owner m_units m_kind m_toX m_toY m_results m_known m_reached m_way m_aside m_origin m_retreats m_contested m_moved m_past n co mp mt msh Bo a i h_a hlt12) (cwV 2 hts (tb_4 wd_794 wd_796 wp_37 wd_8 (tb_c wd_797)) rfl rfl rfl ⟨rfl, by decide, by decide, by decide +kernel⟩ ⟨Nat.le_of_ble_eq_true rfl, Nat.le_of_ble_eq_true rfl⟩) (tP_V hK hX (hS.2.1 aT hXl hXn) hPc (q := 0) rfl rfl) rfl rfl hl.1 rfl (lv_room (Nat.le_of_ble_eq_true rfl)) d_Mo_carried_154 ⟨Nat.le_of_ble_eq_true rfl, Nat.le_of_ble_eq_true rfl⟩)) (fun r53 hr9 => ?_)
                                rw [hr9]
                                refine lv_istore (lv' := [(6, .int (bI (Bo (12 * a + i)))), (5, .int 1), (4, .int (nI i)), (3, .int (bI mo)), (0, .ref g0), (1, .int (nI a)), (2, .int (bI su))]) hx hb d_Mo_carried_157 hl (by decide) rfl (fun ls hl => ?_)
                                refine lv_iconst (v := 0) hx hb d_Mo_carried_159 (by decide) ?_
                                refine lv_istore (lv' := [(7, .int 0), (6, .int (bI (Bo (12 * a + i)))), (5, .int 1), (4, .int (nI i)), (3, .int (bI mo)), (0, .ref g0), (1, .int (nI a)), (2, .int (bI su))]) hx hb d_Mo_carried_160 hl (by decide) rfl (fun ls hl => ?_)
                                have nloop : ∀ (k9 i9 : Nat) (ls : Array Slot), i9 + k9 = n → lv_has ls 8 [(7, .int (nI i9)), (6, .int (bI (Bo (12 * a + i) || anyB (fun c => Ry c && Bo (12 * c + i)) i9))), (5, .int 1), (4, .int (nI i)), (3, .int (bI mo)), (0, .ref g0), (1, .int (nI a)), (2, .int (bI su))] → W p l e (headSpec w_Mo_carried ({ frames := 3, cells := 0, slots := 0, locals := 67 })).room s m ([.ref g0, .int (nI a), .int (bI su)]).toArray below meth c H locs 0 0 (MQ below (va_Qi (fun (r : Int32) (_ : Unit) => r = bI (crd fu Kd X Y K S Bo n a su)) (fun _ t => ∃ (Re2 : Nat → Bool), tB D A [(g0, .inr (6, [.int co, .int (nI n), .ref m_sea, .ref m_center, .ref m_home, .ref m_borders, .int mp, .int mt, .ref m_owner, .ref m_units, .ref m_kind, .ref m_toX, .ref m_toY, .ref m_results, .ref m_known, .ref m_reached, .ref m_way, .ref m_aside, .ref m_origin, .ref m_retreats, .ref m_contested, .ref m_moved, .int msh, .ref m_past])), (m_sea, .inl (cZ, 12, .inl (fun j => bI (S j)))), (m_borders, .inl (cZ, 144, .inl (fun j => bI (Bo j)))), (m_units, .inl (cI, 12, .inl fu)), (m_kind, .inl (cI, 12, .inl (fun j => nI (Kd j)))), (m_toX, .inl (cI, 12, .inl (fun j => nI (X j)))), (m_toY, .inl (cI, 12, .inl (fun j => nI (Y j)))), (m_known, .inl (cI, 12, .inl (fun j => nI (K j)))), (m_reached, .inl (cZ, 12, .inl (fun j => bI (Re2 j))))] t) A) ([.ref g0, .int (nI a), .int (bI su)]).toArray s 0 0 A) (F0 m 162 ls []) := by
                                  intro k9
                                  induction k9 with
                                  | zero =>
                                    intro i9 ls hi9 hl
                                    have hie9 : i9 = n := by omega
                                    rw [hie9] at hl
                                    have hl : lv_has ls 8 [(7, .int (nI n)), (6, .int (bI (nxB Bo Ry n a i))), (5, .int 1), (4, .int (nI i)), (3, .int (bI mo)), (0, .ref g0), (1, .int (nI a)), (2, .int (bI su))] := hl
                                    refine lv_iload hx hb d_Mo_carried_162 (lv_at hl 0 rfl) ?_
                                    refine lv_aload_n hx hb d_Mo_carried_164 rfl (lv_at hl 5 rfl) ?_
                                    refine va_get (D := D) (ci := 6) (v := .int (nI n)) (C := R_Mo) (T := T_Mo) (N := 24) hx hb hts hin_Mo hown hK hP 0 rfl rfl 1 (by decide) (hts _ wd_705) (fun _ h9 => h9) rfl d_Mo_carried_165 ?_
                                    refine lv_icmp_ge (tgt := 210) hx hb d_Mo_carried_168 (by decide) (fun _ => ?_) (fun h0 => absurd (Int32.le_refl _) h0)
                                    refine lv_aload_n hx hb d_Mo_carried_210 rfl (lv_at hl 5 rfl) ?_
                                    refine va_get (D := D) (ci := 6) (v := .ref m_reached) (C := R_Mo) (T := T_Mo) (N := 24) hx hb hts hin_Mo hown hK hP 0 rfl rfl 15 (by decide) (hts _ wd_719) (fun _ h9 => h9) rfl d_Mo_carried_211 ?_
                                    refine lv_iload hx hb d_Mo_carried_214 (lv_at hl 3 rfl) ?_
                                    refine lv_iload hx hb d_Mo_carried_216 (lv_at hl 1 rfl) ?_
                                    refine tr_zast (g := fun j => bI (upB Ry i (nxB Bo Ry n a i) j)) hx hb hK hP hD hS 8 1 rfl rfl i hlt12 (by decide) (upB_I Ry i (nxB Bo Ry n a i)) d_Mo_carried_218 (fun H locs hP hD hS => ?_)
                                    have hP : va_P D vwCl [(g0, .inr (6, [.int co, .int (nI n), .ref m_sea, .ref m_center, .ref m_home, .ref m_borders, .int mp, .int mt, .ref m_owner, .ref m_units, .ref m_kind, .ref m_toX, .ref m_toY, .ref m_results, .ref m_known, .ref m_reached, .ref m_way, .ref m_aside, .ref m_origin, .ref m_retreats, .ref m_contested, .ref m_moved, .int msh, .ref m_past])), (m_sea, .inl (cZ, 12, .inl (fun j => bI (S j)))), (m_borders, .inl (cZ, 144, .inl (fun j => bI (Bo j)))), (m_units, .inl (cI, 12, .inl fu)), (m_kind, .inl (cI, 12, .inl (fun j => nI (Kd j)))), (m_toX, .inl (cI, 12, .inl (fun j => nI (X j)))), (m_toY, .inl (cI, 12, .inl (fun j => nI (Y j)))), (m_known, .inl (cI, 12, .inl (fun j => nI (K j)))), (m_reached, .inl (cZ, 12, .inl (fun j => bI (upB Ry i (nxB Bo Ry n a i) j))))] H := hP
                                    have hD : va_D A [(g0, .inr (6, [.int co, .int (nI n), .ref m_sea, .ref m_center, .ref m_home, .ref m_borders, .int mp, .int mt, .ref m_owner, .ref m_units, .ref m_kind, .ref m_toX, .ref m_toY, .ref m_results, .ref m_known, .ref m_reached, .ref m_way, .ref m_aside, .ref m_origin, .ref m_retreats, .ref m_contested, .ref m_moved, .int msh, .ref m_past])), (m_sea, .inl (cZ, 12, .inl (fun j => bI (S j)))), (m_borders, .inl (cZ, 144, .inl (fun j => bI (Bo j)))), (m_units, .inl (cI, 12, .inl fu)), (m_kind, .inl (cI, 12, .inl (fun j => nI (Kd j)))), (m_toX, .inl (cI, 12, .inl (fun j => nI (X j)))), (m_toY, .inl (cI, 12, .inl (fun j => nI (Y j)))), (m_known, .inl (cI, 12, .inl (fun j => nI (K j)))), (m_reached, .inl (cZ, 12, .inl (fun j => bI (upB Ry i (nxB Bo Ry n a i) j))))] := hD
                                    refine lv_iload_n hx hb d_Mo_carried_219 rfl (lv_at hl 4 rfl) ?_
                                    rcases bI_c (mo) with ⟨hb56, e9⟩ | ⟨hb56, e9⟩
                                    · refine tr_top e9 ?_
                                      refine lv_if_ne (tgt := 228) hx hb d_Mo_carried_220 (by decide) (fun _ => ?_) (fun h0 => absurd h0 (by decide))
                                      refine lv_iconst (v := 1) hx hb d_Mo_carried_228 (by decide) ?_
                                      refine lv_goto (tgt := 233) hx hb d_Mo_carried_229 (by decide) ?_
                                      refine lv_istore_n (lv' := [(3, .int 1), (7, .int (nI n)), (6, .int (bI (nxB Bo Ry n a i))), (5, .int 1), (4, .int (nI i)), (0, .ref g0), (1, .int (nI a)), (2, .int (bI su))]) hx hb d_Mo_carried_233 rfl hl (by decide) rfl (fun ls hl => ?_)
                                      refine lv_iinc (lv' := [(4, .int ((nI i) + 1)), (3, .int 1), (7, .int (nI n)), (6, .int (bI (nxB Bo Ry n a i))), (5, .int 1), (0, .ref g0), (1, .int (nI a)), (2, .int (bI su))]) hx hb d_Mo_carried_234 hl (k := 4) rfl rfl (by decide) rfl (fun ls hl => ?_)
                                      refine lv_goto (tgt := 34) hx hb d_Mo_carried_237 (by decide) ?_
                                      have e4 : nI i + 1 = nI (i + 1) := nI_1 i
                                      have hI2 := crI_set hI hlt (by assumption) (show cFl fu Kd X Y K S n a su i = true by simp [cFl, hb30, hb35, hc37, hc39, hc41, hc43, hc47, hb49, hc52, hb56])
                                      have e3 : 1 = bI (mo || nxB Bo Ry n a i) := (bI_t (by simp [hb30, hb35, hb49, hb56])).symm
                                      exact ih (i + 1) (upB Ry i (nxB Bo Ry n a i)) (mo || nxB Bo Ry n a i) ls H locs (by omega) hI2 (by rw [← e4, ← e3]; exact lv_sub hl [0, 1, 5, 6, 7] rfl) hP hD hS
                                    · refine tr_top e9 ?_
                                      refine lv_if_ne (tgt := 228) hx hb d_Mo_carried_220 (by decide) (fun h0 => absurd (by decide) h0) (fun _ => ?_)
                                      refine lv_iload hx hb d_Mo_carried_223 (lv_at hl 1 rfl) ?_
                                      rcases bI_c (nxB Bo Ry n a i) with ⟨hb60, e9⟩ | ⟨hb60, e9⟩
                                      · refine tr_top e9 ?_
                                        refine lv_if_eq (tgt := 232) hx hb d_Mo_carried_225 (by decide) (fun h0 => absurd h0 (by decide)) (fun _ => ?_)
                                        refine lv_iconst (v := 1) hx hb d_Mo_carried_228 (by decide) ?_
                                        refine lv_goto (tgt := 233) hx hb d_Mo_carried_229 (by decide) ?_
                                        refine lv_istore_n (lv' := [(3, .int 1), (7, .int (nI n)), (6, .int (bI (nxB Bo Ry n a i))), (5, .int 1), (4, .int (nI i)), (0, .ref g0), (1, .int (nI a)), (2, .int (bI su))]) hx hb d_Mo_carried_233 rfl hl (by decide) rfl (fun ls hl => ?_)
                                        refine lv_iinc (lv' := [(4, .int ((nI i) + 1)), (3, .int 1), (7, .int (nI n)), (6, .int (bI (nxB Bo Ry n a i))), (5, .int 1), (0, .ref g0), (1, .int (nI a)), (2, .int (bI su))]) hx hb d_Mo_carried_234 hl (k := 4) rfl rfl (by decide) rfl (fun ls hl => ?_)
                                        refine lv_goto (tgt := 34) hx hb d_Mo_carried_237 (by decide) ?_
                                        have e4 : nI i + 1 = nI (i + 1) := nI_1 i
                                        have hI2 := crI_set hI hlt (by assumption) (show cFl fu Kd X Y K S n a su i = true by simp [cFl, hb30, hb35, hc37, hc39, hc41, hc43, hc47, hb49, hc52, hb56, hb60])
                                        have e3 : 1 = bI (mo || nxB Bo Ry n a i) := (bI_t (by simp [hb30, hb35, hb49, hb56, hb60])).symm
                                        exact ih (i + 1) (upB Ry i (nxB Bo Ry n a i)) (mo || nxB Bo Ry n a i) ls H locs (by omega) hI2 (by rw [← e4, ← e3]; exact lv_sub hl [0, 1, 5, 6, 7] rfl) hP hD hS
                                      · refine tr_top e9 ?_
                                        refine lv_if_eq (tgt := 232) hx hb d_Mo_carried_225 (by decide) (fun _ => ?_) (fun h0 => absurd (by decide) h0)
                                        refine lv_iconst (v := 0) hx hb d_Mo_carried_232 (by decide) ?_
                                        refine lv_istore_n (lv' := [(3, .int 0), (7, .int (nI n)), (6, .int (bI (nxB Bo Ry n a i))), (5, .int 1), (4, .int (nI i)), (0, .ref g0), (1, .int (nI a)), (2, .int (bI su))]) hx hb d_Mo_carried_233 rfl hl (by decide) rfl (fun ls hl => ?_)
                                        refine lv_iinc (lv' := [(4, .int ((nI i) + 1)), (3, .int 0), (7, .int (nI n)), (6, .int (bI (nxB Bo Ry n a i))), (5, .int 1), (0, .ref g0), (1, .int (nI a)), (2, .int (bI su))]) hx hb d_Mo_carried_234 hl (k := 4) rfl rfl (by decide) rfl (fun ls hl => ?_)
                                        refine lv_goto (tgt := 34) hx hb d_Mo_carried_237 (by decide) ?_
                                        have e4 : nI i + 1 = nI (i + 1) := nI_1 i
                                        have hI2 := crI_set hI hlt (by assumption) (show cFl fu Kd X Y K S n a su i = true by simp [cFl, hb30, hb35, hc37, hc39, hc41, hc43, hc47, hb49, hc52, hb56, hb60])
                                        have e3 : 0 = bI (mo || nxB Bo Ry n a i) := (bI_f (by simp [hb30, hb35, hb49, hb56, hb60])).symm
                                        exact ih (i + 1) (upB Ry i (nxB Bo Ry n a i)) (mo || nxB Bo Ry n a i) ls H locs (by omega) hI2 (by rw [← e4, ← e3]; exact lv_sub hl [0, 1, 5, 6, 7] rfl) hP hD hS
                                  | succ k9 ih9 =>
                                    intro i9 ls hi9 hl
                                    have hlt9 : i9 < n := by omega
                                    have hlt912 : i9 < 12 := by omega
                                    refine lv_iload hx hb d_Mo_carried_162 (lv_at hl 0 rfl) ?_
                                    refine lv_aload_n hx hb d_Mo_carried_164 rfl (lv_at hl 5 rfl) ?_
                                    refine va_get (D := D) (ci := 6) (v := .int (nI n)) (C := R_Mo) (T := T_Mo) (N := 24) hx hb hts hin_Mo hown hK hP 0 rfl rfl 1 (by decide) (hts _ wd_705) (fun _ h9 => h9) rfl d_Mo_carried_165 ?_
                                    refine lv_icmp_ge (tgt := 210) hx hb d_Mo_carried_168 (by decide) (fun h0 => absurd h0 (nI_ge hlt9 (by omega))) (fun _ => ?_)
                                    refine lv_iload hx hb d_Mo_carried_171 (lv_at hl 1 rfl) ?_
                                    rcases bI_c (Bo (12 * a + i) || anyB (fun c => Ry c && Bo (12 * c + i)) i9) with ⟨hb65, e9⟩ | ⟨hb65, e9⟩
                                    · refine tr_top e9 ?_
                                      refine lv_if_ne (tgt := 197) hx hb d_Mo_carried_173 (by decide) (fun _ => ?_) (fun h0 => absurd h0 (by decide))
                                      refine lv_iconst (v := 1) hx hb d_Mo_carried_197 (by decide) ?_
                                      refine lv_goto (tgt := 202) hx hb d_Mo_carried_198 (by decide) ?_
                                      refine lv_istore (lv' := [(6, .int 1), (7, .int (nI i9)), (5, .int 1), (4, .int (nI i)), (3, .int (bI mo)), (0, .ref g0), (1, .int (nI a)), (2, .int (bI su))]) hx hb d_Mo_carried_202 hl (by decide) rfl (fun ls hl => ?_)
                                      refine lv_iinc (lv' := [(7, .int ((nI i9) + 1)), (6, .int 1), (5, .int 1), (4, .int (nI i)), (3, .int (bI mo)), (0, .ref g0), (1, .int (nI a)), (2, .int (bI su))]) hx hb d_Mo_carried_204 hl (k := 1) rfl rfl (by decide) rfl (fun ls hl => ?_)
                                      refine lv_goto (tgt := 162) hx hb d_Mo_carried_207 (by decide) ?_
                                      have e7 : nI i9 + 1 = nI (i9 + 1) := nI_1 i9
                                      have e6 : 1 = bI (Bo (12 * a + i) || anyB (fun c => Ry c && Bo (12 * c + i)) (i9 + 1)) := (bI_t (show (Bo (12 * a + i) || (anyB (fun c => Ry c && Bo (12 * c + i)) i9 || (Ry i9 && Bo (12 * i9 + i)))) = true by rw [← Bool.or_assoc]; simp [hb30, hb35, hb49, hb65])).symm
                                      exact ih9 (i9 + 1) ls (by omega) (by rw [← e7, ← e6]; exact lv_sub hl [0, 1, 2, 3, 4, 5, 6, 7] rfl)
                                    · refine tr_top e9 ?_
                                      refine lv_if_ne (tgt := 197) hx hb d_Mo_carried_173 (by decide) (fun h0 => absurd (by decide) h0) (fun _ => ?_)
                                      refine lv_aload_n hx hb d_Mo_carried_176 rfl (lv_at hl 5 rfl) ?_
                                      refine va_get (D := D) (ci := 6) (v := .ref m_reached) (C := R_Mo) (T := T_Mo) (N := 24) hx hb hts hin_Mo hown hK hP 0 rfl rfl 15 (by decide) (hts _ wd_719) (fun _ h9 => h9) rfl d_Mo_carried_177 ?_
                                      refine lv_iload hx hb d_Mo_carried_180 (lv_at hl 0 rfl) ?_
                                      refine tr_zald (v := bI (Ry i9)) hx hb hK hP 8 1 rfl rfl i9 hlt912 (by decide) rfl d_Mo_carried_182 ?_
                                      rcases bI_c (Ry i9) with ⟨hb69, e9⟩ | ⟨hb69, e9⟩
                                      · refine tr_top e9 ?_
                                        refine lv_if_eq (tgt := 201) hx hb d_Mo_carried_183 (by decide) (fun h0 => absurd h0 (by decide)) (fun _ => ?_)
                                        refine lv_aload_n hx hb d_Mo_carried_186 rfl (lv_at hl 5 rfl) ?_
                                        refine lv_iload hx hb d_Mo_carried_187 (lv_at hl 0 rfl) ?_
                                        refine lv_iload hx hb d_Mo_carried_189 (lv_at hl 3 rfl) ?_
                                        have hPc := hP.sub (ws' := [(g0, .inr (6, [.int co, .int (nI n), .ref m_sea, .ref m_center, .ref m_home, .ref m_borders, .int mp, .int mt, .ref m_owner, .ref m_units, .ref m_kind, .ref m_toX, .ref m_toY, .ref m_results, .ref m_known, .ref m_reached, .ref m_way, .ref m_aside, .ref m_origin, .ref m_retreats, .ref m_contested, .ref m_moved, .int msh, .ref m_past])), (m_borders, .inl (cZ, 144, .inl (fun j => bI (Bo j))))]) [0, 2] rfl
                                        refine vp_callSi (va_Run.run (va_runV (As := [.int (nI i9), .int (nI i)]) (rest := []) ⟨hx, hb, hml, hown, hts⟩ (c_Mo_border2 l D cI cZ cJ cS aT ceT  g0 m_sea m_center m_home m_borders m_owner m_units m_kind m_toX m_toY m_results m_known m_reached m_way m_aside m_origin m_retreats m_contested m_moved m_past n co mp mt msh Bo i9 i hlt912 hlt12) (cwV 2 hts (tb_4 wd_794 wd_796 wp_37 wd_8 (tb_c wd_797)) rfl rfl rfl ⟨rfl, by decide, by decide, by decide +kernel⟩ ⟨Nat.le_of_ble_eq_true rfl, Nat.le_of_ble_eq_true rfl⟩) (tP_V hK hX (hS.2.1 aT hXl hXn) hPc (q := 0) rfl rfl) rfl rfl hl.1 rfl (lv_room (Nat.le_of_ble_eq_true rfl)) d_Mo_carried_191 ⟨Nat.le_of_ble_eq_true rfl, Nat.le_of_ble_eq_true rfl⟩)) (fun r71 hr9 => ?_)
                                        rw [hr9]
                                        rcases bI_c (Bo (12 * i9 + i)) with ⟨hb73, e9⟩ | ⟨hb73, e9⟩
                                        · refine tr_top e9 ?_
                                          refine lv_if_eq (tgt := 201) hx hb d_Mo_carried_194 (by decide) (fun h0 => absurd h0 (by decide)) (fun _ => ?_)
                                          refine lv_iconst (v := 1) hx hb d_Mo_carried_197 (by decide) ?_
                                          refine lv_goto (tgt := 202) hx hb d_Mo_carried_198 (by decide) ?_
                                          refine lv_istore (lv' := [(6, .int 1), (7, .int (nI i9)), (5, .int 1), (4, .int (nI i)), (3, .int (bI mo)), (0, .ref g0), (1, .int (nI a)), (2, .int (bI su))]) hx hb d_Mo_carried_202 hl (by decide) rfl (fun ls hl => ?_)
                                          refine lv_iinc (lv' := [(7, .int ((nI i9) + 1)), (6, .int 1), (5, .int 1), (4, .int (nI i)), (3, .int (bI mo)), (0, .ref g0), (1, .int (nI a)), (2, .int (bI su))]) hx hb d_Mo_carried_204 hl (k := 1) rfl rfl (by decide) rfl (fun ls hl => ?_)
                                          refine lv_goto (tgt := 162) hx hb d_Mo_carried_207 (by decide) ?_
                                          have e7 : nI i9 + 1 = nI (i9 + 1) := nI_1 i9
                                          have e6 : 1 = bI (Bo (12 * a + i) || anyB (fun c => Ry c && Bo (12 * c + i)) (i9 + 1)) := (bI_t (show (Bo (12 * a + i) || (anyB (fun c => Ry c && Bo (12 * c + i)) i9 || (Ry i9 && Bo (12 * i9 + i)))) = true by rw [← Bool.or_assoc]; simp [hb30, hb35, hb49, hb65, hb69, hb73])).symm
                                          exact ih9 (i9 + 1) ls (by omega) (by rw [← e7, ← e6]; exact lv_sub hl [0, 1, 2, 3, 4, 5, 6, 7] rfl)
                                        · refine tr_top e9 ?_
                                          refine lv_if_eq (tgt := 201) hx hb d_Mo_carried_194 (by decide) (fun _ => ?_) (fun h0 => absurd (by decide) h0)
                                          refine lv_iconst (v := 0) hx hb d_Mo_carried_201 (by decide) ?_
                                          refine lv_istore (lv' := [(6, .int 0), (7, .int (nI i9)), (5, .int 1), (4, .int (nI i)), (3, .int (bI mo)), (0, .ref g0), (1, .int (nI a)), (2, .int (bI su))]) hx hb d_Mo_carried_202 hl (by decide) rfl (fun ls hl => ?_)
                                          refine lv_iinc (lv' := [(7, .int ((nI i9) + 1)), (6, .int 0), (5, .int 1), (4, .int (nI i)), (3, .int (bI mo)), (0, .ref g0), (1, .int (nI a)), (2, .int (bI su))]) hx hb d_Mo_carried_204 hl (k := 1) rfl rfl (by decide) rfl (fun ls hl => ?_)
                                          refine lv_goto (tgt := 162) hx hb d_Mo_carried_207 (by decide) ?_
                                          have e7 : nI i9 + 1 = nI (i9 + 1) := nI_1 i9
                                          have e6 : 0 = bI (Bo (12 * a + i) || anyB (fun c => Ry c && Bo (12 * c + i)) (i9 + 1)) := (bI_f (show (Bo (12 * a + i) || (anyB (fun c => Ry c && Bo (12 * c + i)) i9 || (Ry i9 && Bo (12 * i9 + i)))) = false by rw [← Bool.or_assoc]; simp [hb30, hb35, hb49, hb65, hb69, hb73])).symm
                                          exact ih9 (i9 + 1) ls (by omega) (by rw [← e7, ← e6]; exact lv_sub hl [0, 1, 2, 3, 4, 5, 6, 7] rfl)
                                      · refine tr_top e9 ?_
                                        refine lv_if_eq (tgt := 201) hx hb d_Mo_carried_183 (by decide) (fun _ => ?_) (fun h0 => absurd (by decide) h0)
                                        refine lv_iconst (v := 0) hx hb d_Mo_carried_201 (by decide) ?_
                                        refine lv_istore (lv' := [(6, .int 0), (7, .int (nI i9)), (5, .int 1), (4, .int (nI i)), (3, .int (bI mo)), (0, .ref g0), (1, .int (nI a)), (2, .int (bI su))]) hx hb d_Mo_carried_202 hl (by decide) rfl (fun ls hl => ?_)
                                        refine lv_iinc (lv' := [(7, .int ((nI i9) + 1)), (6, .int 0), (5, .int 1), (4, .int (nI i)), (3, .int (bI mo)), (0, .ref g0), (1, .int (nI a)), (2, .int (bI su))]) hx hb d_Mo_carried_204 hl (k := 1) rfl rfl (by decide) rfl (fun ls hl => ?_)
                                        refine lv_goto (tgt := 162) hx hb d_Mo_carried_207 (by decide) ?_
                                        have e7 : nI i9 + 1 = nI (i9 + 1) := nI_1 i9
                                        have e6 : 0 = bI (Bo (12 * a + i) || anyB (fun c => Ry c && Bo (12 * c + i)) (i9 + 1)) := (bI_f (show (Bo (12 * a + i) || (anyB (fun c => Ry c && Bo (12 * c + i)) i9 || (Ry i9 && Bo (12 * i9 + i)))) = false by rw [← Bool.or_assoc]; simp [hb30, hb35, hb49, hb65, hb69])).symm
                                        exact ih9 (i9 + 1) ls (by omega) (by rw [← e7, ← e6]; exact lv_sub hl [0, 1, 2, 3, 4, 5, 6, 7] rfl)
                                exact nloop n 0 ls (Nat.zero_add _) (by rw [show bI (Bo (12 * a + i) || anyB (fun c => Ry c && Bo (12 * c + i)) 0) = bI (Bo (12 * a + i)) by simp [anyB]]; exact hl)
                              · -- 144 not taken
                                have hc52 : ¬ dsA fu Kd X K n i = 2 := fun h9 => hc52 (congrArg nI h9)
                                refine lv_goto (tgt := 234) hx hb d_Mo_carried_147 (by decide) ?_
                                refine lv_iinc (lv' := [(4, .int ((nI i) + 1)), (5, .int 1), (3, .int (bI mo)), (0, .ref g0), (1, .int (nI a)), (2, .int (bI su))]) hx hb d_Mo_carried_234 hl (k := 1) rfl rfl (by decide) rfl (fun ls hl => ?_)
                                refine lv_goto (tgt := 34) hx hb d_Mo_carried_237 (by decide) ?_
                                have e4 : nI i + 1 = nI (i + 1) := nI_1 i
                                have hI2 := crI_skip hI (by first | exact Or.inl (by assumption) | exact Or.inr (by simp [cFl, hb30, hb35, hc37, hc39, hc41, hc43, hc47, hb49, hc52]))
                                exact ih (i + 1) Ry mo ls H locs (by omega) hI2 (by rw [← e4]; exact lv_sub hl [0, 2, 3, 4, 5] rfl) hP hD hS
                            · refine tr_top e9 ?_
                              refine lv_if_eq (tgt := 150) hx hb d_Mo_carried_134 (by decide) (fun _ => ?_) (fun h0 => absurd (by decide) h0)
                              refine lv_aload_n hx hb d_Mo_carried_150 rfl (lv_at hl 3 rfl) ?_
                              refine lv_iload_n hx hb d_Mo_carried_151 rfl (lv_at hl 4 rfl) ?_
                              refine lv_iload hx hb d_Mo_carried_152 (lv_at hl 1 rfl) ?_
                              have hPc := hP.sub (ws' := [(g0, .inr (6, [.int co, .int (nI n), .ref m_sea, .ref m_center, .ref m_home, .ref m_borders, .int mp, .int mt, .ref m_owner, .ref m_units, .ref m_kind, .ref m_toX, .ref m_toY, .ref m_results, .ref m_known, .ref m_reached, .ref m_way, .ref m_aside, .ref m_origin, .ref m_retreats, .ref m_contested, .ref m_moved, .int msh, .ref m_past])), (m_borders, .inl (cZ, 144, .inl (fun j => bI (Bo j))))]) [0, 2] rfl
                              refine vp_callSi (va_Run.run (va_runV (As := [.int (nI a), .int (nI i)]) (rest := []) ⟨hx, hb, hml, hown, hts⟩ (c_Mo_border2 l D cI cZ cJ cS aT ceT  g0 m_sea m_center m_home m_borders m_owner m_units m_kind m_toX m_toY m_results m_known m_reached m_way m_aside m_origin m_retreats m_contested m_moved m_past n co mp mt msh Bo a i h_a hlt12) (cwV 2 hts (tb_4 wd_794 wd_796 wp_37 wd_8 (tb_c wd_797)) rfl rfl rfl ⟨rfl, by decide, by decide, by decide +kernel⟩ ⟨Nat.le_of_ble_eq_true rfl, Nat.le_of_ble_eq_true rfl⟩) (tP_V hK hX (hS.2.1 aT hXl hXn) hPc (q := 0) rfl rfl) rfl rfl hl.1 rfl (lv_room (Nat.le_of_ble_eq_true rfl)) d_Mo_carried_154 ⟨Nat.le_of_ble_eq_true rfl, Nat.le_of_ble_eq_true rfl⟩)) (fun r78 hr9 => ?_)
                              rw [hr9]
                              refine lv_istore (lv' := [(6, .int (bI (Bo (12 * a + i)))), (5, .int 1), (4, .int (nI i)), (3, .int (bI mo)), (0, .ref g0), (1, .int (nI a)), (2, .int (bI su))]) hx hb d_Mo_carried_157 hl (by decide) rfl (fun ls hl => ?_)
                              refine lv_iconst (v := 0) hx hb d_Mo_carried_159 (by decide) ?_
                              refine lv_istore (lv' := [(7, .int 0), (6, .int (bI (Bo (12 * a + i)))), (5, .int 1), (4, .int (nI i)), (3, .int (bI mo)), (0, .ref g0), (1, .int (nI a)), (2, .int (bI su))]) hx hb d_Mo_carried_160 hl (by decide) rfl (fun ls hl => ?_)
                              have nloop : ∀ (k9 i9 : Nat) (ls : Array Slot), i9 + k9 = n → lv_has ls 8 [(7, .int (nI i9)), (6, .int (bI (Bo (12 * a + i) || anyB (fun c => Ry c && Bo (12 * c + i)) i9))), (5, .int 1), (4, .int (nI i)), (3, .int (bI mo)), (0, .ref g0), (1, .int (nI a)), (2, .int (bI su))] → W p l e (headSpec w_Mo_carried ({ frames := 3, cells := 0, slots := 0, locals := 67 })).room s m ([.ref g0, .int (nI a), .int (bI su)]).toArray below meth c H locs 0 0 (MQ below (va_Qi (fun (r : Int32) (_ : Unit) => r = bI (crd fu Kd X Y K S Bo n a su)) (fun _ t => ∃ (Re2 : Nat → Bool), tB D A [(g0, .inr (6, [.int co, .int (nI n), .ref m_sea, .ref m_center, .ref m_home, .ref m_borders, .int mp, .int mt, .ref m_owner, .ref m_units, .ref m_kind, .ref m_toX, .ref m_toY, .ref m_results, .ref m_known, .ref m_reached, .ref m_way, .ref m_aside, .ref m_origin, .ref m_retreats, .ref m_contested, .ref m_moved, .int msh, .ref m_past])), (m_sea, .inl (cZ, 12, .inl (fun j => bI (S j)))), (m_borders, .inl (cZ, 144, .inl (fun j => bI (Bo j)))), (m_units, .inl (cI, 12, .inl fu)), (m_kind, .inl (cI, 12, .inl (fun j => nI (Kd j)))), (m_toX, .inl (cI, 12, .inl (fun j => nI (X j)))), (m_toY, .inl (cI, 12, .inl (fun j => nI (Y j)))), (m_known, .inl (cI, 12, .inl (fun j => nI (K j)))), (m_reached, .inl (cZ, 12, .inl (fun j => bI (Re2 j))))] t) A) ([.ref g0, .int (nI a), .int (bI su)]).toArray s 0 0 A) (F0 m 162 ls []) := by
                                intro k9
                                induction k9 with
                                | zero =>
                                  intro i9 ls hi9 hl
                                  have hie9 : i9 = n := by omega
                                  rw [hie9] at hl
                                  have hl : lv_has ls 8 [(7, .int (nI n)), (6, .int (bI (nxB Bo Ry n a i))), (5, .int 1), (4, .int (nI i)), (3, .int (bI mo)), (0, .ref g0), (1, .int (nI a)), (2, .int (bI su))] := hl
                                  refine lv_iload hx hb d_Mo_carried_162 (lv_at hl 0 rfl) ?_
                                  refine lv_aload_n hx hb d_Mo_carried_164 rfl (lv_at hl 5 rfl) ?_
                                  refine va_get (D := D) (ci := 6) (v := .int (nI n)) (C := R_Mo) (T := T_Mo) (N := 24) hx hb hts hin_Mo hown hK hP 0 rfl rfl 1 (by decide) (hts _ wd_705) (fun _ h9 => h9) rfl d_Mo_carried_165 ?_
                                  refine lv_icmp_ge (tgt := 210) hx hb d_Mo_carried_168 (by decide) (fun _ => ?_) (fun h0 => absurd (Int32.le_refl _) h0)
                                  refine lv_aload_n hx hb d_Mo_carried_210 rfl (lv_at hl 5 rfl) ?_
                                  refine va_get (D := D) (ci := 6) (v := .ref m_reached) (C := R_Mo) (T := T_Mo) (N := 24) hx hb hts hin_Mo hown hK hP 0 rfl rfl 15 (by decide) (hts _ wd_719) (fun _ h9 => h9) rfl d_Mo_carried_211 ?_
                                  refine lv_iload hx hb d_Mo_carried_214 (lv_at hl 3 rfl) ?_
                                  refine lv_iload hx hb d_Mo_carried_216 (lv_at hl 1 rfl) ?_
                                  refine tr_zast (g := fun j => bI (upB Ry i (nxB Bo Ry n a i) j)) hx hb hK hP hD hS 8 1 rfl rfl i hlt12 (by decide) (upB_I Ry i (nxB Bo Ry n a i)) d_Mo_carried_218 (fun H locs hP hD hS => ?_)
                                  have hP : va_P D vwCl [(g0, .inr (6, [.int co, .int (nI n), .ref m_sea, .ref m_center, .ref m_home, .ref m_borders, .int mp, .int mt, .ref m_owner, .ref m_units, .ref m_kind, .ref m_toX, .ref m_toY, .ref m_results, .ref m_known, .ref m_reached, .ref m_way, .ref m_aside, .ref m_origin, .ref m_retreats, .ref m_contested, .ref m_moved, .int msh, .ref m_past])), (m_sea, .inl (cZ, 12, .inl (fun j => bI (S j)))), (m_borders, .inl (cZ, 144, .inl (fun j => bI (Bo j)))), (m_units, .inl (cI, 12, .inl fu)), (m_kind, .inl (cI, 12, .inl (fun j => nI (Kd j)))), (m_toX, .inl (cI, 12, .inl (fun j => nI (X j)))), (m_toY, .inl (cI, 12, .inl (fun j => nI (Y j)))), (m_known, .inl (cI, 12, .inl (fun j => nI (K j)))), (m_reached, .inl (cZ, 12, .inl (fun j => bI (upB Ry i (nxB Bo Ry n a i) j))))] H := hP
                                  have hD : va_D A [(g0, .inr (6, [.int co, .int (nI n), .ref m_sea, .ref m_center, .ref m_home, .ref m_borders, .int mp, .int mt, .ref m_owner, .ref m_units, .ref m_kind, .ref m_toX, .ref m_toY, .ref m_results, .ref m_known, .ref m_reached, .ref m_way, .ref m_aside, .ref m_origin, .ref m_retreats, .ref m_contested, .ref m_moved, .int msh, .ref m_past])), (m_sea, .inl (cZ, 12, .inl (fun j => bI (S j)))), (m_borders, .inl (cZ, 144, .inl (fun j => bI (Bo j)))), (m_units, .inl (cI, 12, .inl fu)), (m_kind, .inl (cI, 12, .inl (fun j => nI (Kd j)))), (m_toX, .inl (cI, 12, .inl (fun j => nI (X j)))), (m_toY, .inl (cI, 12, .inl (fun j => nI (Y j)))), (m_known, .inl (cI, 12, .inl (fun j => nI (K j)))), (m_reached, .inl (cZ, 12, .inl (fun j => bI (upB Ry i (nxB Bo Ry n a i) j))))] := hD
                                  refine lv_iload_n hx hb d_Mo_carried_219 rfl (lv_at hl 4 rfl) ?_
                                  rcases bI_c (mo) with ⟨hb81, e9⟩ | ⟨hb81, e9⟩
                                  · refine tr_top e9 ?_
                                    refine lv_if_ne (tgt := 228) hx hb d_Mo_carried_220 (by decide) (fun _ => ?_) (fun h0 => absurd h0 (by decide))
                                    refine lv_iconst (v := 1) hx hb d_Mo_carried_228 (by decide) ?_
                                    refine lv_goto (tgt := 233) hx hb d_Mo_carried_229 (by decide) ?_
                                    refine lv_istore_n (lv' := [(3, .int 1), (7, .int (nI n)), (6, .int (bI (nxB Bo Ry n a i))), (5, .int 1), (4, .int (nI i)), (0, .ref g0), (1, .int (nI a)), (2, .int (bI su))]) hx hb d_Mo_carried_233 rfl hl (by decide) rfl (fun ls hl => ?_)
                                    refine lv_iinc (lv' := [(4, .int ((nI i) + 1)), (3, .int 1), (7, .int (nI n)), (6, .int (bI (nxB Bo Ry n a i))), (5, .int 1), (0, .ref g0), (1, .int (nI a)), (2, .int (bI su))]) hx hb d_Mo_carried_234 hl (k := 4) rfl rfl (by decide) rfl (fun ls hl => ?_)
                                    refine lv_goto (tgt := 34) hx hb d_Mo_carried_237 (by decide) ?_
                                    have e4 : nI i + 1 = nI (i + 1) := nI_1 i
                                    have hI2 := crI_set hI hlt (by assumption) (show cFl fu Kd X Y K S n a su i = true by simp [cFl, hb30, hb35, hc37, hc39, hc41, hc43, hc47, hb49, hb81])
                                    have e3 : 1 = bI (mo || nxB Bo Ry n a i) := (bI_t (by simp [hb30, hb35, hb49, hb81])).symm
                                    exact ih (i + 1) (upB Ry i (nxB Bo Ry n a i)) (mo || nxB Bo Ry n a i) ls H locs (by omega) hI2 (by rw [← e4, ← e3]; exact lv_sub hl [0, 1, 5, 6, 7] rfl) hP hD hS
                                  · refine tr_top e9 ?_
                                    refine lv_if_ne (tgt := 228) hx hb d_Mo_carried_220 (by decide) (fun h0 => absurd (by decide) h0) (fun _ => ?_)
                                    refine lv_iload hx hb d_Mo_carried_223 (lv_at hl 1 rfl) ?_
                                    rcases bI_c (nxB Bo Ry n a i) with ⟨hb85, e9⟩ | ⟨hb85, e9⟩
                                    · refine tr_top e9 ?_
                                      refine lv_if_eq (tgt := 232) hx hb d_Mo_carried_225 (by decide) (fun h0 => absurd h0 (by decide)) (fun _ => ?_)
                                      refine lv_iconst (v := 1) hx hb d_Mo_carried_228 (by decide) ?_
                                      refine lv_goto (tgt := 233) hx hb d_Mo_carried_229 (by decide) ?_
                                      refine lv_istore_n (lv' := [(3, .int 1), (7, .int (nI n)), (6, .int (bI (nxB Bo Ry n a i))), (5, .int 1), (4, .int (nI i)), (0, .ref g0), (1, .int (nI a)), (2, .int (bI su))]) hx hb d_Mo_carried_233 rfl hl (by decide) rfl (fun ls hl => ?_)
                                      refine lv_iinc (lv' := [(4, .int ((nI i) + 1)), (3, .int 1), (7, .int (nI n)), (6, .int (bI (nxB Bo Ry n a i))), (5, .int 1), (0, .ref g0), (1, .int (nI a)), (2, .int (bI su))]) hx hb d_Mo_carried_234 hl (k := 4) rfl rfl (by decide) rfl (fun ls hl => ?_)
                                      refine lv_goto (tgt := 34) hx hb d_Mo_carried_237 (by decide) ?_
                                      have e4 : nI i + 1 = nI (i + 1) := nI_1 i
                                      have hI2 := crI_set hI hlt (by assumption) (show cFl fu Kd X Y K S n a su i = true by simp [cFl, hb30, hb35, hc37, hc39, hc41, hc43, hc47, hb49, hb81, hb85])
                                      have e3 : 1 = bI (mo || nxB Bo Ry n a i) := (bI_t (by simp [hb30, hb35, hb49, hb81, hb85])).symm
                                      exact ih (i + 1) (upB Ry i (nxB Bo Ry n a i)) (mo || nxB Bo Ry n a i) ls H locs (by omega) hI2 (by rw [← e4, ← e3]; exact lv_sub hl [0, 1, 5, 6, 7] rfl) hP hD hS
                                    · refine tr_top e9 ?_
                                      refine lv_if_eq (tgt := 232) hx hb d_Mo_carried_225 (by decide) (fun _ => ?_) (fun h0 => absurd (by decide) h0)
                                      refine lv_iconst (v := 0) hx hb d_Mo_carried_232 (by decide) ?_
                                      refine lv_istore_n (lv' := [(3, .int 0), (7, .int (nI n)), (6, .int (bI (nxB Bo Ry n a i))), (5, .int 1), (4, .int (nI i)), (0, .ref g0), (1, .int (nI a)), (2, .int (bI su))]) hx hb d_Mo_carried_233 rfl hl (by decide) rfl (fun ls hl => ?_)
                                      refine lv_iinc (lv' := [(4, .int ((nI i) + 1)), (3, .int 0), (7, .int (nI n)), (6, .int (bI (nxB Bo Ry n a i))), (5, .int 1), (0, .ref g0), (1, .int (nI a)), (2, .int (bI su))]) hx hb d_Mo_carried_234 hl (k := 4) rfl rfl (by decide) rfl (fun ls hl => ?_)
                                      refine lv_goto (tgt := 34) hx hb d_Mo_carried_237 (by decide) ?_
                                      have e4 : nI i + 1 = nI (i + 1) := nI_1 i
                                      have hI2 := crI_set hI hlt (by assumption) (show cFl fu Kd X Y K S n a su i = true by simp [cFl, hb30, hb35, hc37, hc39, hc41, hc43, hc47, hb49, hb81, hb85])
                                      have e3 : 0 = bI (mo || nxB Bo Ry n a i) := (bI_f (by simp [hb30, hb35, hb49, hb81, hb85])).symm
                                      exact ih (i + 1) (upB Ry i (nxB Bo Ry n a i)) (mo || nxB Bo Ry n a i) ls H locs (by omega) hI2 (by rw [← e4, ← e3]; exact lv_sub hl [0, 1, 5, 6, 7] rfl) hP hD hS
                                | succ k9 ih9 =>
                                  intro i9 ls hi9 hl
                                  have hlt9 : i9 < n := by omega
                                  have hlt912 : i9 < 12 := by omega
                                  refine lv_iload hx hb d_Mo_carried_162 (lv_at hl 0 rfl) ?_
                                  refine lv_aload_n hx hb d_Mo_carried_164 rfl (lv_at hl 5 rfl) ?_
                                  refine va_get (D := D) (ci := 6) (v := .int (nI n)) (C := R_Mo) (T := T_Mo) (N := 24) hx hb hts hin_Mo hown hK hP 0 rfl rfl 1 (by decide) (hts _ wd_705) (fun _ h9 => h9) rfl d_Mo_carried_165 ?_
                                  refine lv_icmp_ge (tgt := 210) hx hb d_Mo_carried_168 (by decide) (fun h0 => absurd h0 (nI_ge hlt9 (by omega))) (fun _ => ?_)
                                  refine lv_iload hx hb d_Mo_carried_171 (lv_at hl 1 rfl) ?_
                                  rcases bI_c (Bo (12 * a + i) || anyB (fun c => Ry c && Bo (12 * c + i)) i9) with ⟨hb90, e9⟩ | ⟨hb90, e9⟩
                                  · refine tr_top e9 ?_
                                    refine lv_if_ne (tgt := 197) hx hb d_Mo_carried_173 (by decide) (fun _ => ?_) (fun h0 => absurd h0 (by decide))
                                    refine lv_iconst (v := 1) hx hb d_Mo_carried_197 (by decide) ?_
                                    refine lv_goto (tgt := 202) hx hb d_Mo_carried_198 (by decide) ?_
                                    refine lv_istore (lv' := [(6, .int 1), (7, .int (nI i9)), (5, .int 1), (4, .int (nI i)), (3, .int (bI mo)), (0, .ref g0), (1, .int (nI a)), (2, .int (bI su))]) hx hb d_Mo_carried_202 hl (by decide) rfl (fun ls hl => ?_)
                                    refine lv_iinc (lv' := [(7, .int ((nI i9) + 1)), (6, .int 1), (5, .int 1), (4, .int (nI i)), (3, .int (bI mo)), (0, .ref g0), (1, .int (nI a)), (2, .int (bI su))]) hx hb d_Mo_carried_204 hl (k := 1) rfl rfl (by decide) rfl (fun ls hl => ?_)
                                    refine lv_goto (tgt := 162) hx hb d_Mo_carried_207 (by decide) ?_
                                    have e7 : nI i9 + 1 = nI (i9 + 1) := nI_1 i9
                                    have e6 : 1 = bI (Bo (12 * a + i) || anyB (fun c => Ry c && Bo (12 * c + i)) (i9 + 1)) := (bI_t (show (Bo (12 * a + i) || (anyB (fun c => Ry c && Bo (12 * c + i)) i9 || (Ry i9 && Bo (12 * i9 + i)))) = true by rw [← Bool.or_assoc]; simp [hb30, hb35, hb49, hb90])).symm
                                    exact ih9 (i9 + 1) ls (by omega) (by rw [← e7, ← e6]; exact lv_sub hl [0, 1, 2, 3, 4, 5, 6, 7] rfl)
                                  · refine tr_top e9 ?_
                                    refine lv_if_ne (tgt := 197) hx hb d_Mo_carried_173 (by decide) (fun h0 => absurd (by decide) h0) (fun _ => ?_)
                                    refine lv_aload_n hx hb d_Mo_carried_176 rfl (lv_at hl 5 rfl) ?_
                                    refine va_get (D := D) (ci := 6) (v := .ref m_reached) (C := R_Mo) (T := T_Mo) (N := 24) hx hb hts hin_Mo hown hK hP 0 rfl rfl 15 (by decide) (hts _ wd_719) (fun _ h9 => h9) rfl d_Mo_carried_177 ?_
                                    refine lv_iload hx hb d_Mo_carried_180 (lv_at hl 0 rfl) ?_
                                    refine tr_zald (v := bI (Ry i9)) hx hb hK hP 8 1 rfl rfl i9 hlt912 (by decide) rfl d_Mo_carried_182 ?_
                                    rcases bI_c (Ry i9) with ⟨hb94, e9⟩ | ⟨hb94, e9⟩
                                    · refine tr_top e9 ?_
                                      refine lv_if_eq (tgt := 201) hx hb d_Mo_carried_183 (by decide) (fun h0 => absurd h0 (by decide)) (fun _ => ?_)
                                      refine lv_aload_n hx hb d_Mo_carried_186 rfl (lv_at hl 5 rfl) ?_
                                      refine lv_iload hx hb d_Mo_carried_187 (lv_at hl 0 rfl) ?_
                                      refine lv_iload hx hb d_Mo_carried_189 (lv_at hl 3 rfl) ?_
                                      have hPc := hP.sub (ws' := [(g0, .inr (6, [.int co, .int (nI n), .ref m_sea, .ref m_center, .ref m_home, .ref m_borders, .int mp, .int mt, .ref m_owner, .ref m_units, .ref m_kind, .ref m_toX, .ref m_toY, .ref m_results, .ref m_known, .ref m_reached, .ref m_way, .ref m_aside, .ref m_origin, .ref m_retreats, .ref m_contested, .ref m_moved, .int msh, .ref m_past])), (m_borders, .inl (cZ, 144, .inl (fun j => bI (Bo j))))]) [0, 2] rfl
                                      refine vp_callSi (va_Run.run (va_runV (As := [.int (nI i9), .int (nI i)]) (rest := []) ⟨hx, hb, hml, hown, hts⟩ (c_Mo_border2 l D cI cZ cJ cS aT ceT  g0 m_sea m_center m_home m_borders m_owner m_units m_kind m_toX m_toY m_results m_known m_reached m_way m_aside m_origin m_retreats m_contested m_moved m_past n co mp mt msh Bo i9 i hlt912 hlt12) (cwV 2 hts (tb_4 wd_794 wd_796 wp_37 wd_8 (tb_c wd_797)) rfl rfl rfl ⟨rfl, by decide, by decide, by decide +kernel⟩ ⟨Nat.le_of_ble_eq_true rfl, Nat.le_of_ble_eq_true rfl⟩) (tP_V hK hX (hS.2.1 aT hXl hXn) hPc (q := 0) rfl rfl) rfl rfl hl.1 rfl (lv_room (Nat.le_of_ble_eq_true rfl)) d_Mo_carried_191 ⟨Nat.le_of_ble_eq_true rfl, Nat.le_of_ble_eq_true rfl⟩)) (fun r96 hr9 => ?_)
                                      rw [hr9]
                                      rcases bI_c (Bo (12 * i9 + i)) with ⟨hb98, e9⟩ | ⟨hb98, e9⟩
                                      · refine tr_top e9 ?_
                                        refine lv_if_eq (tgt := 201) hx hb d_Mo_carried_194 (by decide) (fun h0 => absurd h0 (by decide)) (fun _ => ?_)
                                        refine lv_iconst (v := 1) hx hb d_Mo_carried_197 (by decide) ?_
                                        refine lv_goto (tgt := 202) hx hb d_Mo_carried_198 (by decide) ?_
                                        refine lv_istore (lv' := [(6, .int 1), (7, .int (nI i9)), (5, .int 1), (4, .int (nI i)), (3, .int (bI mo)), (0, .ref g0), (1, .int (nI a)), (2, .int (bI su))]) hx hb d_Mo_carried_202 hl (by decide) rfl (fun ls hl => ?_)
                                        refine lv_iinc (lv' := [(7, .int ((nI i9) + 1)), (6, .int 1), (5, .int 1), (4, .int (nI i)), (3, .int (bI mo)), (0, .ref g0), (1, .int (nI a)), (2, .int (bI su))]) hx hb d_Mo_carried_204 hl (k := 1) rfl rfl (by decide) rfl (fun ls hl => ?_)
                                        refine lv_goto (tgt := 162) hx hb d_Mo_carried_207 (by decide) ?_
                                        have e7 : nI i9 + 1 = nI (i9 + 1) := nI_1 i9
                                        have e6 : 1 = bI (Bo (12 * a + i) || anyB (fun c => Ry c && Bo (12 * c + i)) (i9 + 1)) := (bI_t (show (Bo (12 * a + i) || (anyB (fun c => Ry c && Bo (12 * c + i)) i9 || (Ry i9 && Bo (12 * i9 + i)))) = true by rw [← Bool.or_assoc]; simp [hb30, hb35, hb49, hb90, hb94, hb98])).symm
                                        exact ih9 (i9 + 1) ls (by omega) (by rw [← e7, ← e6]; exact lv_sub hl [0, 1, 2, 3, 4, 5, 6, 7] rfl)
                                      · refine tr_top e9 ?_
                                        refine lv_if_eq (tgt := 201) hx hb d_Mo_carried_194 (by decide) (fun _ => ?_) (fun h0 => absurd (by decide) h0)
                                        refine lv_iconst (v := 0) hx hb d_Mo_carried_201 (by decide) ?_
                                        refine lv_istore (lv' := [(6, .int 0), (7, .int (nI i9)), (5, .int 1), (4, .int (nI i)), (3, .int (bI mo)), (0, .ref g0), (1, .int (nI a)), (2, .int (bI su))]) hx hb d_Mo_carried_202 hl (by decide) rfl (fun ls hl => ?_)
                                        refine lv_iinc (lv' := [(7, .int ((nI i9) + 1)), (6, .int 0), (5, .int 1), (4, .int (nI i)), (3, .int (bI mo)), (0, .ref g0), (1, .int (nI a)), (2, .int (bI su))]) hx hb d_Mo_carried_204 hl (k := 1) rfl rfl (by decide) rfl (fun ls hl => ?_)
                                        refine lv_goto (tgt := 162) hx hb d_Mo_carried_207 (by decide) ?_
                                        have e7 : nI i9 + 1 = nI (i9 + 1) := nI_1 i9
                                        have e6 : 0 = bI (Bo (12 * a + i) || anyB (fun c => Ry c && Bo (12 * c + i)) (i9 + 1)) := (bI_f (show (Bo (12 * a + i) || (anyB (fun c => Ry c && Bo (12 * c + i)) i9 || (Ry i9 && Bo (12 * i9 + i)))) = false by rw [← Bool.or_assoc]; simp [hb30, hb35, hb49, hb90, hb94, hb98])).symm
                                        exact ih9 (i9 + 1) ls (by omega) (by rw [← e7, ← e6]; exact lv_sub hl [0, 1, 2, 3, 4, 5, 6, 7] rfl)
                                    · refine tr_top e9 ?_
                                      refine lv_if_eq (tgt := 201) hx hb d_Mo_carried_183 (by decide) (fun _ => ?_) (fun h0 => absurd (by decide) h0)
                                      refine lv_iconst (v := 0) hx hb d_Mo_carried_201 (by decide) ?_
                                      refine lv_istore (lv' := [(6, .int 0), (7, .int (nI i9)), (5, .int 1), (4, .int (nI i)), (3, .int (bI mo)), (0, .ref g0), (1, .int (nI a)), (2, .int (bI su))]) hx hb d_Mo_carried_202 hl (by decide) rfl (fun ls hl => ?_)
                                      refine lv_iinc (lv' := [(7, .int ((nI i9) + 1)), (6, .int 0), (5, .int 1), (4, .int (nI i)), (3, .int (bI mo)), (0, .ref g0), (1, .int (nI a)), (2, .int (bI su))]) hx hb d_Mo_carried_204 hl (k := 1) rfl rfl (by decide) rfl (fun ls hl => ?_)
                                      refine lv_goto (tgt := 162) hx hb d_Mo_carried_207 (by decide) ?_
                                      have e7 : nI i9 + 1 = nI (i9 + 1) := nI_1 i9
                                      have e6 : 0 = bI (Bo (12 * a + i) || anyB (fun c => Ry c && Bo (12 * c + i)) (i9 + 1)) := (bI_f (show (Bo (12 * a + i) || (anyB (fun c => Ry c && Bo (12 * c + i)) i9 || (Ry i9 && Bo (12 * i9 + i)))) = false by rw [← Bool.or_assoc]; simp [hb30, hb35, hb49, hb90, hb94])).symm
                                      exact ih9 (i9 + 1) ls (by omega) (by rw [← e7, ← e6]; exact lv_sub hl [0, 1, 2, 3, 4, 5, 6, 7] rfl)
                              exact nloop n 0 ls (Nat.zero_add _) (by rw [show bI (Bo (12 * a + i) || anyB (fun c => Ry c && Bo (12 * c + i)) 0) = bI (Bo (12 * a + i)) by simp [anyB]]; exact hl)
                · refine tr_top e9 ?_
                  refine lv_if_eq (tgt := 115) hx hb d_Mo_carried_60 (by decide) (fun _ => ?_) (fun h0 => absurd (by decide) h0)
                  refine lv_iconst (v := 0) hx hb d_Mo_carried_115 (by decide) ?_
                  refine lv_istore (lv' := [(5, .int 0), (4, .int (nI i)), (3, .int (bI mo)), (0, .ref g0), (1, .int (nI a)), (2, .int (bI su))]) hx hb d_Mo_carried_116 hl (by decide) rfl (fun ls hl => ?_)
                  refine lv_iload hx hb d_Mo_carried_118 (lv_at hl 0 rfl) ?_
                  refine lv_if_eq (tgt := 234) hx hb d_Mo_carried_120 (by decide) (fun _ => ?_) (fun h0 => absurd (by decide) h0)
                  refine lv_iinc (lv' := [(4, .int ((nI i) + 1)), (5, .int 0), (3, .int (bI mo)), (0, .ref g0), (1, .int (nI a)), (2, .int (bI su))]) hx hb d_Mo_carried_234 hl (k := 1) rfl rfl (by decide) rfl (fun ls hl => ?_)
                  refine lv_goto (tgt := 34) hx hb d_Mo_carried_237 (by decide) ?_
                  have e4 : nI i + 1 = nI (i + 1) := nI_1 i
                  have hI2 := crI_skip hI (by first | exact Or.inl (by assumption) | exact Or.inr (by simp [cFl, hb30, hb35]))
                  exact ih (i + 1) Ry mo ls H locs (by omega) hI2 (by rw [← e4]; exact lv_sub hl [0, 2, 3, 4, 5] rfl) hP hD hS
          exact inn n 0 Rx false ls H locs (Nat.zero_add _) (crI_0 hso) hl hP hD hS
      exact wh (n - numB (fun j => cl0 Re n j) n + 1) (fun j => cl0 Re n j) ls H locs (Nat.lt_succ_self _) (fun b hb h => absurd h (by simp [cl0, hb])) (lv_sub hl [0, 1, 2, 3] rfl) hP hD hS
    | succ k ih =>
      intro i ls H locs hi hl hP hD hS
      have hlt : i < n := by omega
      have hlt12 : i < 12 := by omega
      refine lv_iload_n hx hb d_Mo_carried_2 rfl (lv_at hl 0 rfl) ?_
      refine lv_aload_n hx hb d_Mo_carried_3 rfl (lv_at hl 1 rfl) ?_
      refine va_get (D := D) (ci := 6) (v := .int (nI n)) (C := R_Mo) (T := T_Mo) (N := 24) hx hb hts hin_Mo hown hK hP 0 rfl rfl 1 (by decide) (hts _ wd_705) (fun _ h9 => h9) rfl d_Mo_carried_4 ?_
      refine lv_icmp_ge (tgt := 23) hx hb d_Mo_carried_7 (by decide) (fun h0 => absurd h0 (nI_ge hlt (by omega))) (fun _ => ?_)
      refine lv_aload_n hx hb d_Mo_carried_10 rfl (lv_at hl 1 rfl) ?_
      refine va_get (D := D) (ci := 6) (v := .ref m_reached) (C := R_Mo) (T := T_Mo) (N := 24) hx hb hts hin_Mo hown hK hP 0 rfl rfl 15 (by decide) (hts _ wd_719) (fun _ h9 => h9) rfl d_Mo_carried_11 ?_
      refine lv_iload_n hx hb d_Mo_carried_14 rfl (lv_at hl 0 rfl) ?_
      refine lv_iconst (v := 0) hx hb d_Mo_carried_15 (by decide) ?_
      refine tr_zast (g := fun j => bI (upB (fun j => cl0 Re i j) i false j)) hx hb hK hP hD hS 8 1 rfl rfl i hlt12 (by decide) (upB_I (fun j => cl0 Re i j) i false) d_Mo_carried_16 (fun H locs hP hD hS => ?_)
      have hP : va_P D vwCl [(g0, .inr (6, [.int co, .int (nI n), .ref m_sea, .ref m_center, .ref m_home, .ref m_borders, .int mp, .int mt, .ref m_owner, .ref m_units, .ref m_kind, .ref m_toX, .ref m_toY, .ref m_results, .ref m_known, .ref m_reached, .ref m_way, .ref m_aside, .ref m_origin, .ref m_retreats, .ref m_contested, .ref m_moved, .int msh, .ref m_past])), (m_sea, .inl (cZ, 12, .inl (fun j => bI (S j)))), (m_borders, .inl (cZ, 144, .inl (fun j => bI (Bo j)))), (m_units, .inl (cI, 12, .inl fu)), (m_kind, .inl (cI, 12, .inl (fun j => nI (Kd j)))), (m_toX, .inl (cI, 12, .inl (fun j => nI (X j)))), (m_toY, .inl (cI, 12, .inl (fun j => nI (Y j)))), (m_known, .inl (cI, 12, .inl (fun j => nI (K j)))), (m_reached, .inl (cZ, 12, .inl (fun j => bI (upB (fun j => cl0 Re i j) i false j))))] H := hP
      have hD : va_D A [(g0, .inr (6, [.int co, .int (nI n), .ref m_sea, .ref m_center, .ref m_home, .ref m_borders, .int mp, .int mt, .ref m_owner, .ref m_units, .ref m_kind, .ref m_toX, .ref m_toY, .ref m_results, .ref m_known, .ref m_reached, .ref m_way, .ref m_aside, .ref m_origin, .ref m_retreats, .ref m_contested, .ref m_moved, .int msh, .ref m_past])), (m_sea, .inl (cZ, 12, .inl (fun j => bI (S j)))), (m_borders, .inl (cZ, 144, .inl (fun j => bI (Bo j)))), (m_units, .inl (cI, 12, .inl fu)), (m_kind, .inl (cI, 12, .inl (fun j => nI (Kd j)))), (m_toX, .inl (cI, 12, .inl (fun j => nI (X j)))), (m_toY, .inl (cI, 12, .inl (fun j => nI (Y j)))), (m_known, .inl (cI, 12, .inl (fun j => nI (K j)))), (m_reached, .inl (cZ, 12, .inl (fun j => bI (upB (fun j => cl0 Re i j) i false j))))] := hD
      refine lv_iinc (lv' := [(3, .int ((nI i) + 1)), (0, .ref g0), (1, .int (nI a)), (2, .int (bI su))]) hx hb d_Mo_carried_17 hl (k := 0) rfl rfl (by decide) rfl (fun ls hl => ?_)
      refine lv_goto (tgt := 2) hx hb d_Mo_carried_20 (by decide) ?_
      have e105 : (nI i) + 1 = nI (i + 1) := nI_1 i
      have eF : (fun j => bI (upB (fun j => cl0 Re i j) i false j)) = (fun j => bI (cl0 Re (i + 1) j)) := by funext j; exact congrArg bI (cl0_s Re i j)
      exact ih (i + 1) ls H locs (by omega) (by rw [← e105]; exact lv_sub hl [0, 1, 2, 3] rfl) (by rw [← eF]; exact hP) (by rw [← eF]; exact hD) hS
  exact loop n 0 ls _ _ (Nat.zero_add _) hl hP hD hS
