def alR (fa fr : Nat → Int32) (n i : Nat) : Bool := !decide (fa i < 0) && !decide (fr i < 0) && !anyB (fun b => !decide (b = i) && !decide (fa b < 0) && decide (fr b = fr i)) n
def erM (fa fr b : Nat → Int32) (n : Nat) : Nat → Nat → Int32
  | 0 => b
  | i + 1 => if alR fa fr n i = true then upd (erM fa fr b n i) (fr i).toNatClampNeg (fa i) else erM fa fr b n i
theorem erM_y {fa fr b : Nat → Int32} {n i : Nat} (h : alR fa fr n i = true) : upd (erM fa fr b n i) (fr i).toNatClampNeg (fa i) = erM fa fr b n (i + 1) := by rw [erM, if_pos h]
theorem erM_n {fa fr b : Nat → Int32} {n i : Nat} (h : alR fa fr n i = false) : erM fa fr b n i = erM fa fr b n (i + 1) := by rw [erM, if_neg (by rw [h]; decide)]

theorem d_Mo_endRetreats_0 : decode b_Mo_endRetreats 0 = .ok (.iconst 0, 1) := by decide +kernel
theorem d_Mo_endRetreats_1 : decode b_Mo_endRetreats 1 = .ok (.istore_n 1, 1) := by decide +kernel
theorem d_Mo_endRetreats_2 : decode b_Mo_endRetreats 2 = .ok (.iload_n 1, 1) := by decide +kernel
theorem d_Mo_endRetreats_3 : decode b_Mo_endRetreats 3 = .ok (.aload_n 0, 1) := by decide +kernel
theorem d_Mo_endRetreats_4 : decode b_Mo_endRetreats 4 = .ok (.getfield 72, 3) := by decide +kernel
theorem d_Mo_endRetreats_7 : decode b_Mo_endRetreats 7 = .ok (.if_icmp .ge 16, 3) := by decide +kernel
theorem d_Mo_endRetreats_10 : decode b_Mo_endRetreats 10 = .ok (.aload_n 0, 1) := by decide +kernel
theorem d_Mo_endRetreats_11 : decode b_Mo_endRetreats 11 = .ok (.getfield 62, 3) := by decide +kernel
theorem d_Mo_endRetreats_14 : decode b_Mo_endRetreats 14 = .ok (.iload_n 1, 1) := by decide +kernel
theorem d_Mo_endRetreats_15 : decode b_Mo_endRetreats 15 = .ok (.iconst (-1), 1) := by decide +kernel
theorem d_Mo_endRetreats_16 : decode b_Mo_endRetreats 16 = .ok (.iastore, 1) := by decide +kernel
theorem d_Mo_endRetreats_17 : decode b_Mo_endRetreats 17 = .ok (.iinc 1 1, 3) := by decide +kernel
theorem d_Mo_endRetreats_20 : decode b_Mo_endRetreats 20 = .ok (.goto (-18), 3) := by decide +kernel
theorem d_Mo_endRetreats_23 : decode b_Mo_endRetreats 23 = .ok (.iconst 0, 1) := by decide +kernel
theorem d_Mo_endRetreats_24 : decode b_Mo_endRetreats 24 = .ok (.istore_n 1, 1) := by decide +kernel
theorem d_Mo_endRetreats_25 : decode b_Mo_endRetreats 25 = .ok (.iload_n 1, 1) := by decide +kernel
theorem d_Mo_endRetreats_26 : decode b_Mo_endRetreats 26 = .ok (.aload_n 0, 1) := by decide +kernel
theorem d_Mo_endRetreats_27 : decode b_Mo_endRetreats 27 = .ok (.getfield 72, 3) := by decide +kernel
theorem d_Mo_endRetreats_30 : decode b_Mo_endRetreats 30 = .ok (.if_icmp .ge 109, 3) := by decide +kernel
theorem d_Mo_endRetreats_33 : decode b_Mo_endRetreats 33 = .ok (.aload_n 0, 1) := by decide +kernel
theorem d_Mo_endRetreats_34 : decode b_Mo_endRetreats 34 = .ok (.getfield 50, 3) := by decide +kernel
theorem d_Mo_endRetreats_37 : decode b_Mo_endRetreats 37 = .ok (.iload_n 1, 1) := by decide +kernel
theorem d_Mo_endRetreats_38 : decode b_Mo_endRetreats 38 = .ok (.iaload, 1) := by decide +kernel
theorem d_Mo_endRetreats_39 : decode b_Mo_endRetreats 39 = .ok (.ifCond .lt 16, 3) := by decide +kernel
theorem d_Mo_endRetreats_42 : decode b_Mo_endRetreats 42 = .ok (.aload_n 0, 1) := by decide +kernel
theorem d_Mo_endRetreats_43 : decode b_Mo_endRetreats 43 = .ok (.getfield 56, 3) := by decide +kernel
theorem d_Mo_endRetreats_46 : decode b_Mo_endRetreats 46 = .ok (.iload_n 1, 1) := by decide +kernel
theorem d_Mo_endRetreats_47 : decode b_Mo_endRetreats 47 = .ok (.iaload, 1) := by decide +kernel
theorem d_Mo_endRetreats_48 : decode b_Mo_endRetreats 48 = .ok (.ifCond .lt 7, 3) := by decide +kernel
theorem d_Mo_endRetreats_51 : decode b_Mo_endRetreats 51 = .ok (.iconst 1, 1) := by decide +kernel
theorem d_Mo_endRetreats_52 : decode b_Mo_endRetreats 52 = .ok (.goto 4, 3) := by decide +kernel
theorem d_Mo_endRetreats_55 : decode b_Mo_endRetreats 55 = .ok (.iconst 0, 1) := by decide +kernel
theorem d_Mo_endRetreats_56 : decode b_Mo_endRetreats 56 = .ok (.istore_n 2, 1) := by decide +kernel
theorem d_Mo_endRetreats_57 : decode b_Mo_endRetreats 57 = .ok (.iconst 0, 1) := by decide +kernel
theorem d_Mo_endRetreats_58 : decode b_Mo_endRetreats 58 = .ok (.istore_n 3, 1) := by decide +kernel
theorem d_Mo_endRetreats_59 : decode b_Mo_endRetreats 59 = .ok (.iload_n 3, 1) := by decide +kernel
theorem d_Mo_endRetreats_60 : decode b_Mo_endRetreats 60 = .ok (.aload_n 0, 1) := by decide +kernel
theorem d_Mo_endRetreats_61 : decode b_Mo_endRetreats 61 = .ok (.getfield 72, 3) := by decide +kernel
theorem d_Mo_endRetreats_64 : decode b_Mo_endRetreats 64 = .ok (.if_icmp .ge 48, 3) := by decide +kernel
theorem d_Mo_endRetreats_67 : decode b_Mo_endRetreats 67 = .ok (.iload_n 2, 1) := by decide +kernel
theorem d_Mo_endRetreats_68 : decode b_Mo_endRetreats 68 = .ok (.ifCond .eq 36, 3) := by decide +kernel
theorem d_Mo_endRetreats_71 : decode b_Mo_endRetreats 71 = .ok (.iload_n 3, 1) := by decide +kernel
theorem d_Mo_endRetreats_72 : decode b_Mo_endRetreats 72 = .ok (.iload_n 1, 1) := by decide +kernel
theorem d_Mo_endRetreats_73 : decode b_Mo_endRetreats 73 = .ok (.if_icmp .eq 27, 3) := by decide +kernel
theorem d_Mo_endRetreats_76 : decode b_Mo_endRetreats 76 = .ok (.aload_n 0, 1) := by decide +kernel
theorem d_Mo_endRetreats_77 : decode b_Mo_endRetreats 77 = .ok (.getfield 50, 3) := by decide +kernel
theorem d_Mo_endRetreats_80 : decode b_Mo_endRetreats 80 = .ok (.iload_n 3, 1) := by decide +kernel
theorem d_Mo_endRetreats_81 : decode b_Mo_endRetreats 81 = .ok (.iaload, 1) := by decide +kernel
theorem d_Mo_endRetreats_82 : decode b_Mo_endRetreats 82 = .ok (.ifCond .lt 18, 3) := by decide +kernel
theorem d_Mo_endRetreats_85 : decode b_Mo_endRetreats 85 = .ok (.aload_n 0, 1) := by decide +kernel
theorem d_Mo_endRetreats_86 : decode b_Mo_endRetreats 86 = .ok (.getfield 56, 3) := by decide +kernel
theorem d_Mo_endRetreats_89 : decode b_Mo_endRetreats 89 = .ok (.iload_n 3, 1) := by decide +kernel
theorem d_Mo_endRetreats_90 : decode b_Mo_endRetreats 90 = .ok (.iaload, 1) := by decide +kernel
theorem d_Mo_endRetreats_91 : decode b_Mo_endRetreats 91 = .ok (.aload_n 0, 1) := by decide +kernel
theorem d_Mo_endRetreats_92 : decode b_Mo_endRetreats 92 = .ok (.getfield 56, 3) := by decide +kernel
theorem d_Mo_endRetreats_95 : decode b_Mo_endRetreats 95 = .ok (.iload_n 1, 1) := by decide +kernel
theorem d_Mo_endRetreats_96 : decode b_Mo_endRetreats 96 = .ok (.iaload, 1) := by decide +kernel
theorem d_Mo_endRetreats_97 : decode b_Mo_endRetreats 97 = .ok (.if_icmp .eq 7, 3) := by decide +kernel
theorem d_Mo_endRetreats_100 : decode b_Mo_endRetreats 100 = .ok (.iconst 1, 1) := by decide +kernel
theorem d_Mo_endRetreats_101 : decode b_Mo_endRetreats 101 = .ok (.goto 4, 3) := by decide +kernel
theorem d_Mo_endRetreats_104 : decode b_Mo_endRetreats 104 = .ok (.iconst 0, 1) := by decide +kernel
theorem d_Mo_endRetreats_105 : decode b_Mo_endRetreats 105 = .ok (.istore_n 2, 1) := by decide +kernel
theorem d_Mo_endRetreats_106 : decode b_Mo_endRetreats 106 = .ok (.iinc 3 1, 3) := by decide +kernel
theorem d_Mo_endRetreats_109 : decode b_Mo_endRetreats 109 = .ok (.goto (-50), 3) := by decide +kernel
theorem d_Mo_endRetreats_112 : decode b_Mo_endRetreats 112 = .ok (.iload_n 2, 1) := by decide +kernel
theorem d_Mo_endRetreats_113 : decode b_Mo_endRetreats 113 = .ok (.ifCond .eq 20, 3) := by decide +kernel
theorem d_Mo_endRetreats_116 : decode b_Mo_endRetreats 116 = .ok (.aload_n 0, 1) := by decide +kernel
theorem d_Mo_endRetreats_117 : decode b_Mo_endRetreats 117 = .ok (.getfield 62, 3) := by decide +kernel
theorem d_Mo_endRetreats_120 : decode b_Mo_endRetreats 120 = .ok (.aload_n 0, 1) := by decide +kernel
theorem d_Mo_endRetreats_121 : decode b_Mo_endRetreats 121 = .ok (.getfield 56, 3) := by decide +kernel
theorem d_Mo_endRetreats_124 : decode b_Mo_endRetreats 124 = .ok (.iload_n 1, 1) := by decide +kernel
theorem d_Mo_endRetreats_125 : decode b_Mo_endRetreats 125 = .ok (.iaload, 1) := by decide +kernel
theorem d_Mo_endRetreats_126 : decode b_Mo_endRetreats 126 = .ok (.aload_n 0, 1) := by decide +kernel
theorem d_Mo_endRetreats_127 : decode b_Mo_endRetreats 127 = .ok (.getfield 50, 3) := by decide +kernel
theorem d_Mo_endRetreats_130 : decode b_Mo_endRetreats 130 = .ok (.iload_n 1, 1) := by decide +kernel
theorem d_Mo_endRetreats_131 : decode b_Mo_endRetreats 131 = .ok (.iaload, 1) := by decide +kernel
theorem d_Mo_endRetreats_132 : decode b_Mo_endRetreats 132 = .ok (.iastore, 1) := by decide +kernel
theorem d_Mo_endRetreats_133 : decode b_Mo_endRetreats 133 = .ok (.iinc 1 1, 3) := by decide +kernel
theorem d_Mo_endRetreats_136 : decode b_Mo_endRetreats 136 = .ok (.goto (-111), 3) := by decide +kernel
theorem d_Mo_endRetreats_139 : decode b_Mo_endRetreats 139 = .ok (.iconst 0, 1) := by decide +kernel
theorem d_Mo_endRetreats_140 : decode b_Mo_endRetreats 140 = .ok (.istore_n 1, 1) := by decide +kernel
theorem d_Mo_endRetreats_141 : decode b_Mo_endRetreats 141 = .ok (.iload_n 1, 1) := by decide +kernel
theorem d_Mo_endRetreats_142 : decode b_Mo_endRetreats 142 = .ok (.aload_n 0, 1) := by decide +kernel
theorem d_Mo_endRetreats_143 : decode b_Mo_endRetreats 143 = .ok (.getfield 72, 3) := by decide +kernel
theorem d_Mo_endRetreats_146 : decode b_Mo_endRetreats 146 = .ok (.if_icmp .ge 46, 3) := by decide +kernel
theorem d_Mo_endRetreats_149 : decode b_Mo_endRetreats 149 = .ok (.aload_n 0, 1) := by decide +kernel
theorem d_Mo_endRetreats_150 : decode b_Mo_endRetreats 150 = .ok (.getfield 26, 3) := by decide +kernel
theorem d_Mo_endRetreats_153 : decode b_Mo_endRetreats 153 = .ok (.iload_n 1, 1) := by decide +kernel
theorem d_Mo_endRetreats_154 : decode b_Mo_endRetreats 154 = .ok (.aload_n 0, 1) := by decide +kernel
theorem d_Mo_endRetreats_155 : decode b_Mo_endRetreats 155 = .ok (.getfield 62, 3) := by decide +kernel
theorem d_Mo_endRetreats_158 : decode b_Mo_endRetreats 158 = .ok (.iload_n 1, 1) := by decide +kernel
theorem d_Mo_endRetreats_159 : decode b_Mo_endRetreats 159 = .ok (.iaload, 1) := by decide +kernel
theorem d_Mo_endRetreats_160 : decode b_Mo_endRetreats 160 = .ok (.ifCond .lt 12, 3) := by decide +kernel
theorem d_Mo_endRetreats_163 : decode b_Mo_endRetreats 163 = .ok (.aload_n 0, 1) := by decide +kernel
theorem d_Mo_endRetreats_164 : decode b_Mo_endRetreats 164 = .ok (.getfield 62, 3) := by decide +kernel
theorem d_Mo_endRetreats_167 : decode b_Mo_endRetreats 167 = .ok (.iload_n 1, 1) := by decide +kernel
theorem d_Mo_endRetreats_168 : decode b_Mo_endRetreats 168 = .ok (.iaload, 1) := by decide +kernel
theorem d_Mo_endRetreats_169 : decode b_Mo_endRetreats 169 = .ok (.goto 9, 3) := by decide +kernel
theorem d_Mo_endRetreats_172 : decode b_Mo_endRetreats 172 = .ok (.aload_n 0, 1) := by decide +kernel
theorem d_Mo_endRetreats_173 : decode b_Mo_endRetreats 173 = .ok (.getfield 26, 3) := by decide +kernel
theorem d_Mo_endRetreats_176 : decode b_Mo_endRetreats 176 = .ok (.iload_n 1, 1) := by decide +kernel
theorem d_Mo_endRetreats_177 : decode b_Mo_endRetreats 177 = .ok (.iaload, 1) := by decide +kernel
theorem d_Mo_endRetreats_178 : decode b_Mo_endRetreats 178 = .ok (.iastore, 1) := by decide +kernel
theorem d_Mo_endRetreats_179 : decode b_Mo_endRetreats 179 = .ok (.aload_n 0, 1) := by decide +kernel
theorem d_Mo_endRetreats_180 : decode b_Mo_endRetreats 180 = .ok (.getfield 50, 3) := by decide +kernel
theorem d_Mo_endRetreats_183 : decode b_Mo_endRetreats 183 = .ok (.iload_n 1, 1) := by decide +kernel
theorem d_Mo_endRetreats_184 : decode b_Mo_endRetreats 184 = .ok (.iconst (-1), 1) := by decide +kernel
theorem d_Mo_endRetreats_185 : decode b_Mo_endRetreats 185 = .ok (.iastore, 1) := by decide +kernel
theorem d_Mo_endRetreats_186 : decode b_Mo_endRetreats 186 = .ok (.iinc 1 1, 3) := by decide +kernel
theorem d_Mo_endRetreats_189 : decode b_Mo_endRetreats 189 = .ok (.goto (-48), 3) := by decide +kernel
theorem d_Mo_endRetreats_192 : decode b_Mo_endRetreats 192 = .ok (.aload_n 0, 1) := by decide +kernel
theorem d_Mo_endRetreats_193 : decode b_Mo_endRetreats 193 = .ok (.invokevirtual 192, 3) := by decide +kernel
theorem d_Mo_endRetreats_196 : decode b_Mo_endRetreats 196 = .ok (.return_, 1) := by decide +kernel

set_option maxHeartbeats 4000000 in
set_option maxRecDepth 100000 in
theorem c_Mo_endRetO (l : Launch) (D : va_G) (cI cZ cJ cS : ClassId) (aT : Nat) (ceT : Cell) (sz : Nat) (g0 m_sea m_center m_home m_borders m_owner m_units m_kind m_toX m_toY m_results m_known m_reached m_way m_aside m_origin m_retreats m_contested m_moved m_past : Nat) (n : Nat) (co mp mt msh : Int32) (Ce : Nat → Bool) (fh : Nat → Int32) (fw : Nat → Int32) (fu : Nat → Int32) (Kd : Nat → Nat) (X : Nat → Nat) (Y : Nat → Nat) (fa : Nat → Int32) (fr : Nat → Int32) (fm : Nat → Int32) (hKd : ∀ j, Kd j < 4) (hX9 : ∀ j, X j < 12) (hY9 : ∀ j, Y j < 12) (hn : n ≤ 12) (hfr : ∀ j, fr j < 0 ∨ vp_in (fr j) 12) (hev : ¬ mt - mt / 2 * 2 = 0) : Met l y_Mo_endRetreats w_Mo_endRetreats ({ frames := 2, cells := 0, slots := 0, locals := 48 }) (tH D cI cZ cJ cS aT ceT [.ref g0] sz [(g0, .inr (6, [.int co, .int (nI n), .ref m_sea, .ref m_center, .ref m_home, .ref m_borders, .int mp, .int mt, .ref m_owner, .ref m_units, .ref m_kind, .ref m_toX, .ref m_toY, .ref m_results, .ref m_known, .ref m_reached, .ref m_way, .ref m_aside, .ref m_origin, .ref m_retreats, .ref m_contested, .ref m_moved, .int msh, .ref m_past])), (m_center, .inl (cZ, 12, .inl (fun j => bI (Ce j)))), (m_home, .inl (cI, 12, .inl fh)), (m_owner, .inl (cI, 12, .inl fw)), (m_units, .inl (cI, 12, .inl fu)), (m_kind, .inl (cI, 12, .inl (fun j => nI (Kd j)))), (m_toX, .inl (cI, 12, .inl (fun j => nI (X j)))), (m_toY, .inl (cI, 12, .inl (fun j => nI (Y j)))), (m_aside, .inl (cI, 12, .inl fa)), (m_retreats, .inl (cI, 12, .inl fr)), (m_moved, .inl (cI, 12, .inl fm))]) (va_Qv (fun _ : Unit => True) (fun _ t => tB D (va_A [(g0, .inr (6, [.int co, .int (nI n), .ref m_sea, .ref m_center, .ref m_home, .ref m_borders, .int mp, .int mt, .ref m_owner, .ref m_units, .ref m_kind, .ref m_toX, .ref m_toY, .ref m_results, .ref m_known, .ref m_reached, .ref m_way, .ref m_aside, .ref m_origin, .ref m_retreats, .ref m_contested, .ref m_moved, .int msh, .ref m_past])), (m_center, .inl (cZ, 12, .inl (fun j => bI (Ce j)))), (m_home, .inl (cI, 12, .inl fh)), (m_owner, .inl (cI, 12, .inl fw)), (m_units, .inl (cI, 12, .inl fu)), (m_kind, .inl (cI, 12, .inl (fun j => nI (Kd j)))), (m_toX, .inl (cI, 12, .inl (fun j => nI (X j)))), (m_toY, .inl (cI, 12, .inl (fun j => nI (Y j)))), (m_aside, .inl (cI, 12, .inl fa)), (m_retreats, .inl (cI, 12, .inl fr)), (m_moved, .inl (cI, 12, .inl fm))] sz) [(g0, .inr (6, [.int co, .int (nI n), .ref m_sea, .ref m_center, .ref m_home, .ref m_borders, .int 1, .int (mt + 1), .ref m_owner, .ref m_units, .ref m_kind, .ref m_toX, .ref m_toY, .ref m_results, .ref m_known, .ref m_reached, .ref m_way, .ref m_aside, .ref m_origin, .ref m_retreats, .ref m_contested, .ref m_moved, .int msh, .ref m_past])), (m_center, .inl (cZ, 12, .inl (fun j => bI (Ce j)))), (m_home, .inl (cI, 12, .inl fh)), (m_owner, .inl (cI, 12, .inl fw)), (m_units, .inl (cI, 12, .inl (mxI (fun j => if (erM fa fr (mxI (fun _ => (-1)) fm n) n n) j < 0 then fu j else (erM fa fr (mxI (fun _ => (-1)) fm n) n n) j) fu n))), (m_kind, .inl (cI, 12, .inl (fun _ => 0))), (m_toX, .inl (cI, 12, .inl (fun _ => 0))), (m_toY, .inl (cI, 12, .inl (fun _ => 0))), (m_aside, .inl (cI, 12, .inl (mxI (fun _ => (-1)) fa n))), (m_retreats, .inl (cI, 12, .inl fr)), (m_moved, .inl (cI, 12, .inl (erM fa fr (mxI (fun _ => (-1)) fm n) n n)))] t) (va_A [(g0, .inr (6, [.int co, .int (nI n), .ref m_sea, .ref m_center, .ref m_home, .ref m_borders, .int mp, .int mt, .ref m_owner, .ref m_units, .ref m_kind, .ref m_toX, .ref m_toY, .ref m_results, .ref m_known, .ref m_reached, .ref m_way, .ref m_aside, .ref m_origin, .ref m_retreats, .ref m_contested, .ref m_moved, .int msh, .ref m_past])), (m_center, .inl (cZ, 12, .inl (fun j => bI (Ce j)))), (m_home, .inl (cI, 12, .inl fh)), (m_owner, .inl (cI, 12, .inl fw)), (m_units, .inl (cI, 12, .inl fu)), (m_kind, .inl (cI, 12, .inl (fun j => nI (Kd j)))), (m_toX, .inl (cI, 12, .inl (fun j => nI (X j)))), (m_toY, .inl (cI, 12, .inl (fun j => nI (Y j)))), (m_aside, .inl (cI, 12, .inl fa)), (m_retreats, .inl (cI, 12, .inl fr)), (m_moved, .inl (cI, 12, .inl fm))] sz)) 0 0 (va_A [(g0, .inr (6, [.int co, .int (nI n), .ref m_sea, .ref m_center, .ref m_home, .ref m_borders, .int mp, .int mt, .ref m_owner, .ref m_units, .ref m_kind, .ref m_toX, .ref m_toY, .ref m_results, .ref m_known, .ref m_reached, .ref m_way, .ref m_aside, .ref m_origin, .ref m_retreats, .ref m_contested, .ref m_moved, .int msh, .ref m_past])), (m_center, .inl (cZ, 12, .inl (fun j => bI (Ce j)))), (m_home, .inl (cI, 12, .inl fh)), (m_owner, .inl (cI, 12, .inl fw)), (m_units, .inl (cI, 12, .inl fu)), (m_kind, .inl (cI, 12, .inl (fun j => nI (Kd j)))), (m_toX, .inl (cI, 12, .inl (fun j => nI (X j)))), (m_toY, .inl (cI, 12, .inl (fun j => nI (Y j)))), (m_aside, .inl (cI, 12, .inl fa)), (m_retreats, .inl (cI, 12, .inl fr)), (m_moved, .inl (cI, 12, .inl fm))] sz) := by
  refine Met.ofW (cc := b_Mo_endRetreats) (maxL := 4) (ret := none) (by decide) rfl ?_
  intro p e s m args below meth c s₁ B hml hv
  obtain ⟨rfl, hsz, hP, hK, hD0, hX⟩ := hv
  have hx := B.exec
  have hb := B.bytes
  have hr := B.returns
  have hts0 := atoms_spec (ws := w_Mo_endRetreats) B.pre
  have hts : ∀ w ∈ TB, w.before _ s = true := fun w h => hts0 w (List.mem_cons_of_mem _ h)
  have hown : s.vm.findClass R_Mo = some m.cls := findClass_of_methodNamed B.named
  have hlocks := B.notSynchronized
  subst hsz
  have hXl := tx_lt hX
  have hXn := tx_far hP hX
  have hD := hD0.self (sz := s.heap.size)
  generalize hAe : va_A [(g0, .inr (6, [.int co, .int (nI n), .ref m_sea, .ref m_center, .ref m_home, .ref m_borders, .int mp, .int mt, .ref m_owner, .ref m_units, .ref m_kind, .ref m_toX, .ref m_toY, .ref m_results, .ref m_known, .ref m_reached, .ref m_way, .ref m_aside, .ref m_origin, .ref m_retreats, .ref m_contested, .ref m_moved, .int msh, .ref m_past])), (m_center, .inl (cZ, 12, .inl (fun j => bI (Ce j)))), (m_home, .inl (cI, 12, .inl fh)), (m_owner, .inl (cI, 12, .inl fw)), (m_units, .inl (cI, 12, .inl fu)), (m_kind, .inl (cI, 12, .inl (fun j => nI (Kd j)))), (m_toX, .inl (cI, 12, .inl (fun j => nI (X j)))), (m_toY, .inl (cI, 12, .inl (fun j => nI (Y j)))), (m_aside, .inl (cI, 12, .inl fa)), (m_retreats, .inl (cI, 12, .inl fr)), (m_moved, .inl (cI, 12, .inl fm))] s.heap.size = A at hD hXn ⊢
  have hA : ∀ q : Nat, s.heap.size ≤ q → A q := fun q h => by rw [← hAe]; exact Or.inr h
  have hS : va_S A s.heap s.heap [] := va_S.rf
  have hXH : s.heap[aT]? = s.heap[aT]? := rfl
  have hl := lv_entry ([.ref g0]) (n := 4) (Nat.le_of_ble_eq_true rfl)
  rw [lg_entry_eq]
  generalize (lg_sl ([.ref g0]) ++ List.replicate (4 - (lg_sl ([.ref g0])).length) Slot.unset).toArray = ls at hl ⊢
  have hl : lv_has ls 4 [(0, .ref g0)] := hl
  refine lv_iconst (v := 0) hx hb d_Mo_endRetreats_0 (by decide) ?_
  refine lv_istore_n (lv' := [(1, .int 0), (0, .ref g0)]) hx hb d_Mo_endRetreats_1 rfl hl (by decide) rfl (fun ls hl => ?_)
  have loop : ∀ (k i : Nat) (ls : Array Slot) (H : Heap) (locs : List Loc), i + k = n → lv_has ls 4 [(1, .int (nI i)), (0, .ref g0)] → va_P D vwCl [(g0, .inr (6, [.int co, .int (nI n), .ref m_sea, .ref m_center, .ref m_home, .ref m_borders, .int mp, .int mt, .ref m_owner, .ref m_units, .ref m_kind, .ref m_toX, .ref m_toY, .ref m_results, .ref m_known, .ref m_reached, .ref m_way, .ref m_aside, .ref m_origin, .ref m_retreats, .ref m_contested, .ref m_moved, .int msh, .ref m_past])), (m_center, .inl (cZ, 12, .inl (fun j => bI (Ce j)))), (m_home, .inl (cI, 12, .inl fh)), (m_owner, .inl (cI, 12, .inl fw)), (m_units, .inl (cI, 12, .inl fu)), (m_kind, .inl (cI, 12, .inl (fun j => nI (Kd j)))), (m_toX, .inl (cI, 12, .inl (fun j => nI (X j)))), (m_toY, .inl (cI, 12, .inl (fun j => nI (Y j)))), (m_aside, .inl (cI, 12, .inl fa)), (m_retreats, .inl (cI, 12, .inl fr)), (m_moved, .inl (cI, 12, .inl (mxI (fun _ => (-1)) fm i)))] H → va_D A [(g0, .inr (6, [.int co, .int (nI n), .ref m_sea, .ref m_center, .ref m_home, .ref m_borders, .int mp, .int mt, .ref m_owner, .ref m_units, .ref m_kind, .ref m_toX, .ref m_toY, .ref m_results, .ref m_known, .ref m_reached, .ref m_way, .ref m_aside, .ref m_origin, .ref m_retreats, .ref m_contested, .ref m_moved, .int msh, .ref m_past])), (m_center, .inl (cZ, 12, .inl (fun j => bI (Ce j)))), (m_home, .inl (cI, 12, .inl fh)), (m_owner, .inl (cI, 12, .inl fw)), (m_units, .inl (cI, 12, .inl fu)), (m_kind, .inl (cI, 12, .inl (fun j => nI (Kd j)))), (m_toX, .inl (cI, 12, .inl (fun j => nI (X j)))), (m_toY, .inl (cI, 12, .inl (fun j => nI (Y j)))), (m_aside, .inl (cI, 12, .inl fa)), (m_retreats, .inl (cI, 12, .inl fr)), (m_moved, .inl (cI, 12, .inl (mxI (fun _ => (-1)) fm i)))] → va_S A s.heap H locs → W p l e (headSpec w_Mo_endRetreats ({ frames := 2, cells := 0, slots := 0, locals := 48 })).room s m ([.ref g0]).toArray below meth c H locs 0 0 (MQ below (va_Qv (fun _ : Unit => True) (fun _ t => tB D A [(g0, .inr (6, [.int co, .int (nI n), .ref m_sea, .ref m_center, .ref m_home, .ref m_borders, .int 1, .int (mt + 1), .ref m_owner, .ref m_units, .ref m_kind, .ref m_toX, .ref m_toY, .ref m_results, .ref m_known, .ref m_reached, .ref m_way, .ref m_aside, .ref m_origin, .ref m_retreats, .ref m_contested, .ref m_moved, .int msh, .ref m_past])), (m_center, .inl (cZ, 12, .inl (fun j => bI (Ce j)))), (m_home, .inl (cI, 12, .inl fh)), (m_owner, .inl (cI, 12, .inl fw)), (m_units, .inl (cI, 12, .inl (mxI (fun j => if (erM fa fr (mxI (fun _ => (-1)) fm n) n n) j < 0 then fu j else (erM fa fr (mxI (fun _ => (-1)) fm n) n n) j) fu n))), (m_kind, .inl (cI, 12, .inl (fun _ => 0))), (m_toX, .inl (cI, 12, .inl (fun _ => 0))), (m_toY, .inl (cI, 12, .inl (fun _ => 0))), (m_aside, .inl (cI, 12, .inl (mxI (fun _ => (-1)) fa n))), (m_retreats, .inl (cI, 12, .inl fr)), (m_moved, .inl (cI, 12, .inl (erM fa fr (mxI (fun _ => (-1)) fm n) n n)))] t) A) ([.ref g0]).toArray s 0 0 A) (F0 m 2 ls []) := by
    intro k
    induction k with
    | zero =>
      intro i ls H locs hi hl hP hD hS
      have hie : i = n := by omega
      rw [hie] at hl hP hD
      refine lv_iload_n hx hb d_Mo_endRetreats_2 rfl (lv_at hl 0 rfl) ?_
      refine lv_aload_n hx hb d_Mo_endRetreats_3 rfl (lv_at hl 1 rfl) ?_
      refine va_get (D := D) (ci := 6) (v := .int (nI n)) (C := R_Mo) (T := T_Mo) (N := 24) hx hb hts hin_Mo hown hK hP 0 rfl rfl 1 (by decide) (hts _ wd_705) (fun _ h9 => h9) rfl d_Mo_endRetreats_4 ?_
      refine lv_icmp_ge (tgt := 23) hx hb d_Mo_endRetreats_7 (by decide) (fun _ => ?_) (fun h0 => absurd (Int32.le_refl _) h0)
      refine lv_iconst (v := 0) hx hb d_Mo_endRetreats_23 (by decide) ?_
      refine lv_istore_n (lv' := [(1, .int 0), (0, .ref g0)]) hx hb d_Mo_endRetreats_24 rfl hl (by decide) rfl (fun ls hl => ?_)
      have loop2 : ∀ (k i : Nat) (ls : Array Slot) (H : Heap) (locs : List Loc), i + k = n → lv_has ls 4 [(1, .int (nI i)), (0, .ref g0)] → va_P D vwCl [(g0, .inr (6, [.int co, .int (nI n), .ref m_sea, .ref m_center, .ref m_home, .ref m_borders, .int mp, .int mt, .ref m_owner, .ref m_units, .ref m_kind, .ref m_toX, .ref m_toY, .ref m_results, .ref m_known, .ref m_reached, .ref m_way, .ref m_aside, .ref m_origin, .ref m_retreats, .ref m_contested, .ref m_moved, .int msh, .ref m_past])), (m_center, .inl (cZ, 12, .inl (fun j => bI (Ce j)))), (m_home, .inl (cI, 12, .inl fh)), (m_owner, .inl (cI, 12, .inl fw)), (m_units, .inl (cI, 12, .inl fu)), (m_kind, .inl (cI, 12, .inl (fun j => nI (Kd j)))), (m_toX, .inl (cI, 12, .inl (fun j => nI (X j)))), (m_toY, .inl (cI, 12, .inl (fun j => nI (Y j)))), (m_aside, .inl (cI, 12, .inl fa)), (m_retreats, .inl (cI, 12, .inl fr)), (m_moved, .inl (cI, 12, .inl (erM fa fr (mxI (fun _ => (-1)) fm n) n i)))] H → va_D A [(g0, .inr (6, [.int co, .int (nI n), .ref m_sea, .ref m_center, .ref m_home, .ref m_borders, .int mp, .int mt, .ref m_owner, .ref m_units, .ref m_kind, .ref m_toX, .ref m_toY, .ref m_results, .ref m_known, .ref m_reached, .ref m_way, .ref m_aside, .ref m_origin, .ref m_retreats, .ref m_contested, .ref m_moved, .int msh, .ref m_past])), (m_center, .inl (cZ, 12, .inl (fun j => bI (Ce j)))), (m_home, .inl (cI, 12, .inl fh)), (m_owner, .inl (cI, 12, .inl fw)), (m_units, .inl (cI, 12, .inl fu)), (m_kind, .inl (cI, 12, .inl (fun j => nI (Kd j)))), (m_toX, .inl (cI, 12, .inl (fun j => nI (X j)))), (m_toY, .inl (cI, 12, .inl (fun j => nI (Y j)))), (m_aside, .inl (cI, 12, .inl fa)), (m_retreats, .inl (cI, 12, .inl fr)), (m_moved, .inl (cI, 12, .inl (erM fa fr (mxI (fun _ => (-1)) fm n) n i)))] → va_S A s.heap H locs → W p l e (headSpec w_Mo_endRetreats ({ frames := 2, cells := 0, slots := 0, locals := 48 })).room s m ([.ref g0]).toArray below meth c H locs 0 0 (MQ below (va_Qv (fun _ : Unit => True) (fun _ t => tB D A [(g0, .inr (6, [.int co, .int (nI n), .ref m_sea, .ref m_center, .ref m_home, .ref m_borders, .int 1, .int (mt + 1), .ref m_owner, .ref m_units, .ref m_kind, .ref m_toX, .ref m_toY, .ref m_results, .ref m_known, .ref m_reached, .ref m_way, .ref m_aside, .ref m_origin, .ref m_retreats, .ref m_contested, .ref m_moved, .int msh, .ref m_past])), (m_center, .inl (cZ, 12, .inl (fun j => bI (Ce j)))), (m_home, .inl (cI, 12, .inl fh)), (m_owner, .inl (cI, 12, .inl fw)), (m_units, .inl (cI, 12, .inl (mxI (fun j => if (erM fa fr (mxI (fun _ => (-1)) fm n) n n) j < 0 then fu j else (erM fa fr (mxI (fun _ => (-1)) fm n) n n) j) fu n))), (m_kind, .inl (cI, 12, .inl (fun _ => 0))), (m_toX, .inl (cI, 12, .inl (fun _ => 0))), (m_toY, .inl (cI, 12, .inl (fun _ => 0))), (m_aside, .inl (cI, 12, .inl (mxI (fun _ => (-1)) fa n))), (m_retreats, .inl (cI, 12, .inl fr)), (m_moved, .inl (cI, 12, .inl (erM fa fr (mxI (fun _ => (-1)) fm n) n n)))] t) A) ([.ref g0]).toArray s 0 0 A) (F0 m 25 ls []) := by
        intro k
        induction k with
        | zero =>
          intro i ls H locs hi hl hP hD hS
          have hie : i = n := by omega
          rw [hie] at hl hP hD
          refine lv_iload_n hx hb d_Mo_endRetreats_25 rfl (lv_at hl 0 rfl) ?_
          refine lv_aload_n hx hb d_Mo_endRetreats_26 rfl (lv_at hl 1 rfl) ?_
          refine va_get (D := D) (ci := 6) (v := .int (nI n)) (C := R_Mo) (T := T_Mo) (N := 24) hx hb hts hin_Mo hown hK hP 0 rfl rfl 1 (by decide) (hts _ wd_705) (fun _ h9 => h9) rfl d_Mo_endRetreats_27 ?_
          refine lv_icmp_ge (tgt := 139) hx hb d_Mo_endRetreats_30 (by decide) (fun _ => ?_) (fun h0 => absurd (Int32.le_refl _) h0)
          refine lv_iconst (v := 0) hx hb d_Mo_endRetreats_139 (by decide) ?_
          refine lv_istore_n (lv' := [(1, .int 0), (0, .ref g0)]) hx hb d_Mo_endRetreats_140 rfl hl (by decide) rfl (fun ls hl => ?_)
          have loop3 : ∀ (k i : Nat) (ls : Array Slot) (H : Heap) (locs : List Loc), i + k = n → lv_has ls 4 [(1, .int (nI i)), (0, .ref g0)] → va_P D vwCl [(g0, .inr (6, [.int co, .int (nI n), .ref m_sea, .ref m_center, .ref m_home, .ref m_borders, .int mp, .int mt, .ref m_owner, .ref m_units, .ref m_kind, .ref m_toX, .ref m_toY, .ref m_results, .ref m_known, .ref m_reached, .ref m_way, .ref m_aside, .ref m_origin, .ref m_retreats, .ref m_contested, .ref m_moved, .int msh, .ref m_past])), (m_center, .inl (cZ, 12, .inl (fun j => bI (Ce j)))), (m_home, .inl (cI, 12, .inl fh)), (m_owner, .inl (cI, 12, .inl fw)), (m_units, .inl (cI, 12, .inl (mxI (fun j => if (erM fa fr (mxI (fun _ => (-1)) fm n) n n) j < 0 then fu j else (erM fa fr (mxI (fun _ => (-1)) fm n) n n) j) fu i))), (m_kind, .inl (cI, 12, .inl (fun j => nI (Kd j)))), (m_toX, .inl (cI, 12, .inl (fun j => nI (X j)))), (m_toY, .inl (cI, 12, .inl (fun j => nI (Y j)))), (m_aside, .inl (cI, 12, .inl (mxI (fun _ => (-1)) fa i))), (m_retreats, .inl (cI, 12, .inl fr)), (m_moved, .inl (cI, 12, .inl (erM fa fr (mxI (fun _ => (-1)) fm n) n n)))] H → va_D A [(g0, .inr (6, [.int co, .int (nI n), .ref m_sea, .ref m_center, .ref m_home, .ref m_borders, .int mp, .int mt, .ref m_owner, .ref m_units, .ref m_kind, .ref m_toX, .ref m_toY, .ref m_results, .ref m_known, .ref m_reached, .ref m_way, .ref m_aside, .ref m_origin, .ref m_retreats, .ref m_contested, .ref m_moved, .int msh, .ref m_past])), (m_center, .inl (cZ, 12, .inl (fun j => bI (Ce j)))), (m_home, .inl (cI, 12, .inl fh)), (m_owner, .inl (cI, 12, .inl fw)), (m_units, .inl (cI, 12, .inl (mxI (fun j => if (erM fa fr (mxI (fun _ => (-1)) fm n) n n) j < 0 then fu j else (erM fa fr (mxI (fun _ => (-1)) fm n) n n) j) fu i))), (m_kind, .inl (cI, 12, .inl (fun j => nI (Kd j)))), (m_toX, .inl (cI, 12, .inl (fun j => nI (X j)))), (m_toY, .inl (cI, 12, .inl (fun j => nI (Y j)))), (m_aside, .inl (cI, 12, .inl (mxI (fun _ => (-1)) fa i))), (m_retreats, .inl (cI, 12, .inl fr)), (m_moved, .inl (cI, 12, .inl (erM fa fr (mxI (fun _ => (-1)) fm n) n n)))] → va_S A s.heap H locs → W p l e (headSpec w_Mo_endRetreats ({ frames := 2, cells := 0, slots := 0, locals := 48 })).room s m ([.ref g0]).toArray below meth c H locs 0 0 (MQ below (va_Qv (fun _ : Unit => True) (fun _ t => tB D A [(g0, .inr (6, [.int co, .int (nI n), .ref m_sea, .ref m_center, .ref m_home, .ref m_borders, .int 1, .int (mt + 1), .ref m_owner, .ref m_units, .ref m_kind, .ref m_toX, .ref m_toY, .ref m_results, .ref m_known, .ref m_reached, .ref m_way, .ref m_aside, .ref m_origin, .ref m_retreats, .ref m_contested, .ref m_moved, .int msh, .ref m_past])), (m_center, .inl (cZ, 12, .inl (fun j => bI (Ce j)))), (m_home, .inl (cI, 12, .inl fh)), (m_owner, .inl (cI, 12, .inl fw)), (m_units, .inl (cI, 12, .inl (mxI (fun j => if (erM fa fr (mxI (fun _ => (-1)) fm n) n n) j < 0 then fu j else (erM fa fr (mxI (fun _ => (-1)) fm n) n n) j) fu n))), (m_kind, .inl (cI, 12, .inl (fun _ => 0))), (m_toX, .inl (cI, 12, .inl (fun _ => 0))), (m_toY, .inl (cI, 12, .inl (fun _ => 0))), (m_aside, .inl (cI, 12, .inl (mxI (fun _ => (-1)) fa n))), (m_retreats, .inl (cI, 12, .inl fr)), (m_moved, .inl (cI, 12, .inl (erM fa fr (mxI (fun _ => (-1)) fm n) n n)))] t) A) ([.ref g0]).toArray s 0 0 A) (F0 m 141 ls []) := by
            intro k
            induction k with
            | zero =>
              intro i ls H locs hi hl hP hD hS
              have hie : i = n := by omega
              rw [hie] at hl hP hD
              refine lv_iload_n hx hb d_Mo_endRetreats_141 rfl (lv_at hl 0 rfl) ?_
              refine lv_aload_n hx hb d_Mo_endRetreats_142 rfl (lv_at hl 1 rfl) ?_
              refine va_get (D := D) (ci := 6) (v := .int (nI n)) (C := R_Mo) (T := T_Mo) (N := 24) hx hb hts hin_Mo hown hK hP 0 rfl rfl 1 (by decide) (hts _ wd_705) (fun _ h9 => h9) rfl d_Mo_endRetreats_143 ?_
              refine lv_icmp_ge (tgt := 192) hx hb d_Mo_endRetreats_146 (by decide) (fun _ => ?_) (fun h0 => absurd (Int32.le_refl _) h0)
              refine lv_aload_n hx hb d_Mo_endRetreats_192 rfl (lv_at hl 1 rfl) ?_
              have hPc := hP.sub (ws' := [(g0, .inr (6, [.int co, .int (nI n), .ref m_sea, .ref m_center, .ref m_home, .ref m_borders, .int mp, .int mt, .ref m_owner, .ref m_units, .ref m_kind, .ref m_toX, .ref m_toY, .ref m_results, .ref m_known, .ref m_reached, .ref m_way, .ref m_aside, .ref m_origin, .ref m_retreats, .ref m_contested, .ref m_moved, .int msh, .ref m_past])), (m_center, .inl (cZ, 12, .inl (fun j => bI (Ce j)))), (m_home, .inl (cI, 12, .inl fh)), (m_owner, .inl (cI, 12, .inl fw)), (m_units, .inl (cI, 12, .inl (mxI (fun j => if (erM fa fr (mxI (fun _ => (-1)) fm n) n n) j < 0 then fu j else (erM fa fr (mxI (fun _ => (-1)) fm n) n n) j) fu n))), (m_kind, .inl (cI, 12, .inl (fun j => nI (Kd j)))), (m_toX, .inl (cI, 12, .inl (fun j => nI (X j)))), (m_toY, .inl (cI, 12, .inl (fun j => nI (Y j))))]) [0, 1, 2, 3, 4, 5, 6, 7] rfl
              have hDc := hD.sub (ws' := [(g0, .inr (6, [.int co, .int (nI n), .ref m_sea, .ref m_center, .ref m_home, .ref m_borders, .int mp, .int mt, .ref m_owner, .ref m_units, .ref m_kind, .ref m_toX, .ref m_toY, .ref m_results, .ref m_known, .ref m_reached, .ref m_way, .ref m_aside, .ref m_origin, .ref m_retreats, .ref m_contested, .ref m_moved, .int msh, .ref m_past])), (m_center, .inl (cZ, 12, .inl (fun j => bI (Ce j)))), (m_home, .inl (cI, 12, .inl fh)), (m_owner, .inl (cI, 12, .inl fw)), (m_units, .inl (cI, 12, .inl (mxI (fun j => if (erM fa fr (mxI (fun _ => (-1)) fm n) n n) j < 0 then fu j else (erM fa fr (mxI (fun _ => (-1)) fm n) n n) j) fu n))), (m_kind, .inl (cI, 12, .inl (fun j => nI (Kd j)))), (m_toX, .inl (cI, 12, .inl (fun j => nI (X j)))), (m_toY, .inl (cI, 12, .inl (fun j => nI (Y j))))]) [0, 1, 2, 3, 4, 5, 6, 7] (by decide) rfl
              have hFc := va_free (wc := [(g0, .inr (6, [.int co, .int (nI n), .ref m_sea, .ref m_center, .ref m_home, .ref m_borders, .int mp, .int mt, .ref m_owner, .ref m_units, .ref m_kind, .ref m_toX, .ref m_toY, .ref m_results, .ref m_known, .ref m_reached, .ref m_way, .ref m_aside, .ref m_origin, .ref m_retreats, .ref m_contested, .ref m_moved, .int msh, .ref m_past])), (m_center, .inl (cZ, 12, .inl (fun j => bI (Ce j)))), (m_home, .inl (cI, 12, .inl fh)), (m_owner, .inl (cI, 12, .inl fw)), (m_units, .inl (cI, 12, .inl (mxI (fun j => if (erM fa fr (mxI (fun _ => (-1)) fm n) n n) j < 0 then fu j else (erM fa fr (mxI (fun _ => (-1)) fm n) n n) j) fu n))), (m_kind, .inl (cI, 12, .inl (fun j => nI (Kd j)))), (m_toX, .inl (cI, 12, .inl (fun j => nI (X j)))), (m_toY, .inl (cI, 12, .inl (fun j => nI (Y j))))]) hD hS hA [0, 1, 2, 3, 4, 5, 6, 7] rfl
              refine va_callv (va_runV (As := []) (rest := []) ⟨hx, hb, hml, hown, hts⟩ (c_Mo_endTurnO l D cI cZ cJ cS aT ceT H.size g0 m_sea m_center m_home m_borders m_owner m_units m_kind m_toX m_toY m_results m_known m_reached m_way m_aside m_origin m_retreats m_contested m_moved m_past n co mp mt msh Ce fh fw (mxI (fun j => if (erM fa fr (mxI (fun _ => (-1)) fm n) n n) j < 0 then fu j else (erM fa fr (mxI (fun _ => (-1)) fm n) n n) j) fu n) Kd X Y hKd hX9 hY9 hn hev) (cwV 0 hts (tb_4 wd_937 wd_939 wp_68 wd_8 (tb_c wd_940)) rfl rfl rfl ⟨rfl, by decide, by decide, by decide +kernel⟩ ⟨Nat.le_of_ble_eq_true rfl, Nat.le_of_ble_eq_true rfl⟩) (tH_V hK hX (hS.2.1 aT hXl hXn) hPc hDc (q := 0) rfl rfl) rfl rfl hl.1 rfl (lv_room (Nat.le_of_ble_eq_true rfl)) d_Mo_endRetreats_193 ⟨Nat.le_of_ble_eq_true rfl, Nat.le_of_ble_eq_true rfl⟩) hS (fun q _ h => hFc q h) hFc (fun u t H1 locs ht hvm h9 hB hz1 hk1 hS => ?_)
              obtain ⟨hP1, hD1⟩ := hB
              rw [ht] at hP1
              obtain ⟨hP, hD⟩ := va_join (wr := [(m_aside, .inl (cI, 12, .inl (mxI (fun _ => (-1)) fa n))), (m_retreats, .inl (cI, 12, .inl fr)), (m_moved, .inl (cI, 12, .inl (erM fa fr (mxI (fun _ => (-1)) fm n) n n)))]) (w1 := [(g0, .inr (6, [.int co, .int (nI n), .ref m_sea, .ref m_center, .ref m_home, .ref m_borders, .int 1, .int (mt + 1), .ref m_owner, .ref m_units, .ref m_kind, .ref m_toX, .ref m_toY, .ref m_results, .ref m_known, .ref m_reached, .ref m_way, .ref m_aside, .ref m_origin, .ref m_retreats, .ref m_contested, .ref m_moved, .int msh, .ref m_past])), (m_center, .inl (cZ, 12, .inl (fun j => bI (Ce j)))), (m_home, .inl (cI, 12, .inl fh)), (m_owner, .inl (cI, 12, .inl fw)), (m_units, .inl (cI, 12, .inl (mxI (fun j => if (erM fa fr (mxI (fun _ => (-1)) fm n) n n) j < 0 then fu j else (erM fa fr (mxI (fun _ => (-1)) fm n) n n) j) fu n))), (m_kind, .inl (cI, 12, .inl (fun _ => 0))), (m_toX, .inl (cI, 12, .inl (fun _ => 0))), (m_toY, .inl (cI, 12, .inl (fun _ => 0)))]) hP hD [0, 1, 2, 3, 4, 5, 6, 7] [8, 9, 10] rfl rfl (by decide) (by decide) hk1 hFc hP1 hD1
              generalize H1 = H at hP hS ⊢
              have hP : va_P D vwCl [(m_aside, .inl (cI, 12, .inl (mxI (fun _ => (-1)) fa n))), (m_retreats, .inl (cI, 12, .inl fr)), (m_moved, .inl (cI, 12, .inl (erM fa fr (mxI (fun _ => (-1)) fm n) n n))), (g0, .inr (6, [.int co, .int (nI n), .ref m_sea, .ref m_center, .ref m_home, .ref m_borders, .int 1, .int (mt + 1), .ref m_owner, .ref m_units, .ref m_kind, .ref m_toX, .ref m_toY, .ref m_results, .ref m_known, .ref m_reached, .ref m_way, .ref m_aside, .ref m_origin, .ref m_retreats, .ref m_contested, .ref m_moved, .int msh, .ref m_past])), (m_center, .inl (cZ, 12, .inl (fun j => bI (Ce j)))), (m_home, .inl (cI, 12, .inl fh)), (m_owner, .inl (cI, 12, .inl fw)), (m_units, .inl (cI, 12, .inl (mxI (fun j => if (erM fa fr (mxI (fun _ => (-1)) fm n) n n) j < 0 then fu j else (erM fa fr (mxI (fun _ => (-1)) fm n) n n) j) fu n))), (m_kind, .inl (cI, 12, .inl (fun _ => 0))), (m_toX, .inl (cI, 12, .inl (fun _ => 0))), (m_toY, .inl (cI, 12, .inl (fun _ => 0)))] H := hP
              have hD : va_D A [(m_aside, .inl (cI, 12, .inl (mxI (fun _ => (-1)) fa n))), (m_retreats, .inl (cI, 12, .inl fr)), (m_moved, .inl (cI, 12, .inl (erM fa fr (mxI (fun _ => (-1)) fm n) n n))), (g0, .inr (6, [.int co, .int (nI n), .ref m_sea, .ref m_center, .ref m_home, .ref m_borders, .int 1, .int (mt + 1), .ref m_owner, .ref m_units, .ref m_kind, .ref m_toX, .ref m_toY, .ref m_results, .ref m_known, .ref m_reached, .ref m_way, .ref m_aside, .ref m_origin, .ref m_retreats, .ref m_contested, .ref m_moved, .int msh, .ref m_past])), (m_center, .inl (cZ, 12, .inl (fun j => bI (Ce j)))), (m_home, .inl (cI, 12, .inl fh)), (m_owner, .inl (cI, 12, .inl fw)), (m_units, .inl (cI, 12, .inl (mxI (fun j => if (erM fa fr (mxI (fun _ => (-1)) fm n) n n) j < 0 then fu j else (erM fa fr (mxI (fun _ => (-1)) fm n) n n) j) fu n))), (m_kind, .inl (cI, 12, .inl (fun _ => 0))), (m_toX, .inl (cI, 12, .inl (fun _ => 0))), (m_toY, .inl (cI, 12, .inl (fun _ => 0)))] := hD
              have hP9 := hP.sub (ws' := [(g0, .inr (6, [.int co, .int (nI n), .ref m_sea, .ref m_center, .ref m_home, .ref m_borders, .int 1, .int (mt + 1), .ref m_owner, .ref m_units, .ref m_kind, .ref m_toX, .ref m_toY, .ref m_results, .ref m_known, .ref m_reached, .ref m_way, .ref m_aside, .ref m_origin, .ref m_retreats, .ref m_contested, .ref m_moved, .int msh, .ref m_past])), (m_center, .inl (cZ, 12, .inl (fun j => bI (Ce j)))), (m_home, .inl (cI, 12, .inl fh)), (m_owner, .inl (cI, 12, .inl fw)), (m_units, .inl (cI, 12, .inl (mxI (fun j => if (erM fa fr (mxI (fun _ => (-1)) fm n) n n) j < 0 then fu j else (erM fa fr (mxI (fun _ => (-1)) fm n) n n) j) fu n))), (m_kind, .inl (cI, 12, .inl (fun _ => 0))), (m_toX, .inl (cI, 12, .inl (fun _ => 0))), (m_toY, .inl (cI, 12, .inl (fun _ => 0))), (m_aside, .inl (cI, 12, .inl (mxI (fun _ => (-1)) fa n))), (m_retreats, .inl (cI, 12, .inl fr)), (m_moved, .inl (cI, 12, .inl (erM fa fr (mxI (fun _ => (-1)) fm n) n n)))]) [3, 4, 5, 6, 7, 8, 9, 10, 0, 1, 2] rfl
              have hD9 := hD.sub (ws' := [(g0, .inr (6, [.int co, .int (nI n), .ref m_sea, .ref m_center, .ref m_home, .ref m_borders, .int 1, .int (mt + 1), .ref m_owner, .ref m_units, .ref m_kind, .ref m_toX, .ref m_toY, .ref m_results, .ref m_known, .ref m_reached, .ref m_way, .ref m_aside, .ref m_origin, .ref m_retreats, .ref m_contested, .ref m_moved, .int msh, .ref m_past])), (m_center, .inl (cZ, 12, .inl (fun j => bI (Ce j)))), (m_home, .inl (cI, 12, .inl fh)), (m_owner, .inl (cI, 12, .inl fw)), (m_units, .inl (cI, 12, .inl (mxI (fun j => if (erM fa fr (mxI (fun _ => (-1)) fm n) n n) j < 0 then fu j else (erM fa fr (mxI (fun _ => (-1)) fm n) n n) j) fu n))), (m_kind, .inl (cI, 12, .inl (fun _ => 0))), (m_toX, .inl (cI, 12, .inl (fun _ => 0))), (m_toY, .inl (cI, 12, .inl (fun _ => 0))), (m_aside, .inl (cI, 12, .inl (mxI (fun _ => (-1)) fa n))), (m_retreats, .inl (cI, 12, .inl fr)), (m_moved, .inl (cI, 12, .inl (erM fa fr (mxI (fun _ => (-1)) fm n) n n)))]) [3, 4, 5, 6, 7, 8, 9, 10, 0, 1, 2] (by decide) rfl
              exact W.vret hx hb hr (fun t ht hW => ⟨⟨(), rfl, trivial, by rw [ht]; exact hP9, hD9⟩, hS.F ht⟩) hS.2.2 d_Mo_endRetreats_196
            | succ k ih =>
              intro i ls H locs hi hl hP hD hS
              have hlt : i < n := by omega
              have hlt12 : i < 12 := by omega
              refine lv_iload_n hx hb d_Mo_endRetreats_141 rfl (lv_at hl 0 rfl) ?_
              refine lv_aload_n hx hb d_Mo_endRetreats_142 rfl (lv_at hl 1 rfl) ?_
              refine va_get (D := D) (ci := 6) (v := .int (nI n)) (C := R_Mo) (T := T_Mo) (N := 24) hx hb hts hin_Mo hown hK hP 0 rfl rfl 1 (by decide) (hts _ wd_705) (fun _ h9 => h9) rfl d_Mo_endRetreats_143 ?_
              refine lv_icmp_ge (tgt := 192) hx hb d_Mo_endRetreats_146 (by decide) (fun h0 => absurd h0 (nI_ge hlt (by omega))) (fun _ => ?_)
              refine lv_aload_n hx hb d_Mo_endRetreats_149 rfl (lv_at hl 1 rfl) ?_
              refine va_get (D := D) (ci := 6) (v := .ref m_units) (C := R_Mo) (T := T_Mo) (N := 24) hx hb hts hin_Mo hown hK hP 0 rfl rfl 9 (by decide) (hts _ wd_713) (fun _ h9 => h9) rfl d_Mo_endRetreats_150 ?_
              refine lv_iload_n hx hb d_Mo_endRetreats_153 rfl (lv_at hl 0 rfl) ?_
              refine lv_aload_n hx hb d_Mo_endRetreats_154 rfl (lv_at hl 1 rfl) ?_
              refine va_get (D := D) (ci := 6) (v := .ref m_moved) (C := R_Mo) (T := T_Mo) (N := 24) hx hb hts hin_Mo hown hK hP 0 rfl rfl 21 (by decide) (hts _ wd_725) (fun _ h9 => h9) rfl d_Mo_endRetreats_155 ?_
              refine lv_iload_n hx hb d_Mo_endRetreats_158 rfl (lv_at hl 0 rfl) ?_
              refine tr_iald (v := (erM fa fr (mxI (fun _ => (-1)) fm n) n n) i) hx hb hK hP 10 0 rfl rfl i hlt12 (by decide) rfl d_Mo_endRetreats_159 ?_
              refine lv_if_lt (tgt := 172) hx hb d_Mo_endRetreats_160 (by decide) (fun hc5 => ?_) (fun hc5 => ?_)
              · -- 160 taken
                refine lv_aload_n hx hb d_Mo_endRetreats_172 rfl (lv_at hl 1 rfl) ?_
                refine va_get (D := D) (ci := 6) (v := .ref m_units) (C := R_Mo) (T := T_Mo) (N := 24) hx hb hts hin_Mo hown hK hP 0 rfl rfl 9 (by decide) (hts _ wd_713) (fun _ h9 => h9) rfl d_Mo_endRetreats_173 ?_
                refine lv_iload_n hx hb d_Mo_endRetreats_176 rfl (lv_at hl 0 rfl) ?_
                refine tr_iald (v := (mxI (fun j => if (erM fa fr (mxI (fun _ => (-1)) fm n) n n) j < 0 then fu j else (erM fa fr (mxI (fun _ => (-1)) fm n) n n) j) fu i) i) hx hb hK hP 4 0 rfl rfl i hlt12 (by decide) rfl d_Mo_endRetreats_177 ?_
                refine tr_iast (g := upd (mxI (fun j => if (erM fa fr (mxI (fun _ => (-1)) fm n) n n) j < 0 then fu j else (erM fa fr (mxI (fun _ => (-1)) fm n) n n) j) fu i) i ((mxI (fun j => if (erM fa fr (mxI (fun _ => (-1)) fm n) n n) j < 0 then fu j else (erM fa fr (mxI (fun _ => (-1)) fm n) n n) j) fu i) i)) hx hb hK hP hD hS 4 0 rfl rfl i hlt12 (by decide) rfl d_Mo_endRetreats_178 (fun H locs hP hD hS => ?_)
                have hP : va_P D vwCl [(g0, .inr (6, [.int co, .int (nI n), .ref m_sea, .ref m_center, .ref m_home, .ref m_borders, .int mp, .int mt, .ref m_owner, .ref m_units, .ref m_kind, .ref m_toX, .ref m_toY, .ref m_results, .ref m_known, .ref m_reached, .ref m_way, .ref m_aside, .ref m_origin, .ref m_retreats, .ref m_contested, .ref m_moved, .int msh, .ref m_past])), (m_center, .inl (cZ, 12, .inl (fun j => bI (Ce j)))), (m_home, .inl (cI, 12, .inl fh)), (m_owner, .inl (cI, 12, .inl fw)), (m_units, .inl (cI, 12, .inl (upd (mxI (fun j => if (erM fa fr (mxI (fun _ => (-1)) fm n) n n) j < 0 then fu j else (erM fa fr (mxI (fun _ => (-1)) fm n) n n) j) fu i) i ((mxI (fun j => if (erM fa fr (mxI (fun _ => (-1)) fm n) n n) j < 0 then fu j else (erM fa fr (mxI (fun _ => (-1)) fm n) n n) j) fu i) i)))), (m_kind, .inl (cI, 12, .inl (fun j => nI (Kd j)))), (m_toX, .inl (cI, 12, .inl (fun j => nI (X j)))), (m_toY, .inl (cI, 12, .inl (fun j => nI (Y j)))), (m_aside, .inl (cI, 12, .inl (mxI (fun _ => (-1)) fa i))), (m_retreats, .inl (cI, 12, .inl fr)), (m_moved, .inl (cI, 12, .inl (erM fa fr (mxI (fun _ => (-1)) fm n) n n)))] H := hP
                have hD : va_D A [(g0, .inr (6, [.int co, .int (nI n), .ref m_sea, .ref m_center, .ref m_home, .ref m_borders, .int mp, .int mt, .ref m_owner, .ref m_units, .ref m_kind, .ref m_toX, .ref m_toY, .ref m_results, .ref m_known, .ref m_reached, .ref m_way, .ref m_aside, .ref m_origin, .ref m_retreats, .ref m_contested, .ref m_moved, .int msh, .ref m_past])), (m_center, .inl (cZ, 12, .inl (fun j => bI (Ce j)))), (m_home, .inl (cI, 12, .inl fh)), (m_owner, .inl (cI, 12, .inl fw)), (m_units, .inl (cI, 12, .inl (upd (mxI (fun j => if (erM fa fr (mxI (fun _ => (-1)) fm n) n n) j < 0 then fu j else (erM fa fr (mxI (fun _ => (-1)) fm n) n n) j) fu i) i ((mxI (fun j => if (erM fa fr (mxI (fun _ => (-1)) fm n) n n) j < 0 then fu j else (erM fa fr (mxI (fun _ => (-1)) fm n) n n) j) fu i) i)))), (m_kind, .inl (cI, 12, .inl (fun j => nI (Kd j)))), (m_toX, .inl (cI, 12, .inl (fun j => nI (X j)))), (m_toY, .inl (cI, 12, .inl (fun j => nI (Y j)))), (m_aside, .inl (cI, 12, .inl (mxI (fun _ => (-1)) fa i))), (m_retreats, .inl (cI, 12, .inl fr)), (m_moved, .inl (cI, 12, .inl (erM fa fr (mxI (fun _ => (-1)) fm n) n n)))] := hD
                refine lv_aload_n hx hb d_Mo_endRetreats_179 rfl (lv_at hl 1 rfl) ?_
                refine va_get (D := D) (ci := 6) (v := .ref m_aside) (C := R_Mo) (T := T_Mo) (N := 24) hx hb hts hin_Mo hown hK hP 0 rfl rfl 17 (by decide) (hts _ wd_721) (fun _ h9 => h9) rfl d_Mo_endRetreats_180 ?_
                refine lv_iload_n hx hb d_Mo_endRetreats_183 rfl (lv_at hl 0 rfl) ?_
                refine lv_iconst (v := (-1)) hx hb d_Mo_endRetreats_184 (by decide) ?_
                refine tr_iast (g := upd (mxI (fun _ => (-1)) fa i) i (-1)) hx hb hK hP hD hS 8 0 rfl rfl i hlt12 (by decide) rfl d_Mo_endRetreats_185 (fun H locs hP hD hS => ?_)
                have hP : va_P D vwCl [(g0, .inr (6, [.int co, .int (nI n), .ref m_sea, .ref m_center, .ref m_home, .ref m_borders, .int mp, .int mt, .ref m_owner, .ref m_units, .ref m_kind, .ref m_toX, .ref m_toY, .ref m_results, .ref m_known, .ref m_reached, .ref m_way, .ref m_aside, .ref m_origin, .ref m_retreats, .ref m_contested, .ref m_moved, .int msh, .ref m_past])), (m_center, .inl (cZ, 12, .inl (fun j => bI (Ce j)))), (m_home, .inl (cI, 12, .inl fh)), (m_owner, .inl (cI, 12, .inl fw)), (m_units, .inl (cI, 12, .inl (upd (mxI (fun j => if (erM fa fr (mxI (fun _ => (-1)) fm n) n n) j < 0 then fu j else (erM fa fr (mxI (fun _ => (-1)) fm n) n n) j) fu i) i ((mxI (fun j => if (erM fa fr (mxI (fun _ => (-1)) fm n) n n) j < 0 then fu j else (erM fa fr (mxI (fun _ => (-1)) fm n) n n) j) fu i) i)))), (m_kind, .inl (cI, 12, .inl (fun j => nI (Kd j)))), (m_toX, .inl (cI, 12, .inl (fun j => nI (X j)))), (m_toY, .inl (cI, 12, .inl (fun j => nI (Y j)))), (m_aside, .inl (cI, 12, .inl (upd (mxI (fun _ => (-1)) fa i) i (-1)))), (m_retreats, .inl (cI, 12, .inl fr)), (m_moved, .inl (cI, 12, .inl (erM fa fr (mxI (fun _ => (-1)) fm n) n n)))] H := hP
                have hD : va_D A [(g0, .inr (6, [.int co, .int (nI n), .ref m_sea, .ref m_center, .ref m_home, .ref m_borders, .int mp, .int mt, .ref m_owner, .ref m_units, .ref m_kind, .ref m_toX, .ref m_toY, .ref m_results, .ref m_known, .ref m_reached, .ref m_way, .ref m_aside, .ref m_origin, .ref m_retreats, .ref m_contested, .ref m_moved, .int msh, .ref m_past])), (m_center, .inl (cZ, 12, .inl (fun j => bI (Ce j)))), (m_home, .inl (cI, 12, .inl fh)), (m_owner, .inl (cI, 12, .inl fw)), (m_units, .inl (cI, 12, .inl (upd (mxI (fun j => if (erM fa fr (mxI (fun _ => (-1)) fm n) n n) j < 0 then fu j else (erM fa fr (mxI (fun _ => (-1)) fm n) n n) j) fu i) i ((mxI (fun j => if (erM fa fr (mxI (fun _ => (-1)) fm n) n n) j < 0 then fu j else (erM fa fr (mxI (fun _ => (-1)) fm n) n n) j) fu i) i)))), (m_kind, .inl (cI, 12, .inl (fun j => nI (Kd j)))), (m_toX, .inl (cI, 12, .inl (fun j => nI (X j)))), (m_toY, .inl (cI, 12, .inl (fun j => nI (Y j)))), (m_aside, .inl (cI, 12, .inl (upd (mxI (fun _ => (-1)) fa i) i (-1)))), (m_retreats, .inl (cI, 12, .inl fr)), (m_moved, .inl (cI, 12, .inl (erM fa fr (mxI (fun _ => (-1)) fm n) n n)))] := hD
                refine lv_iinc (lv' := [(1, .int ((nI i) + 1)), (0, .ref g0)]) hx hb d_Mo_endRetreats_186 hl (k := 0) rfl rfl (by decide) rfl (fun ls hl => ?_)
                refine lv_goto (tgt := 141) hx hb d_Mo_endRetreats_189 (by decide) ?_
                have e6 : (nI i) + 1 = nI (i + 1) := nI_1 i
                have eo7 : (upd (mxI (fun j => if (erM fa fr (mxI (fun _ => (-1)) fm n) n n) j < 0 then fu j else (erM fa fr (mxI (fun _ => (-1)) fm n) n n) j) fu i) i ((mxI (fun j => if (erM fa fr (mxI (fun _ => (-1)) fm n) n n) j < 0 then fu j else (erM fa fr (mxI (fun _ => (-1)) fm n) n n) j) fu i) i)) = (mxI (fun j => if (erM fa fr (mxI (fun _ => (-1)) fm n) n n) j < 0 then fu j else (erM fa fr (mxI (fun _ => (-1)) fm n) n n) j) fu (i + 1)) := mxI_s (by simp [mxI_at, hc5])
                have eo8 : (upd (mxI (fun _ => (-1)) fa i) i (-1)) = (mxI (fun _ => (-1)) fa (i + 1)) := mxI_s rfl
                exact ih (i + 1) ls H locs (by omega) (by rw [← e6]; exact lv_sub hl [0, 1] rfl) (by rw [← eo7, ← eo8]; exact hP) (by rw [← eo7, ← eo8]; exact hD) hS
              · -- 160 not taken
                refine lv_aload_n hx hb d_Mo_endRetreats_163 rfl (lv_at hl 1 rfl) ?_
                refine va_get (D := D) (ci := 6) (v := .ref m_moved) (C := R_Mo) (T := T_Mo) (N := 24) hx hb hts hin_Mo hown hK hP 0 rfl rfl 21 (by decide) (hts _ wd_725) (fun _ h9 => h9) rfl d_Mo_endRetreats_164 ?_
                refine lv_iload_n hx hb d_Mo_endRetreats_167 rfl (lv_at hl 0 rfl) ?_
                refine tr_iald (v := (erM fa fr (mxI (fun _ => (-1)) fm n) n n) i) hx hb hK hP 10 0 rfl rfl i hlt12 (by decide) rfl d_Mo_endRetreats_168 ?_
                refine lv_goto (tgt := 178) hx hb d_Mo_endRetreats_169 (by decide) ?_
                refine tr_iast (g := upd (mxI (fun j => if (erM fa fr (mxI (fun _ => (-1)) fm n) n n) j < 0 then fu j else (erM fa fr (mxI (fun _ => (-1)) fm n) n n) j) fu i) i ((erM fa fr (mxI (fun _ => (-1)) fm n) n n) i)) hx hb hK hP hD hS 4 0 rfl rfl i hlt12 (by decide) rfl d_Mo_endRetreats_178 (fun H locs hP hD hS => ?_)
                have hP : va_P D vwCl [(g0, .inr (6, [.int co, .int (nI n), .ref m_sea, .ref m_center, .ref m_home, .ref m_borders, .int mp, .int mt, .ref m_owner, .ref m_units, .ref m_kind, .ref m_toX, .ref m_toY, .ref m_results, .ref m_known, .ref m_reached, .ref m_way, .ref m_aside, .ref m_origin, .ref m_retreats, .ref m_contested, .ref m_moved, .int msh, .ref m_past])), (m_center, .inl (cZ, 12, .inl (fun j => bI (Ce j)))), (m_home, .inl (cI, 12, .inl fh)), (m_owner, .inl (cI, 12, .inl fw)), (m_units, .inl (cI, 12, .inl (upd (mxI (fun j => if (erM fa fr (mxI (fun _ => (-1)) fm n) n n) j < 0 then fu j else (erM fa fr (mxI (fun _ => (-1)) fm n) n n) j) fu i) i ((erM fa fr (mxI (fun _ => (-1)) fm n) n n) i)))), (m_kind, .inl (cI, 12, .inl (fun j => nI (Kd j)))), (m_toX, .inl (cI, 12, .inl (fun j => nI (X j)))), (m_toY, .inl (cI, 12, .inl (fun j => nI (Y j)))), (m_aside, .inl (cI, 12, .inl (mxI (fun _ => (-1)) fa i))), (m_retreats, .inl (cI, 12, .inl fr)), (m_moved, .inl (cI, 12, .inl (erM fa fr (mxI (fun _ => (-1)) fm n) n n)))] H := hP
                have hD : va_D A [(g0, .inr (6, [.int co, .int (nI n), .ref m_sea, .ref m_center, .ref m_home, .ref m_borders, .int mp, .int mt, .ref m_owner, .ref m_units, .ref m_kind, .ref m_toX, .ref m_toY, .ref m_results, .ref m_known, .ref m_reached, .ref m_way, .ref m_aside, .ref m_origin, .ref m_retreats, .ref m_contested, .ref m_moved, .int msh, .ref m_past])), (m_center, .inl (cZ, 12, .inl (fun j => bI (Ce j)))), (m_home, .inl (cI, 12, .inl fh)), (m_owner, .inl (cI, 12, .inl fw)), (m_units, .inl (cI, 12, .inl (upd (mxI (fun j => if (erM fa fr (mxI (fun _ => (-1)) fm n) n n) j < 0 then fu j else (erM fa fr (mxI (fun _ => (-1)) fm n) n n) j) fu i) i ((erM fa fr (mxI (fun _ => (-1)) fm n) n n) i)))), (m_kind, .inl (cI, 12, .inl (fun j => nI (Kd j)))), (m_toX, .inl (cI, 12, .inl (fun j => nI (X j)))), (m_toY, .inl (cI, 12, .inl (fun j => nI (Y j)))), (m_aside, .inl (cI, 12, .inl (mxI (fun _ => (-1)) fa i))), (m_retreats, .inl (cI, 12, .inl fr)), (m_moved, .inl (cI, 12, .inl (erM fa fr (mxI (fun _ => (-1)) fm n) n n)))] := hD
                refine lv_aload_n hx hb d_Mo_endRetreats_179 rfl (lv_at hl 1 rfl) ?_
                refine va_get (D := D) (ci := 6) (v := .ref m_aside) (C := R_Mo) (T := T_Mo) (N := 24) hx hb hts hin_Mo hown hK hP 0 rfl rfl 17 (by decide) (hts _ wd_721) (fun _ h9 => h9) rfl d_Mo_endRetreats_180 ?_
                refine lv_iload_n hx hb d_Mo_endRetreats_183 rfl (lv_at hl 0 rfl) ?_
                refine lv_iconst (v := (-1)) hx hb d_Mo_endRetreats_184 (by decide) ?_
                refine tr_iast (g := upd (mxI (fun _ => (-1)) fa i) i (-1)) hx hb hK hP hD hS 8 0 rfl rfl i hlt12 (by decide) rfl d_Mo_endRetreats_185 (fun H locs hP hD hS => ?_)
                have hP : va_P D vwCl [(g0, .inr (6, [.int co, .int (nI n), .ref m_sea, .ref m_center, .ref m_home, .ref m_borders, .int mp, .int mt, .ref m_owner, .ref m_units, .ref m_kind, .ref m_toX, .ref m_toY, .ref m_results, .ref m_known, .ref m_reached, .ref m_way, .ref m_aside, .ref m_origin, .ref m_retreats, .ref m_contested, .ref m_moved, .int msh, .ref m_past])), (m_center, .inl (cZ, 12, .inl (fun j => bI (Ce j)))), (m_home, .inl (cI, 12, .inl fh)), (m_owner, .inl (cI, 12, .inl fw)), (m_units, .inl (cI, 12, .inl (upd (mxI (fun j => if (erM fa fr (mxI (fun _ => (-1)) fm n) n n) j < 0 then fu j else (erM fa fr (mxI (fun _ => (-1)) fm n) n n) j) fu i) i ((erM fa fr (mxI (fun _ => (-1)) fm n) n n) i)))), (m_kind, .inl (cI, 12, .inl (fun j => nI (Kd j)))), (m_toX, .inl (cI, 12, .inl (fun j => nI (X j)))), (m_toY, .inl (cI, 12, .inl (fun j => nI (Y j)))), (m_aside, .inl (cI, 12, .inl (upd (mxI (fun _ => (-1)) fa i) i (-1)))), (m_retreats, .inl (cI, 12, .inl fr)), (m_moved, .inl (cI, 12, .inl (erM fa fr (mxI (fun _ => (-1)) fm n) n n)))] H := hP
                have hD : va_D A [(g0, .inr (6, [.int co, .int (nI n), .ref m_sea, .ref m_center, .ref m_home, .ref m_borders, .int mp, .int mt, .ref m_owner, .ref m_units, .ref m_kind, .ref m_toX, .ref m_toY, .ref m_results, .ref m_known, .ref m_reached, .ref m_way, .ref m_aside, .ref m_origin, .ref m_retreats, .ref m_contested, .ref m_moved, .int msh, .ref m_past])), (m_center, .inl (cZ, 12, .inl (fun j => bI (Ce j)))), (m_home, .inl (cI, 12, .inl fh)), (m_owner, .inl (cI, 12, .inl fw)), (m_units, .inl (cI, 12, .inl (upd (mxI (fun j => if (erM fa fr (mxI (fun _ => (-1)) fm n) n n) j < 0 then fu j else (erM fa fr (mxI (fun _ => (-1)) fm n) n n) j) fu i) i ((erM fa fr (mxI (fun _ => (-1)) fm n) n n) i)))), (m_kind, .inl (cI, 12, .inl (fun j => nI (Kd j)))), (m_toX, .inl (cI, 12, .inl (fun j => nI (X j)))), (m_toY, .inl (cI, 12, .inl (fun j => nI (Y j)))), (m_aside, .inl (cI, 12, .inl (upd (mxI (fun _ => (-1)) fa i) i (-1)))), (m_retreats, .inl (cI, 12, .inl fr)), (m_moved, .inl (cI, 12, .inl (erM fa fr (mxI (fun _ => (-1)) fm n) n n)))] := hD
                refine lv_iinc (lv' := [(1, .int ((nI i) + 1)), (0, .ref g0)]) hx hb d_Mo_endRetreats_186 hl (k := 0) rfl rfl (by decide) rfl (fun ls hl => ?_)
                refine lv_goto (tgt := 141) hx hb d_Mo_endRetreats_189 (by decide) ?_
                have e9 : (nI i) + 1 = nI (i + 1) := nI_1 i
                have eo10 : (upd (mxI (fun j => if (erM fa fr (mxI (fun _ => (-1)) fm n) n n) j < 0 then fu j else (erM fa fr (mxI (fun _ => (-1)) fm n) n n) j) fu i) i ((erM fa fr (mxI (fun _ => (-1)) fm n) n n) i)) = (mxI (fun j => if (erM fa fr (mxI (fun _ => (-1)) fm n) n n) j < 0 then fu j else (erM fa fr (mxI (fun _ => (-1)) fm n) n n) j) fu (i + 1)) := mxI_s (by simp [mxI_at, hc5])
                have eo11 : (upd (mxI (fun _ => (-1)) fa i) i (-1)) = (mxI (fun _ => (-1)) fa (i + 1)) := mxI_s rfl
                exact ih (i + 1) ls H locs (by omega) (by rw [← e9]; exact lv_sub hl [0, 1] rfl) (by rw [← eo10, ← eo11]; exact hP) (by rw [← eo10, ← eo11]; exact hD) hS
          have ei12 : (mxI (fun j => if (erM fa fr (mxI (fun _ => (-1)) fm n) n n) j < 0 then fu j else (erM fa fr (mxI (fun _ => (-1)) fm n) n n) j) fu 0) = (fu) := mxI_0 _ _
          have ei13 : (mxI (fun _ => (-1)) fa 0) = (fa) := mxI_0 _ _
          exact loop3 n 0 ls _ _ (Nat.zero_add _) hl (by rw [ei12, ei13]; exact hP) (by rw [ei12, ei13]; exact hD) hS
        | succ k ih =>
          intro i ls H locs hi hl hP hD hS
          have hlt : i < n := by omega
          have hlt12 : i < 12 := by omega
          refine lv_iload_n hx hb d_Mo_endRetreats_25 rfl (lv_at hl 0 rfl) ?_
          refine lv_aload_n hx hb d_Mo_endRetreats_26 rfl (lv_at hl 1 rfl) ?_
          refine va_get (D := D) (ci := 6) (v := .int (nI n)) (C := R_Mo) (T := T_Mo) (N := 24) hx hb hts hin_Mo hown hK hP 0 rfl rfl 1 (by decide) (hts _ wd_705) (fun _ h9 => h9) rfl d_Mo_endRetreats_27 ?_
          refine lv_icmp_ge (tgt := 139) hx hb d_Mo_endRetreats_30 (by decide) (fun h0 => absurd h0 (nI_ge hlt (by omega))) (fun _ => ?_)
          refine lv_aload_n hx hb d_Mo_endRetreats_33 rfl (lv_at hl 1 rfl) ?_
          refine va_get (D := D) (ci := 6) (v := .ref m_aside) (C := R_Mo) (T := T_Mo) (N := 24) hx hb hts hin_Mo hown hK hP 0 rfl rfl 17 (by decide) (hts _ wd_721) (fun _ h9 => h9) rfl d_Mo_endRetreats_34 ?_
          refine lv_iload_n hx hb d_Mo_endRetreats_37 rfl (lv_at hl 0 rfl) ?_
          refine tr_iald (v := fa i) hx hb hK hP 8 0 rfl rfl i hlt12 (by decide) rfl d_Mo_endRetreats_38 ?_
          refine lv_if_lt (tgt := 55) hx hb d_Mo_endRetreats_39 (by decide) (fun hc15 => ?_) (fun hc15 => ?_)
          · -- 39 taken
            refine lv_iconst (v := 0) hx hb d_Mo_endRetreats_55 (by decide) ?_
            refine lv_istore_n (lv' := [(2, .int 0), (1, .int (nI i)), (0, .ref g0)]) hx hb d_Mo_endRetreats_56 rfl hl (by decide) rfl (fun ls hl => ?_)
            refine lv_iconst (v := 0) hx hb d_Mo_endRetreats_57 (by decide) ?_
            refine lv_istore_n (lv' := [(3, .int 0), (2, .int 0), (1, .int (nI i)), (0, .ref g0)]) hx hb d_Mo_endRetreats_58 rfl hl (by decide) rfl (fun ls hl => ?_)
            have nloop : ∀ (k9 i9 : Nat) (ls : Array Slot), i9 + k9 = n → lv_has ls 4 [(3, .int (nI i9)), (2, .int 0), (1, .int (nI i)), (0, .ref g0)] → W p l e (headSpec w_Mo_endRetreats ({ frames := 2, cells := 0, slots := 0, locals := 48 })).room s m ([.ref g0]).toArray below meth c H locs 0 0 (MQ below (va_Qv (fun _ : Unit => True) (fun _ t => tB D A [(g0, .inr (6, [.int co, .int (nI n), .ref m_sea, .ref m_center, .ref m_home, .ref m_borders, .int 1, .int (mt + 1), .ref m_owner, .ref m_units, .ref m_kind, .ref m_toX, .ref m_toY, .ref m_results, .ref m_known, .ref m_reached, .ref m_way, .ref m_aside, .ref m_origin, .ref m_retreats, .ref m_contested, .ref m_moved, .int msh, .ref m_past])), (m_center, .inl (cZ, 12, .inl (fun j => bI (Ce j)))), (m_home, .inl (cI, 12, .inl fh)), (m_owner, .inl (cI, 12, .inl fw)), (m_units, .inl (cI, 12, .inl (mxI (fun j => if (erM fa fr (mxI (fun _ => (-1)) fm n) n n) j < 0 then fu j else (erM fa fr (mxI (fun _ => (-1)) fm n) n n) j) fu n))), (m_kind, .inl (cI, 12, .inl (fun _ => 0))), (m_toX, .inl (cI, 12, .inl (fun _ => 0))), (m_toY, .inl (cI, 12, .inl (fun _ => 0))), (m_aside, .inl (cI, 12, .inl (mxI (fun _ => (-1)) fa n))), (m_retreats, .inl (cI, 12, .inl fr)), (m_moved, .inl (cI, 12, .inl (erM fa fr (mxI (fun _ => (-1)) fm n) n n)))] t) A) ([.ref g0]).toArray s 0 0 A) (F0 m 59 ls []) := by
              intro k9
              induction k9 with
              | zero =>
                intro i9 ls hi9 hl
                have hie9 : i9 = n := by omega
                rw [hie9] at hl
                refine lv_iload_n hx hb d_Mo_endRetreats_59 rfl (lv_at hl 0 rfl) ?_
                refine lv_aload_n hx hb d_Mo_endRetreats_60 rfl (lv_at hl 3 rfl) ?_
                refine va_get (D := D) (ci := 6) (v := .int (nI n)) (C := R_Mo) (T := T_Mo) (N := 24) hx hb hts hin_Mo hown hK hP 0 rfl rfl 1 (by decide) (hts _ wd_705) (fun _ h9 => h9) rfl d_Mo_endRetreats_61 ?_
                refine lv_icmp_ge (tgt := 112) hx hb d_Mo_endRetreats_64 (by decide) (fun _ => ?_) (fun h0 => absurd (Int32.le_refl _) h0)
                refine lv_iload_n hx hb d_Mo_endRetreats_112 rfl (lv_at hl 1 rfl) ?_
                refine lv_if_eq (tgt := 133) hx hb d_Mo_endRetreats_113 (by decide) (fun _ => ?_) (fun h0 => absurd (by decide) h0)
                refine lv_iinc (lv' := [(1, .int ((nI i) + 1)), (3, .int (nI n)), (2, .int 0), (0, .ref g0)]) hx hb d_Mo_endRetreats_133 hl (k := 2) rfl rfl (by decide) rfl (fun ls hl => ?_)
                refine lv_goto (tgt := 25) hx hb d_Mo_endRetreats_136 (by decide) ?_
                have e18 : (nI i) + 1 = nI (i + 1) := nI_1 i
                have eo19 : (erM fa fr (mxI (fun _ => (-1)) fm n) n i) = (erM fa fr (mxI (fun _ => (-1)) fm n) n (i + 1)) := erM_n (by simp [alR, hc15])
                exact ih (i + 1) ls H locs (by omega) (by rw [← e18]; exact lv_sub hl [0, 3] rfl) (by rw [← eo19]; exact hP) (by rw [← eo19]; exact hD) hS
              | succ k9 ih9 =>
                intro i9 ls hi9 hl
                have hlt9 : i9 < n := by omega
                have hlt912 : i9 < 12 := by omega
                refine lv_iload_n hx hb d_Mo_endRetreats_59 rfl (lv_at hl 0 rfl) ?_
                refine lv_aload_n hx hb d_Mo_endRetreats_60 rfl (lv_at hl 3 rfl) ?_
                refine va_get (D := D) (ci := 6) (v := .int (nI n)) (C := R_Mo) (T := T_Mo) (N := 24) hx hb hts hin_Mo hown hK hP 0 rfl rfl 1 (by decide) (hts _ wd_705) (fun _ h9 => h9) rfl d_Mo_endRetreats_61 ?_
                refine lv_icmp_ge (tgt := 112) hx hb d_Mo_endRetreats_64 (by decide) (fun h0 => absurd h0 (nI_ge hlt9 (by omega))) (fun _ => ?_)
                refine lv_iload_n hx hb d_Mo_endRetreats_67 rfl (lv_at hl 1 rfl) ?_
                refine lv_if_eq (tgt := 104) hx hb d_Mo_endRetreats_68 (by decide) (fun _ => ?_) (fun h0 => absurd (by decide) h0)
                refine lv_iconst (v := 0) hx hb d_Mo_endRetreats_104 (by decide) ?_
                refine lv_istore_n (lv' := [(2, .int 0), (3, .int (nI i9)), (1, .int (nI i)), (0, .ref g0)]) hx hb d_Mo_endRetreats_105 rfl hl (by decide) rfl (fun ls hl => ?_)
                refine lv_iinc (lv' := [(3, .int ((nI i9) + 1)), (2, .int 0), (1, .int (nI i)), (0, .ref g0)]) hx hb d_Mo_endRetreats_106 hl (k := 1) rfl rfl (by decide) rfl (fun ls hl => ?_)
                refine lv_goto (tgt := 59) hx hb d_Mo_endRetreats_109 (by decide) ?_
                have e22 : (nI i9) + 1 = nI (i9 + 1) := nI_1 i9
                exact ih9 (i9 + 1) ls (by omega) (by rw [← e22]; exact lv_sub hl [0, 1, 2, 3] rfl)
            exact nloop n 0 ls (Nat.zero_add _) hl
          · -- 39 not taken
            refine lv_aload_n hx hb d_Mo_endRetreats_42 rfl (lv_at hl 1 rfl) ?_
            refine va_get (D := D) (ci := 6) (v := .ref m_retreats) (C := R_Mo) (T := T_Mo) (N := 24) hx hb hts hin_Mo hown hK hP 0 rfl rfl 19 (by decide) (hts _ wd_723) (fun _ h9 => h9) rfl d_Mo_endRetreats_43 ?_
            refine lv_iload_n hx hb d_Mo_endRetreats_46 rfl (lv_at hl 0 rfl) ?_
            refine tr_iald (v := fr i) hx hb hK hP 9 0 rfl rfl i hlt12 (by decide) rfl d_Mo_endRetreats_47 ?_
            refine lv_if_lt (tgt := 55) hx hb d_Mo_endRetreats_48 (by decide) (fun hc23 => ?_) (fun hc23 => ?_)
            · -- 48 taken
              refine lv_iconst (v := 0) hx hb d_Mo_endRetreats_55 (by decide) ?_
              refine lv_istore_n (lv' := [(2, .int 0), (1, .int (nI i)), (0, .ref g0)]) hx hb d_Mo_endRetreats_56 rfl hl (by decide) rfl (fun ls hl => ?_)
              refine lv_iconst (v := 0) hx hb d_Mo_endRetreats_57 (by decide) ?_
              refine lv_istore_n (lv' := [(3, .int 0), (2, .int 0), (1, .int (nI i)), (0, .ref g0)]) hx hb d_Mo_endRetreats_58 rfl hl (by decide) rfl (fun ls hl => ?_)
              have nloop : ∀ (k9 i9 : Nat) (ls : Array Slot), i9 + k9 = n → lv_has ls 4 [(3, .int (nI i9)), (2, .int 0), (1, .int (nI i)), (0, .ref g0)] → W p l e (headSpec w_Mo_endRetreats ({ frames := 2, cells := 0, slots := 0, locals := 48 })).room s m ([.ref g0]).toArray below meth c H locs 0 0 (MQ below (va_Qv (fun _ : Unit => True) (fun _ t => tB D A [(g0, .inr (6, [.int co, .int (nI n), .ref m_sea, .ref m_center, .ref m_home, .ref m_borders, .int 1, .int (mt + 1), .ref m_owner, .ref m_units, .ref m_kind, .ref m_toX, .ref m_toY, .ref m_results, .ref m_known, .ref m_reached, .ref m_way, .ref m_aside, .ref m_origin, .ref m_retreats, .ref m_contested, .ref m_moved, .int msh, .ref m_past])), (m_center, .inl (cZ, 12, .inl (fun j => bI (Ce j)))), (m_home, .inl (cI, 12, .inl fh)), (m_owner, .inl (cI, 12, .inl fw)), (m_units, .inl (cI, 12, .inl (mxI (fun j => if (erM fa fr (mxI (fun _ => (-1)) fm n) n n) j < 0 then fu j else (erM fa fr (mxI (fun _ => (-1)) fm n) n n) j) fu n))), (m_kind, .inl (cI, 12, .inl (fun _ => 0))), (m_toX, .inl (cI, 12, .inl (fun _ => 0))), (m_toY, .inl (cI, 12, .inl (fun _ => 0))), (m_aside, .inl (cI, 12, .inl (mxI (fun _ => (-1)) fa n))), (m_retreats, .inl (cI, 12, .inl fr)), (m_moved, .inl (cI, 12, .inl (erM fa fr (mxI (fun _ => (-1)) fm n) n n)))] t) A) ([.ref g0]).toArray s 0 0 A) (F0 m 59 ls []) := by
                intro k9
                induction k9 with
                | zero =>
                  intro i9 ls hi9 hl
                  have hie9 : i9 = n := by omega
                  rw [hie9] at hl
                  refine lv_iload_n hx hb d_Mo_endRetreats_59 rfl (lv_at hl 0 rfl) ?_
                  refine lv_aload_n hx hb d_Mo_endRetreats_60 rfl (lv_at hl 3 rfl) ?_
                  refine va_get (D := D) (ci := 6) (v := .int (nI n)) (C := R_Mo) (T := T_Mo) (N := 24) hx hb hts hin_Mo hown hK hP 0 rfl rfl 1 (by decide) (hts _ wd_705) (fun _ h9 => h9) rfl d_Mo_endRetreats_61 ?_
                  refine lv_icmp_ge (tgt := 112) hx hb d_Mo_endRetreats_64 (by decide) (fun _ => ?_) (fun h0 => absurd (Int32.le_refl _) h0)
                  refine lv_iload_n hx hb d_Mo_endRetreats_112 rfl (lv_at hl 1 rfl) ?_
                  refine lv_if_eq (tgt := 133) hx hb d_Mo_endRetreats_113 (by decide) (fun _ => ?_) (fun h0 => absurd (by decide) h0)
                  refine lv_iinc (lv' := [(1, .int ((nI i) + 1)), (3, .int (nI n)), (2, .int 0), (0, .ref g0)]) hx hb d_Mo_endRetreats_133 hl (k := 2) rfl rfl (by decide) rfl (fun ls hl => ?_)
                  refine lv_goto (tgt := 25) hx hb d_Mo_endRetreats_136 (by decide) ?_
                  have e26 : (nI i) + 1 = nI (i + 1) := nI_1 i
                  have eo27 : (erM fa fr (mxI (fun _ => (-1)) fm n) n i) = (erM fa fr (mxI (fun _ => (-1)) fm n) n (i + 1)) := erM_n (by simp [alR, hc15, hc23])
                  exact ih (i + 1) ls H locs (by omega) (by rw [← e26]; exact lv_sub hl [0, 3] rfl) (by rw [← eo27]; exact hP) (by rw [← eo27]; exact hD) hS
                | succ k9 ih9 =>
                  intro i9 ls hi9 hl
                  have hlt9 : i9 < n := by omega
                  have hlt912 : i9 < 12 := by omega
                  refine lv_iload_n hx hb d_Mo_endRetreats_59 rfl (lv_at hl 0 rfl) ?_
                  refine lv_aload_n hx hb d_Mo_endRetreats_60 rfl (lv_at hl 3 rfl) ?_
                  refine va_get (D := D) (ci := 6) (v := .int (nI n)) (C := R_Mo) (T := T_Mo) (N := 24) hx hb hts hin_Mo hown hK hP 0 rfl rfl 1 (by decide) (hts _ wd_705) (fun _ h9 => h9) rfl d_Mo_endRetreats_61 ?_
                  refine lv_icmp_ge (tgt := 112) hx hb d_Mo_endRetreats_64 (by decide) (fun h0 => absurd h0 (nI_ge hlt9 (by omega))) (fun _ => ?_)
                  refine lv_iload_n hx hb d_Mo_endRetreats_67 rfl (lv_at hl 1 rfl) ?_
                  refine lv_if_eq (tgt := 104) hx hb d_Mo_endRetreats_68 (by decide) (fun _ => ?_) (fun h0 => absurd (by decide) h0)
                  refine lv_iconst (v := 0) hx hb d_Mo_endRetreats_104 (by decide) ?_
                  refine lv_istore_n (lv' := [(2, .int 0), (3, .int (nI i9)), (1, .int (nI i)), (0, .ref g0)]) hx hb d_Mo_endRetreats_105 rfl hl (by decide) rfl (fun ls hl => ?_)
                  refine lv_iinc (lv' := [(3, .int ((nI i9) + 1)), (2, .int 0), (1, .int (nI i)), (0, .ref g0)]) hx hb d_Mo_endRetreats_106 hl (k := 1) rfl rfl (by decide) rfl (fun ls hl => ?_)
                  refine lv_goto (tgt := 59) hx hb d_Mo_endRetreats_109 (by decide) ?_
                  have e30 : (nI i9) + 1 = nI (i9 + 1) := nI_1 i9
                  exact ih9 (i9 + 1) ls (by omega) (by rw [← e30]; exact lv_sub hl [0, 1, 2, 3] rfl)
              exact nloop n 0 ls (Nat.zero_add _) hl
            · -- 48 not taken
              refine lv_iconst (v := 1) hx hb d_Mo_endRetreats_51 (by decide) ?_
              refine lv_goto (tgt := 56) hx hb d_Mo_endRetreats_52 (by decide) ?_
              refine lv_istore_n (lv' := [(2, .int 1), (1, .int (nI i)), (0, .ref g0)]) hx hb d_Mo_endRetreats_56 rfl hl (by decide) rfl (fun ls hl => ?_)
              refine lv_iconst (v := 0) hx hb d_Mo_endRetreats_57 (by decide) ?_
              refine lv_istore_n (lv' := [(3, .int 0), (2, .int 1), (1, .int (nI i)), (0, .ref g0)]) hx hb d_Mo_endRetreats_58 rfl hl (by decide) rfl (fun ls hl => ?_)
              have nloop : ∀ (k9 i9 : Nat) (ls : Array Slot), i9 + k9 = n → lv_has ls 4 [(3, .int (nI i9)), (2, .int (bI (!anyB (fun b => !decide (b = i) && !decide (fa b < 0) && decide (fr b = fr i)) i9))), (1, .int (nI i)), (0, .ref g0)] → W p l e (headSpec w_Mo_endRetreats ({ frames := 2, cells := 0, slots := 0, locals := 48 })).room s m ([.ref g0]).toArray below meth c H locs 0 0 (MQ below (va_Qv (fun _ : Unit => True) (fun _ t => tB D A [(g0, .inr (6, [.int co, .int (nI n), .ref m_sea, .ref m_center, .ref m_home, .ref m_borders, .int 1, .int (mt + 1), .ref m_owner, .ref m_units, .ref m_kind, .ref m_toX, .ref m_toY, .ref m_results, .ref m_known, .ref m_reached, .ref m_way, .ref m_aside, .ref m_origin, .ref m_retreats, .ref m_contested, .ref m_moved, .int msh, .ref m_past])), (m_center, .inl (cZ, 12, .inl (fun j => bI (Ce j)))), (m_home, .inl (cI, 12, .inl fh)), (m_owner, .inl (cI, 12, .inl fw)), (m_units, .inl (cI, 12, .inl (mxI (fun j => if (erM fa fr (mxI (fun _ => (-1)) fm n) n n) j < 0 then fu j else (erM fa fr (mxI (fun _ => (-1)) fm n) n n) j) fu n))), (m_kind, .inl (cI, 12, .inl (fun _ => 0))), (m_toX, .inl (cI, 12, .inl (fun _ => 0))), (m_toY, .inl (cI, 12, .inl (fun _ => 0))), (m_aside, .inl (cI, 12, .inl (mxI (fun _ => (-1)) fa n))), (m_retreats, .inl (cI, 12, .inl fr)), (m_moved, .inl (cI, 12, .inl (erM fa fr (mxI (fun _ => (-1)) fm n) n n)))] t) A) ([.ref g0]).toArray s 0 0 A) (F0 m 59 ls []) := by
                intro k9
                induction k9 with
                | zero =>
                  intro i9 ls hi9 hl
                  have hie9 : i9 = n := by omega
                  rw [hie9] at hl
                  refine lv_iload_n hx hb d_Mo_endRetreats_59 rfl (lv_at hl 0 rfl) ?_
                  refine lv_aload_n hx hb d_Mo_endRetreats_60 rfl (lv_at hl 3 rfl) ?_
                  refine va_get (D := D) (ci := 6) (v := .int (nI n)) (C := R_Mo) (T := T_Mo) (N := 24) hx hb hts hin_Mo hown hK hP 0 rfl rfl 1 (by decide) (hts _ wd_705) (fun _ h9 => h9) rfl d_Mo_endRetreats_61 ?_
                  refine lv_icmp_ge (tgt := 112) hx hb d_Mo_endRetreats_64 (by decide) (fun _ => ?_) (fun h0 => absurd (Int32.le_refl _) h0)
                  refine lv_iload_n hx hb d_Mo_endRetreats_112 rfl (lv_at hl 1 rfl) ?_
                  rcases bI_c (!anyB (fun b => !decide (b = i) && !decide (fa b < 0) && decide (fr b = fr i)) n) with ⟨hb33, e9⟩ | ⟨hb33, e9⟩
                  · refine tr_top e9 ?_
                    refine lv_if_eq (tgt := 133) hx hb d_Mo_endRetreats_113 (by decide) (fun h0 => absurd h0 (by decide)) (fun _ => ?_)
                    have hng : ¬ fr i < 0 := hc23
                    refine lv_aload_n hx hb d_Mo_endRetreats_116 rfl (lv_at hl 3 rfl) ?_
                    refine va_get (D := D) (ci := 6) (v := .ref m_moved) (C := R_Mo) (T := T_Mo) (N := 24) hx hb hts hin_Mo hown hK hP 0 rfl rfl 21 (by decide) (hts _ wd_725) (fun _ h9 => h9) rfl d_Mo_endRetreats_117 ?_
                    refine lv_aload_n hx hb d_Mo_endRetreats_120 rfl (lv_at hl 3 rfl) ?_
                    refine va_get (D := D) (ci := 6) (v := .ref m_retreats) (C := R_Mo) (T := T_Mo) (N := 24) hx hb hts hin_Mo hown hK hP 0 rfl rfl 19 (by decide) (hts _ wd_723) (fun _ h9 => h9) rfl d_Mo_endRetreats_121 ?_
                    refine lv_iload_n hx hb d_Mo_endRetreats_124 rfl (lv_at hl 2 rfl) ?_
                    refine tr_iald (v := fr i) hx hb hK hP 9 0 rfl rfl i hlt12 (by decide) rfl d_Mo_endRetreats_125 ?_
                    refine lv_aload_n hx hb d_Mo_endRetreats_126 rfl (lv_at hl 3 rfl) ?_
                    refine va_get (D := D) (ci := 6) (v := .ref m_aside) (C := R_Mo) (T := T_Mo) (N := 24) hx hb hts hin_Mo hown hK hP 0 rfl rfl 17 (by decide) (hts _ wd_721) (fun _ h9 => h9) rfl d_Mo_endRetreats_127 ?_
                    refine lv_iload_n hx hb d_Mo_endRetreats_130 rfl (lv_at hl 2 rfl) ?_
                    refine tr_iald (v := fa i) hx hb hK hP 8 0 rfl rfl i hlt12 (by decide) rfl d_Mo_endRetreats_131 ?_
                    refine va_iast hx hb hK hP hD hS 10 0 rfl rfl (Or.resolve_left (hfr i) hng) d_Mo_endRetreats_132 (fun H locs hP hD hS => ?_)
                    have hP : va_P D vwCl [(g0, .inr (6, [.int co, .int (nI n), .ref m_sea, .ref m_center, .ref m_home, .ref m_borders, .int mp, .int mt, .ref m_owner, .ref m_units, .ref m_kind, .ref m_toX, .ref m_toY, .ref m_results, .ref m_known, .ref m_reached, .ref m_way, .ref m_aside, .ref m_origin, .ref m_retreats, .ref m_contested, .ref m_moved, .int msh, .ref m_past])), (m_center, .inl (cZ, 12, .inl (fun j => bI (Ce j)))), (m_home, .inl (cI, 12, .inl fh)), (m_owner, .inl (cI, 12, .inl fw)), (m_units, .inl (cI, 12, .inl fu)), (m_kind, .inl (cI, 12, .inl (fun j => nI (Kd j)))), (m_toX, .inl (cI, 12, .inl (fun j => nI (X j)))), (m_toY, .inl (cI, 12, .inl (fun j => nI (Y j)))), (m_aside, .inl (cI, 12, .inl fa)), (m_retreats, .inl (cI, 12, .inl fr)), (m_moved, .inl (cI, 12, .inl (upd (erM fa fr (mxI (fun _ => (-1)) fm n) n i) (fr i).toNatClampNeg (fa i))))] H := hP
                    have hD : va_D A [(g0, .inr (6, [.int co, .int (nI n), .ref m_sea, .ref m_center, .ref m_home, .ref m_borders, .int mp, .int mt, .ref m_owner, .ref m_units, .ref m_kind, .ref m_toX, .ref m_toY, .ref m_results, .ref m_known, .ref m_reached, .ref m_way, .ref m_aside, .ref m_origin, .ref m_retreats, .ref m_contested, .ref m_moved, .int msh, .ref m_past])), (m_center, .inl (cZ, 12, .inl (fun j => bI (Ce j)))), (m_home, .inl (cI, 12, .inl fh)), (m_owner, .inl (cI, 12, .inl fw)), (m_units, .inl (cI, 12, .inl fu)), (m_kind, .inl (cI, 12, .inl (fun j => nI (Kd j)))), (m_toX, .inl (cI, 12, .inl (fun j => nI (X j)))), (m_toY, .inl (cI, 12, .inl (fun j => nI (Y j)))), (m_aside, .inl (cI, 12, .inl fa)), (m_retreats, .inl (cI, 12, .inl fr)), (m_moved, .inl (cI, 12, .inl (upd (erM fa fr (mxI (fun _ => (-1)) fm n) n i) (fr i).toNatClampNeg (fa i))))] := hD
                    refine lv_iinc (lv' := [(1, .int ((nI i) + 1)), (3, .int (nI n)), (2, .int (bI (!anyB (fun b => !decide (b = i) && !decide (fa b < 0) && decide (fr b = fr i)) n))), (0, .ref g0)]) hx hb d_Mo_endRetreats_133 hl (k := 2) rfl rfl (by decide) rfl (fun ls hl => ?_)
                    refine lv_goto (tgt := 25) hx hb d_Mo_endRetreats_136 (by decide) ?_
                    have e35 : (nI i) + 1 = nI (i + 1) := nI_1 i
                    have eo36 : (upd (erM fa fr (mxI (fun _ => (-1)) fm n) n i) (fr i).toNatClampNeg (fa i)) = (erM fa fr (mxI (fun _ => (-1)) fm n) n (i + 1)) := erM_y (by simp [alR, hc15, hc23, hb33])
                    exact ih (i + 1) ls H locs (by omega) (by rw [← e35]; exact lv_sub hl [0, 3] rfl) (by rw [← eo36]; exact hP) (by rw [← eo36]; exact hD) hS
                  · refine tr_top e9 ?_
                    refine lv_if_eq (tgt := 133) hx hb d_Mo_endRetreats_113 (by decide) (fun _ => ?_) (fun h0 => absurd (by decide) h0)
                    refine lv_iinc (lv' := [(1, .int ((nI i) + 1)), (3, .int (nI n)), (2, .int (bI (!anyB (fun b => !decide (b = i) && !decide (fa b < 0) && decide (fr b = fr i)) n))), (0, .ref g0)]) hx hb d_Mo_endRetreats_133 hl (k := 2) rfl rfl (by decide) rfl (fun ls hl => ?_)
                    refine lv_goto (tgt := 25) hx hb d_Mo_endRetreats_136 (by decide) ?_
                    have e38 : (nI i) + 1 = nI (i + 1) := nI_1 i
                    have eo39 : (erM fa fr (mxI (fun _ => (-1)) fm n) n i) = (erM fa fr (mxI (fun _ => (-1)) fm n) n (i + 1)) := erM_n (by simp [alR, hc15, hc23, hb33])
                    exact ih (i + 1) ls H locs (by omega) (by rw [← e38]; exact lv_sub hl [0, 3] rfl) (by rw [← eo39]; exact hP) (by rw [← eo39]; exact hD) hS
                | succ k9 ih9 =>
                  intro i9 ls hi9 hl
                  have hlt9 : i9 < n := by omega
                  have hlt912 : i9 < 12 := by omega
                  refine lv_iload_n hx hb d_Mo_endRetreats_59 rfl (lv_at hl 0 rfl) ?_
                  refine lv_aload_n hx hb d_Mo_endRetreats_60 rfl (lv_at hl 3 rfl) ?_
                  refine va_get (D := D) (ci := 6) (v := .int (nI n)) (C := R_Mo) (T := T_Mo) (N := 24) hx hb hts hin_Mo hown hK hP 0 rfl rfl 1 (by decide) (hts _ wd_705) (fun _ h9 => h9) rfl d_Mo_endRetreats_61 ?_
                  refine lv_icmp_ge (tgt := 112) hx hb d_Mo_endRetreats_64 (by decide) (fun h0 => absurd h0 (nI_ge hlt9 (by omega))) (fun _ => ?_)
                  refine lv_iload_n hx hb d_Mo_endRetreats_67 rfl (lv_at hl 1 rfl) ?_
                  rcases bI_c (!anyB (fun b => !decide (b = i) && !decide (fa b < 0) && decide (fr b = fr i)) i9) with ⟨hb42, e9⟩ | ⟨hb42, e9⟩
                  · refine tr_top e9 ?_
                    refine lv_if_eq (tgt := 104) hx hb d_Mo_endRetreats_68 (by decide) (fun h0 => absurd h0 (by decide)) (fun _ => ?_)
                    refine lv_iload_n hx hb d_Mo_endRetreats_71 rfl (lv_at hl 0 rfl) ?_
                    refine lv_iload_n hx hb d_Mo_endRetreats_72 rfl (lv_at hl 2 rfl) ?_
                    refine lv_icmp_eq (tgt := 100) hx hb d_Mo_endRetreats_73 (by decide) (fun hc44 => ?_) (fun hc44 => ?_)
                    · -- 73 taken
                      have hc44 : i9 = i := (nI_lit (Nat.lt_trans hlt912 (by decide)) (Nat.lt_trans hlt12 (by decide))).mp hc44
                      refine lv_iconst (v := 1) hx hb d_Mo_endRetreats_100 (by decide) ?_
                      refine lv_goto (tgt := 105) hx hb d_Mo_endRetreats_101 (by decide) ?_
                      refine lv_istore_n (lv' := [(2, .int 1), (3, .int (nI i9)), (1, .int (nI i)), (0, .ref g0)]) hx hb d_Mo_endRetreats_105 rfl hl (by decide) rfl (fun ls hl => ?_)
                      refine lv_iinc (lv' := [(3, .int ((nI i9) + 1)), (2, .int 1), (1, .int (nI i)), (0, .ref g0)]) hx hb d_Mo_endRetreats_106 hl (k := 1) rfl rfl (by decide) rfl (fun ls hl => ?_)
                      refine lv_goto (tgt := 59) hx hb d_Mo_endRetreats_109 (by decide) ?_
                      have e45 : (nI i9) + 1 = nI (i9 + 1) := nI_1 i9
                      have e46 : 1 = bI (!anyB (fun b => !decide (b = i) && !decide (fa b < 0) && decide (fr b = fr i)) (i9 + 1)) := (bI_t (show (!(anyB (fun b => !decide (b = i) && !decide (fa b < 0) && decide (fr b = fr i)) i9 || (!decide (i9 = i) && !decide (fa i9 < 0) && decide (fr i9 = fr i)))) = true by simp only [Bool.not_or, Bool.true_and, Bool.false_and, hb42] <;> simp [hc15, hc23, hb42, hc44])).symm
                      exact ih9 (i9 + 1) ls (by omega) (by rw [← e45, ← e46]; exact lv_sub hl [0, 1, 2, 3] rfl)
                    · -- 73 not taken
                      have hc44 : ¬ i9 = i := fun h9 => hc44 (congrArg nI h9)
                      refine lv_aload_n hx hb d_Mo_endRetreats_76 rfl (lv_at hl 3 rfl) ?_
                      refine va_get (D := D) (ci := 6) (v := .ref m_aside) (C := R_Mo) (T := T_Mo) (N := 24) hx hb hts hin_Mo hown hK hP 0 rfl rfl 17 (by decide) (hts _ wd_721) (fun _ h9 => h9) rfl d_Mo_endRetreats_77 ?_
                      refine lv_iload_n hx hb d_Mo_endRetreats_80 rfl (lv_at hl 0 rfl) ?_
                      refine tr_iald (v := fa i9) hx hb hK hP 8 0 rfl rfl i9 hlt912 (by decide) rfl d_Mo_endRetreats_81 ?_
                      refine lv_if_lt (tgt := 100) hx hb d_Mo_endRetreats_82 (by decide) (fun hc47 => ?_) (fun hc47 => ?_)
                      · -- 82 taken
                        refine lv_iconst (v := 1) hx hb d_Mo_endRetreats_100 (by decide) ?_
                        refine lv_goto (tgt := 105) hx hb d_Mo_endRetreats_101 (by decide) ?_
                        refine lv_istore_n (lv' := [(2, .int 1), (3, .int (nI i9)), (1, .int (nI i)), (0, .ref g0)]) hx hb d_Mo_endRetreats_105 rfl hl (by decide) rfl (fun ls hl => ?_)
                        refine lv_iinc (lv' := [(3, .int ((nI i9) + 1)), (2, .int 1), (1, .int (nI i)), (0, .ref g0)]) hx hb d_Mo_endRetreats_106 hl (k := 1) rfl rfl (by decide) rfl (fun ls hl => ?_)
                        refine lv_goto (tgt := 59) hx hb d_Mo_endRetreats_109 (by decide) ?_
                        have e48 : (nI i9) + 1 = nI (i9 + 1) := nI_1 i9
                        have e49 : 1 = bI (!anyB (fun b => !decide (b = i) && !decide (fa b < 0) && decide (fr b = fr i)) (i9 + 1)) := (bI_t (show (!(anyB (fun b => !decide (b = i) && !decide (fa b < 0) && decide (fr b = fr i)) i9 || (!decide (i9 = i) && !decide (fa i9 < 0) && decide (fr i9 = fr i)))) = true by simp only [Bool.not_or, Bool.true_and, Bool.false_and, hb42] <;> simp [hc15, hc23, hb42, hc44, hc47])).symm
                        exact ih9 (i9 + 1) ls (by omega) (by rw [← e48, ← e49]; exact lv_sub hl [0, 1, 2, 3] rfl)
                      · -- 82 not taken
                        refine lv_aload_n hx hb d_Mo_endRetreats_85 rfl (lv_at hl 3 rfl) ?_
                        refine va_get (D := D) (ci := 6) (v := .ref m_retreats) (C := R_Mo) (T := T_Mo) (N := 24) hx hb hts hin_Mo hown hK hP 0 rfl rfl 19 (by decide) (hts _ wd_723) (fun _ h9 => h9) rfl d_Mo_endRetreats_86 ?_
                        refine lv_iload_n hx hb d_Mo_endRetreats_89 rfl (lv_at hl 0 rfl) ?_
                        refine tr_iald (v := fr i9) hx hb hK hP 9 0 rfl rfl i9 hlt912 (by decide) rfl d_Mo_endRetreats_90 ?_
                        refine lv_aload_n hx hb d_Mo_endRetreats_91 rfl (lv_at hl 3 rfl) ?_
                        refine va_get (D := D) (ci := 6) (v := .ref m_retreats) (C := R_Mo) (T := T_Mo) (N := 24) hx hb hts hin_Mo hown hK hP 0 rfl rfl 19 (by decide) (hts _ wd_723) (fun _ h9 => h9) rfl d_Mo_endRetreats_92 ?_
                        refine lv_iload_n hx hb d_Mo_endRetreats_95 rfl (lv_at hl 2 rfl) ?_
                        refine tr_iald (v := fr i) hx hb hK hP 9 0 rfl rfl i hlt12 (by decide) rfl d_Mo_endRetreats_96 ?_
                        refine lv_icmp_eq (tgt := 104) hx hb d_Mo_endRetreats_97 (by decide) (fun hc50 => ?_) (fun hc50 => ?_)
                        · -- 97 taken
                          refine lv_iconst (v := 0) hx hb d_Mo_endRetreats_104 (by decide) ?_
                          refine lv_istore_n (lv' := [(2, .int 0), (3, .int (nI i9)), (1, .int (nI i)), (0, .ref g0)]) hx hb d_Mo_endRetreats_105 rfl hl (by decide) rfl (fun ls hl => ?_)
                          refine lv_iinc (lv' := [(3, .int ((nI i9) + 1)), (2, .int 0), (1, .int (nI i)), (0, .ref g0)]) hx hb d_Mo_endRetreats_106 hl (k := 1) rfl rfl (by decide) rfl (fun ls hl => ?_)
                          refine lv_goto (tgt := 59) hx hb d_Mo_endRetreats_109 (by decide) ?_
                          have e51 : (nI i9) + 1 = nI (i9 + 1) := nI_1 i9
                          have e52 : 0 = bI (!anyB (fun b => !decide (b = i) && !decide (fa b < 0) && decide (fr b = fr i)) (i9 + 1)) := (bI_f (show (!(anyB (fun b => !decide (b = i) && !decide (fa b < 0) && decide (fr b = fr i)) i9 || (!decide (i9 = i) && !decide (fa i9 < 0) && decide (fr i9 = fr i)))) = false by simp only [Bool.not_or, Bool.true_and, Bool.false_and, hb42] <;> simp [hc15, hc23, hb42, hc44, hc47, hc50])).symm
                          exact ih9 (i9 + 1) ls (by omega) (by rw [← e51, ← e52]; exact lv_sub hl [0, 1, 2, 3] rfl)
                        · -- 97 not taken
                          refine lv_iconst (v := 1) hx hb d_Mo_endRetreats_100 (by decide) ?_
                          refine lv_goto (tgt := 105) hx hb d_Mo_endRetreats_101 (by decide) ?_
                          refine lv_istore_n (lv' := [(2, .int 1), (3, .int (nI i9)), (1, .int (nI i)), (0, .ref g0)]) hx hb d_Mo_endRetreats_105 rfl hl (by decide) rfl (fun ls hl => ?_)
                          refine lv_iinc (lv' := [(3, .int ((nI i9) + 1)), (2, .int 1), (1, .int (nI i)), (0, .ref g0)]) hx hb d_Mo_endRetreats_106 hl (k := 1) rfl rfl (by decide) rfl (fun ls hl => ?_)
                          refine lv_goto (tgt := 59) hx hb d_Mo_endRetreats_109 (by decide) ?_
                          have e53 : (nI i9) + 1 = nI (i9 + 1) := nI_1 i9
                          have e54 : 1 = bI (!anyB (fun b => !decide (b = i) && !decide (fa b < 0) && decide (fr b = fr i)) (i9 + 1)) := (bI_t (show (!(anyB (fun b => !decide (b = i) && !decide (fa b < 0) && decide (fr b = fr i)) i9 || (!decide (i9 = i) && !decide (fa i9 < 0) && decide (fr i9 = fr i)))) = true by simp only [Bool.not_or, Bool.true_and, Bool.false_and, hb42] <;> simp [hc15, hc23, hb42, hc44, hc47, hc50])).symm
                          exact ih9 (i9 + 1) ls (by omega) (by rw [← e53, ← e54]; exact lv_sub hl [0, 1, 2, 3] rfl)
                  · refine tr_top e9 ?_
                    refine lv_if_eq (tgt := 104) hx hb d_Mo_endRetreats_68 (by decide) (fun _ => ?_) (fun h0 => absurd (by decide) h0)
                    refine lv_iconst (v := 0) hx hb d_Mo_endRetreats_104 (by decide) ?_
                    refine lv_istore_n (lv' := [(2, .int 0), (3, .int (nI i9)), (1, .int (nI i)), (0, .ref g0)]) hx hb d_Mo_endRetreats_105 rfl hl (by decide) rfl (fun ls hl => ?_)
                    refine lv_iinc (lv' := [(3, .int ((nI i9) + 1)), (2, .int 0), (1, .int (nI i)), (0, .ref g0)]) hx hb d_Mo_endRetreats_106 hl (k := 1) rfl rfl (by decide) rfl (fun ls hl => ?_)
                    refine lv_goto (tgt := 59) hx hb d_Mo_endRetreats_109 (by decide) ?_
                    have e56 : (nI i9) + 1 = nI (i9 + 1) := nI_1 i9
                    have e57 : 0 = bI (!anyB (fun b => !decide (b = i) && !decide (fa b < 0) && decide (fr b = fr i)) (i9 + 1)) := (bI_f (show (!(anyB (fun b => !decide (b = i) && !decide (fa b < 0) && decide (fr b = fr i)) i9 || (!decide (i9 = i) && !decide (fa i9 < 0) && decide (fr i9 = fr i)))) = false by simp only [Bool.not_or, Bool.true_and, Bool.false_and, hb42] <;> simp [hc15, hc23, hb42])).symm
                    exact ih9 (i9 + 1) ls (by omega) (by rw [← e56, ← e57]; exact lv_sub hl [0, 1, 2, 3] rfl)
              exact nloop n 0 ls (Nat.zero_add _) hl
      exact loop2 n 0 ls _ _ (Nat.zero_add _) hl (hP) (hD) hS
    | succ k ih =>
      intro i ls H locs hi hl hP hD hS
      have hlt : i < n := by omega
      have hlt12 : i < 12 := by omega
      refine lv_iload_n hx hb d_Mo_endRetreats_2 rfl (lv_at hl 0 rfl) ?_
      refine lv_aload_n hx hb d_Mo_endRetreats_3 rfl (lv_at hl 1 rfl) ?_
      refine va_get (D := D) (ci := 6) (v := .int (nI n)) (C := R_Mo) (T := T_Mo) (N := 24) hx hb hts hin_Mo hown hK hP 0 rfl rfl 1 (by decide) (hts _ wd_705) (fun _ h9 => h9) rfl d_Mo_endRetreats_4 ?_
      refine lv_icmp_ge (tgt := 23) hx hb d_Mo_endRetreats_7 (by decide) (fun h0 => absurd h0 (nI_ge hlt (by omega))) (fun _ => ?_)
      refine lv_aload_n hx hb d_Mo_endRetreats_10 rfl (lv_at hl 1 rfl) ?_
      refine va_get (D := D) (ci := 6) (v := .ref m_moved) (C := R_Mo) (T := T_Mo) (N := 24) hx hb hts hin_Mo hown hK hP 0 rfl rfl 21 (by decide) (hts _ wd_725) (fun _ h9 => h9) rfl d_Mo_endRetreats_11 ?_
      refine lv_iload_n hx hb d_Mo_endRetreats_14 rfl (lv_at hl 0 rfl) ?_
      refine lv_iconst (v := (-1)) hx hb d_Mo_endRetreats_15 (by decide) ?_
      refine tr_iast (g := upd (mxI (fun _ => (-1)) fm i) i (-1)) hx hb hK hP hD hS 10 0 rfl rfl i hlt12 (by decide) rfl d_Mo_endRetreats_16 (fun H locs hP hD hS => ?_)
      have hP : va_P D vwCl [(g0, .inr (6, [.int co, .int (nI n), .ref m_sea, .ref m_center, .ref m_home, .ref m_borders, .int mp, .int mt, .ref m_owner, .ref m_units, .ref m_kind, .ref m_toX, .ref m_toY, .ref m_results, .ref m_known, .ref m_reached, .ref m_way, .ref m_aside, .ref m_origin, .ref m_retreats, .ref m_contested, .ref m_moved, .int msh, .ref m_past])), (m_center, .inl (cZ, 12, .inl (fun j => bI (Ce j)))), (m_home, .inl (cI, 12, .inl fh)), (m_owner, .inl (cI, 12, .inl fw)), (m_units, .inl (cI, 12, .inl fu)), (m_kind, .inl (cI, 12, .inl (fun j => nI (Kd j)))), (m_toX, .inl (cI, 12, .inl (fun j => nI (X j)))), (m_toY, .inl (cI, 12, .inl (fun j => nI (Y j)))), (m_aside, .inl (cI, 12, .inl fa)), (m_retreats, .inl (cI, 12, .inl fr)), (m_moved, .inl (cI, 12, .inl (upd (mxI (fun _ => (-1)) fm i) i (-1))))] H := hP
      have hD : va_D A [(g0, .inr (6, [.int co, .int (nI n), .ref m_sea, .ref m_center, .ref m_home, .ref m_borders, .int mp, .int mt, .ref m_owner, .ref m_units, .ref m_kind, .ref m_toX, .ref m_toY, .ref m_results, .ref m_known, .ref m_reached, .ref m_way, .ref m_aside, .ref m_origin, .ref m_retreats, .ref m_contested, .ref m_moved, .int msh, .ref m_past])), (m_center, .inl (cZ, 12, .inl (fun j => bI (Ce j)))), (m_home, .inl (cI, 12, .inl fh)), (m_owner, .inl (cI, 12, .inl fw)), (m_units, .inl (cI, 12, .inl fu)), (m_kind, .inl (cI, 12, .inl (fun j => nI (Kd j)))), (m_toX, .inl (cI, 12, .inl (fun j => nI (X j)))), (m_toY, .inl (cI, 12, .inl (fun j => nI (Y j)))), (m_aside, .inl (cI, 12, .inl fa)), (m_retreats, .inl (cI, 12, .inl fr)), (m_moved, .inl (cI, 12, .inl (upd (mxI (fun _ => (-1)) fm i) i (-1))))] := hD
      refine lv_iinc (lv' := [(1, .int ((nI i) + 1)), (0, .ref g0)]) hx hb d_Mo_endRetreats_17 hl (k := 0) rfl rfl (by decide) rfl (fun ls hl => ?_)
      refine lv_goto (tgt := 2) hx hb d_Mo_endRetreats_20 (by decide) ?_
      have e59 : (nI i) + 1 = nI (i + 1) := nI_1 i
      have eo60 : (upd (mxI (fun _ => (-1)) fm i) i (-1)) = (mxI (fun _ => (-1)) fm (i + 1)) := mxI_s rfl
      exact ih (i + 1) ls H locs (by omega) (by rw [← e59]; exact lv_sub hl [0, 1] rfl) (by rw [← eo60]; exact hP) (by rw [← eo60]; exact hD) hS
  have ei61 : (mxI (fun _ => (-1)) fm 0) = (fm) := mxI_0 _ _
  exact loop n 0 ls _ _ (Nat.zero_add _) hl (by rw [ei61]; exact hP) (by rw [ei61]; exact hD) hS


set_option maxHeartbeats 4000000 in
set_option maxRecDepth 100000 in
theorem c_Mo_endRetB (l : Launch) (D : va_G) (cI cZ cJ cS : ClassId) (aT : Nat) (ceT : Cell) (sz : Nat) (g0 m_sea m_center m_home m_borders m_owner m_units m_kind m_toX m_toY m_results m_known m_reached m_way m_aside m_origin m_retreats m_contested m_moved m_past : Nat) (n : Nat) (co mp mt msh : Int32) (Ce : Nat → Bool) (fh : Nat → Int32) (fw : Nat → Int32) (fu : Nat → Int32) (Kd : Nat → Nat) (X : Nat → Nat) (Y : Nat → Nat) (fa : Nat → Int32) (fr : Nat → Int32) (fm : Nat → Int32) (hKd : ∀ j, Kd j < 4) (hX9 : ∀ j, X j < 12) (hY9 : ∀ j, Y j < 12) (hn : n ≤ 12) (hfr : ∀ j, fr j < 0 ∨ vp_in (fr j) 12) (hev : mt - mt / 2 * 2 = 0) (hdu : anyB (bdR Ce fh (mxI (tkR Ce fw (mxI (fun j => if (erM fa fr (mxI (fun _ => (-1)) fm n) n n) j < 0 then fu j else (erM fa fr (mxI (fun _ => (-1)) fm n) n n) j) fu n)) fw n) (mxI (fun j => if (erM fa fr (mxI (fun _ => (-1)) fm n) n n) j < 0 then fu j else (erM fa fr (mxI (fun _ => (-1)) fm n) n n) j) fu n) n) 4 = true) : Met l y_Mo_endRetreats w_Mo_endRetreats ({ frames := 2, cells := 0, slots := 0, locals := 48 }) (tH D cI cZ cJ cS aT ceT [.ref g0] sz [(g0, .inr (6, [.int co, .int (nI n), .ref m_sea, .ref m_center, .ref m_home, .ref m_borders, .int mp, .int mt, .ref m_owner, .ref m_units, .ref m_kind, .ref m_toX, .ref m_toY, .ref m_results, .ref m_known, .ref m_reached, .ref m_way, .ref m_aside, .ref m_origin, .ref m_retreats, .ref m_contested, .ref m_moved, .int msh, .ref m_past])), (m_center, .inl (cZ, 12, .inl (fun j => bI (Ce j)))), (m_home, .inl (cI, 12, .inl fh)), (m_owner, .inl (cI, 12, .inl fw)), (m_units, .inl (cI, 12, .inl fu)), (m_kind, .inl (cI, 12, .inl (fun j => nI (Kd j)))), (m_toX, .inl (cI, 12, .inl (fun j => nI (X j)))), (m_toY, .inl (cI, 12, .inl (fun j => nI (Y j)))), (m_aside, .inl (cI, 12, .inl fa)), (m_retreats, .inl (cI, 12, .inl fr)), (m_moved, .inl (cI, 12, .inl fm))]) (va_Qv (fun _ : Unit => True) (fun _ t => tB D (va_A [(g0, .inr (6, [.int co, .int (nI n), .ref m_sea, .ref m_center, .ref m_home, .ref m_borders, .int mp, .int mt, .ref m_owner, .ref m_units, .ref m_kind, .ref m_toX, .ref m_toY, .ref m_results, .ref m_known, .ref m_reached, .ref m_way, .ref m_aside, .ref m_origin, .ref m_retreats, .ref m_contested, .ref m_moved, .int msh, .ref m_past])), (m_center, .inl (cZ, 12, .inl (fun j => bI (Ce j)))), (m_home, .inl (cI, 12, .inl fh)), (m_owner, .inl (cI, 12, .inl fw)), (m_units, .inl (cI, 12, .inl fu)), (m_kind, .inl (cI, 12, .inl (fun j => nI (Kd j)))), (m_toX, .inl (cI, 12, .inl (fun j => nI (X j)))), (m_toY, .inl (cI, 12, .inl (fun j => nI (Y j)))), (m_aside, .inl (cI, 12, .inl fa)), (m_retreats, .inl (cI, 12, .inl fr)), (m_moved, .inl (cI, 12, .inl fm))] sz) [(g0, .inr (6, [.int co, .int (nI n), .ref m_sea, .ref m_center, .ref m_home, .ref m_borders, .int 3, .int mt, .ref m_owner, .ref m_units, .ref m_kind, .ref m_toX, .ref m_toY, .ref m_results, .ref m_known, .ref m_reached, .ref m_way, .ref m_aside, .ref m_origin, .ref m_retreats, .ref m_contested, .ref m_moved, .int msh, .ref m_past])), (m_center, .inl (cZ, 12, .inl (fun j => bI (Ce j)))), (m_home, .inl (cI, 12, .inl fh)), (m_owner, .inl (cI, 12, .inl (mxI (tkR Ce fw (mxI (fun j => if (erM fa fr (mxI (fun _ => (-1)) fm n) n n) j < 0 then fu j else (erM fa fr (mxI (fun _ => (-1)) fm n) n n) j) fu n)) fw n))), (m_units, .inl (cI, 12, .inl (mxI (fun j => if (erM fa fr (mxI (fun _ => (-1)) fm n) n n) j < 0 then fu j else (erM fa fr (mxI (fun _ => (-1)) fm n) n n) j) fu n))), (m_kind, .inl (cI, 12, .inl (fun j => nI (Kd j)))), (m_toX, .inl (cI, 12, .inl (fun j => nI (X j)))), (m_toY, .inl (cI, 12, .inl (fun j => nI (Y j)))), (m_aside, .inl (cI, 12, .inl (mxI (fun _ => (-1)) fa n))), (m_retreats, .inl (cI, 12, .inl fr)), (m_moved, .inl (cI, 12, .inl (erM fa fr (mxI (fun _ => (-1)) fm n) n n)))] t) (va_A [(g0, .inr (6, [.int co, .int (nI n), .ref m_sea, .ref m_center, .ref m_home, .ref m_borders, .int mp, .int mt, .ref m_owner, .ref m_units, .ref m_kind, .ref m_toX, .ref m_toY, .ref m_results, .ref m_known, .ref m_reached, .ref m_way, .ref m_aside, .ref m_origin, .ref m_retreats, .ref m_contested, .ref m_moved, .int msh, .ref m_past])), (m_center, .inl (cZ, 12, .inl (fun j => bI (Ce j)))), (m_home, .inl (cI, 12, .inl fh)), (m_owner, .inl (cI, 12, .inl fw)), (m_units, .inl (cI, 12, .inl fu)), (m_kind, .inl (cI, 12, .inl (fun j => nI (Kd j)))), (m_toX, .inl (cI, 12, .inl (fun j => nI (X j)))), (m_toY, .inl (cI, 12, .inl (fun j => nI (Y j)))), (m_aside, .inl (cI, 12, .inl fa)), (m_retreats, .inl (cI, 12, .inl fr)), (m_moved, .inl (cI, 12, .inl fm))] sz)) 0 0 (va_A [(g0, .inr (6, [.int co, .int (nI n), .ref m_sea, .ref m_center, .ref m_home, .ref m_borders, .int mp, .int mt, .ref m_owner, .ref m_units, .ref m_kind, .ref m_toX, .ref m_toY, .ref m_results, .ref m_known, .ref m_reached, .ref m_way, .ref m_aside, .ref m_origin, .ref m_retreats, .ref m_contested, .ref m_moved, .int msh, .ref m_past])), (m_center, .inl (cZ, 12, .inl (fun j => bI (Ce j)))), (m_home, .inl (cI, 12, .inl fh)), (m_owner, .inl (cI, 12, .inl fw)), (m_units, .inl (cI, 12, .inl fu)), (m_kind, .inl (cI, 12, .inl (fun j => nI (Kd j)))), (m_toX, .inl (cI, 12, .inl (fun j => nI (X j)))), (m_toY, .inl (cI, 12, .inl (fun j => nI (Y j)))), (m_aside, .inl (cI, 12, .inl fa)), (m_retreats, .inl (cI, 12, .inl fr)), (m_moved, .inl (cI, 12, .inl fm))] sz) := by
  refine Met.ofW (cc := b_Mo_endRetreats) (maxL := 4) (ret := none) (by decide) rfl ?_
  intro p e s m args below meth c s₁ B hml hv
  obtain ⟨rfl, hsz, hP, hK, hD0, hX⟩ := hv
  have hx := B.exec
  have hb := B.bytes
  have hr := B.returns
  have hts0 := atoms_spec (ws := w_Mo_endRetreats) B.pre
  have hts : ∀ w ∈ TB, w.before _ s = true := fun w h => hts0 w (List.mem_cons_of_mem _ h)
  have hown : s.vm.findClass R_Mo = some m.cls := findClass_of_methodNamed B.named
  have hlocks := B.notSynchronized
  subst hsz
  have hXl := tx_lt hX
  have hXn := tx_far hP hX
  have hD := hD0.self (sz := s.heap.size)
  generalize hAe : va_A [(g0, .inr (6, [.int co, .int (nI n), .ref m_sea, .ref m_center, .ref m_home, .ref m_borders, .int mp, .int mt, .ref m_owner, .ref m_units, .ref m_kind, .ref m_toX, .ref m_toY, .ref m_results, .ref m_known, .ref m_reached, .ref m_way, .ref m_aside, .ref m_origin, .ref m_retreats, .ref m_contested, .ref m_moved, .int msh, .ref m_past])), (m_center, .inl (cZ, 12, .inl (fun j => bI (Ce j)))), (m_home, .inl (cI, 12, .inl fh)), (m_owner, .inl (cI, 12, .inl fw)), (m_units, .inl (cI, 12, .inl fu)), (m_kind, .inl (cI, 12, .inl (fun j => nI (Kd j)))), (m_toX, .inl (cI, 12, .inl (fun j => nI (X j)))), (m_toY, .inl (cI, 12, .inl (fun j => nI (Y j)))), (m_aside, .inl (cI, 12, .inl fa)), (m_retreats, .inl (cI, 12, .inl fr)), (m_moved, .inl (cI, 12, .inl fm))] s.heap.size = A at hD hXn ⊢
  have hA : ∀ q : Nat, s.heap.size ≤ q → A q := fun q h => by rw [← hAe]; exact Or.inr h
  have hS : va_S A s.heap s.heap [] := va_S.rf
  have hXH : s.heap[aT]? = s.heap[aT]? := rfl
  have hl := lv_entry ([.ref g0]) (n := 4) (Nat.le_of_ble_eq_true rfl)
  rw [lg_entry_eq]
  generalize (lg_sl ([.ref g0]) ++ List.replicate (4 - (lg_sl ([.ref g0])).length) Slot.unset).toArray = ls at hl ⊢
  have hl : lv_has ls 4 [(0, .ref g0)] := hl
  refine lv_iconst (v := 0) hx hb d_Mo_endRetreats_0 (by decide) ?_
  refine lv_istore_n (lv' := [(1, .int 0), (0, .ref g0)]) hx hb d_Mo_endRetreats_1 rfl hl (by decide) rfl (fun ls hl => ?_)
  have loop : ∀ (k i : Nat) (ls : Array Slot) (H : Heap) (locs : List Loc), i + k = n → lv_has ls 4 [(1, .int (nI i)), (0, .ref g0)] → va_P D vwCl [(g0, .inr (6, [.int co, .int (nI n), .ref m_sea, .ref m_center, .ref m_home, .ref m_borders, .int mp, .int mt, .ref m_owner, .ref m_units, .ref m_kind, .ref m_toX, .ref m_toY, .ref m_results, .ref m_known, .ref m_reached, .ref m_way, .ref m_aside, .ref m_origin, .ref m_retreats, .ref m_contested, .ref m_moved, .int msh, .ref m_past])), (m_center, .inl (cZ, 12, .inl (fun j => bI (Ce j)))), (m_home, .inl (cI, 12, .inl fh)), (m_owner, .inl (cI, 12, .inl fw)), (m_units, .inl (cI, 12, .inl fu)), (m_kind, .inl (cI, 12, .inl (fun j => nI (Kd j)))), (m_toX, .inl (cI, 12, .inl (fun j => nI (X j)))), (m_toY, .inl (cI, 12, .inl (fun j => nI (Y j)))), (m_aside, .inl (cI, 12, .inl fa)), (m_retreats, .inl (cI, 12, .inl fr)), (m_moved, .inl (cI, 12, .inl (mxI (fun _ => (-1)) fm i)))] H → va_D A [(g0, .inr (6, [.int co, .int (nI n), .ref m_sea, .ref m_center, .ref m_home, .ref m_borders, .int mp, .int mt, .ref m_owner, .ref m_units, .ref m_kind, .ref m_toX, .ref m_toY, .ref m_results, .ref m_known, .ref m_reached, .ref m_way, .ref m_aside, .ref m_origin, .ref m_retreats, .ref m_contested, .ref m_moved, .int msh, .ref m_past])), (m_center, .inl (cZ, 12, .inl (fun j => bI (Ce j)))), (m_home, .inl (cI, 12, .inl fh)), (m_owner, .inl (cI, 12, .inl fw)), (m_units, .inl (cI, 12, .inl fu)), (m_kind, .inl (cI, 12, .inl (fun j => nI (Kd j)))), (m_toX, .inl (cI, 12, .inl (fun j => nI (X j)))), (m_toY, .inl (cI, 12, .inl (fun j => nI (Y j)))), (m_aside, .inl (cI, 12, .inl fa)), (m_retreats, .inl (cI, 12, .inl fr)), (m_moved, .inl (cI, 12, .inl (mxI (fun _ => (-1)) fm i)))] → va_S A s.heap H locs → W p l e (headSpec w_Mo_endRetreats ({ frames := 2, cells := 0, slots := 0, locals := 48 })).room s m ([.ref g0]).toArray below meth c H locs 0 0 (MQ below (va_Qv (fun _ : Unit => True) (fun _ t => tB D A [(g0, .inr (6, [.int co, .int (nI n), .ref m_sea, .ref m_center, .ref m_home, .ref m_borders, .int 3, .int mt, .ref m_owner, .ref m_units, .ref m_kind, .ref m_toX, .ref m_toY, .ref m_results, .ref m_known, .ref m_reached, .ref m_way, .ref m_aside, .ref m_origin, .ref m_retreats, .ref m_contested, .ref m_moved, .int msh, .ref m_past])), (m_center, .inl (cZ, 12, .inl (fun j => bI (Ce j)))), (m_home, .inl (cI, 12, .inl fh)), (m_owner, .inl (cI, 12, .inl (mxI (tkR Ce fw (mxI (fun j => if (erM fa fr (mxI (fun _ => (-1)) fm n) n n) j < 0 then fu j else (erM fa fr (mxI (fun _ => (-1)) fm n) n n) j) fu n)) fw n))), (m_units, .inl (cI, 12, .inl (mxI (fun j => if (erM fa fr (mxI (fun _ => (-1)) fm n) n n) j < 0 then fu j else (erM fa fr (mxI (fun _ => (-1)) fm n) n n) j) fu n))), (m_kind, .inl (cI, 12, .inl (fun j => nI (Kd j)))), (m_toX, .inl (cI, 12, .inl (fun j => nI (X j)))), (m_toY, .inl (cI, 12, .inl (fun j => nI (Y j)))), (m_aside, .inl (cI, 12, .inl (mxI (fun _ => (-1)) fa n))), (m_retreats, .inl (cI, 12, .inl fr)), (m_moved, .inl (cI, 12, .inl (erM fa fr (mxI (fun _ => (-1)) fm n) n n)))] t) A) ([.ref g0]).toArray s 0 0 A) (F0 m 2 ls []) := by
    intro k
    induction k with
    | zero =>
      intro i ls H locs hi hl hP hD hS
      have hie : i = n := by omega
      rw [hie] at hl hP hD
      refine lv_iload_n hx hb d_Mo_endRetreats_2 rfl (lv_at hl 0 rfl) ?_
      refine lv_aload_n hx hb d_Mo_endRetreats_3 rfl (lv_at hl 1 rfl) ?_
      refine va_get (D := D) (ci := 6) (v := .int (nI n)) (C := R_Mo) (T := T_Mo) (N := 24) hx hb hts hin_Mo hown hK hP 0 rfl rfl 1 (by decide) (hts _ wd_705) (fun _ h9 => h9) rfl d_Mo_endRetreats_4 ?_
      refine lv_icmp_ge (tgt := 23) hx hb d_Mo_endRetreats_7 (by decide) (fun _ => ?_) (fun h0 => absurd (Int32.le_refl _) h0)
      refine lv_iconst (v := 0) hx hb d_Mo_endRetreats_23 (by decide) ?_
      refine lv_istore_n (lv' := [(1, .int 0), (0, .ref g0)]) hx hb d_Mo_endRetreats_24 rfl hl (by decide) rfl (fun ls hl => ?_)
      have loop2 : ∀ (k i : Nat) (ls : Array Slot) (H : Heap) (locs : List Loc), i + k = n → lv_has ls 4 [(1, .int (nI i)), (0, .ref g0)] → va_P D vwCl [(g0, .inr (6, [.int co, .int (nI n), .ref m_sea, .ref m_center, .ref m_home, .ref m_borders, .int mp, .int mt, .ref m_owner, .ref m_units, .ref m_kind, .ref m_toX, .ref m_toY, .ref m_results, .ref m_known, .ref m_reached, .ref m_way, .ref m_aside, .ref m_origin, .ref m_retreats, .ref m_contested, .ref m_moved, .int msh, .ref m_past])), (m_center, .inl (cZ, 12, .inl (fun j => bI (Ce j)))), (m_home, .inl (cI, 12, .inl fh)), (m_owner, .inl (cI, 12, .inl fw)), (m_units, .inl (cI, 12, .inl fu)), (m_kind, .inl (cI, 12, .inl (fun j => nI (Kd j)))), (m_toX, .inl (cI, 12, .inl (fun j => nI (X j)))), (m_toY, .inl (cI, 12, .inl (fun j => nI (Y j)))), (m_aside, .inl (cI, 12, .inl fa)), (m_retreats, .inl (cI, 12, .inl fr)), (m_moved, .inl (cI, 12, .inl (erM fa fr (mxI (fun _ => (-1)) fm n) n i)))] H → va_D A [(g0, .inr (6, [.int co, .int (nI n), .ref m_sea, .ref m_center, .ref m_home, .ref m_borders, .int mp, .int mt, .ref m_owner, .ref m_units, .ref m_kind, .ref m_toX, .ref m_toY, .ref m_results, .ref m_known, .ref m_reached, .ref m_way, .ref m_aside, .ref m_origin, .ref m_retreats, .ref m_contested, .ref m_moved, .int msh, .ref m_past])), (m_center, .inl (cZ, 12, .inl (fun j => bI (Ce j)))), (m_home, .inl (cI, 12, .inl fh)), (m_owner, .inl (cI, 12, .inl fw)), (m_units, .inl (cI, 12, .inl fu)), (m_kind, .inl (cI, 12, .inl (fun j => nI (Kd j)))), (m_toX, .inl (cI, 12, .inl (fun j => nI (X j)))), (m_toY, .inl (cI, 12, .inl (fun j => nI (Y j)))), (m_aside, .inl (cI, 12, .inl fa)), (m_retreats, .inl (cI, 12, .inl fr)), (m_moved, .inl (cI, 12, .inl (erM fa fr (mxI (fun _ => (-1)) fm n) n i)))] → va_S A s.heap H locs → W p l e (headSpec w_Mo_endRetreats ({ frames := 2, cells := 0, slots := 0, locals := 48 })).room s m ([.ref g0]).toArray below meth c H locs 0 0 (MQ below (va_Qv (fun _ : Unit => True) (fun _ t => tB D A [(g0, .inr (6, [.int co, .int (nI n), .ref m_sea, .ref m_center, .ref m_home, .ref m_borders, .int 3, .int mt, .ref m_owner, .ref m_units, .ref m_kind, .ref m_toX, .ref m_toY, .ref m_results, .ref m_known, .ref m_reached, .ref m_way, .ref m_aside, .ref m_origin, .ref m_retreats, .ref m_contested, .ref m_moved, .int msh, .ref m_past])), (m_center, .inl (cZ, 12, .inl (fun j => bI (Ce j)))), (m_home, .inl (cI, 12, .inl fh)), (m_owner, .inl (cI, 12, .inl (mxI (tkR Ce fw (mxI (fun j => if (erM fa fr (mxI (fun _ => (-1)) fm n) n n) j < 0 then fu j else (erM fa fr (mxI (fun _ => (-1)) fm n) n n) j) fu n)) fw n))), (m_units, .inl (cI, 12, .inl (mxI (fun j => if (erM fa fr (mxI (fun _ => (-1)) fm n) n n) j < 0 then fu j else (erM fa fr (mxI (fun _ => (-1)) fm n) n n) j) fu n))), (m_kind, .inl (cI, 12, .inl (fun j => nI (Kd j)))), (m_toX, .inl (cI, 12, .inl (fun j => nI (X j)))), (m_toY, .inl (cI, 12, .inl (fun j => nI (Y j)))), (m_aside, .inl (cI, 12, .inl (mxI (fun _ => (-1)) fa n))), (m_retreats, .inl (cI, 12, .inl fr)), (m_moved, .inl (cI, 12, .inl (erM fa fr (mxI (fun _ => (-1)) fm n) n n)))] t) A) ([.ref g0]).toArray s 0 0 A) (F0 m 25 ls []) := by
        intro k
        induction k with
        | zero =>
          intro i ls H locs hi hl hP hD hS
          have hie : i = n := by omega
          rw [hie] at hl hP hD
          refine lv_iload_n hx hb d_Mo_endRetreats_25 rfl (lv_at hl 0 rfl) ?_
          refine lv_aload_n hx hb d_Mo_endRetreats_26 rfl (lv_at hl 1 rfl) ?_
          refine va_get (D := D) (ci := 6) (v := .int (nI n)) (C := R_Mo) (T := T_Mo) (N := 24) hx hb hts hin_Mo hown hK hP 0 rfl rfl 1 (by decide) (hts _ wd_705) (fun _ h9 => h9) rfl d_Mo_endRetreats_27 ?_
          refine lv_icmp_ge (tgt := 139) hx hb d_Mo_endRetreats_30 (by decide) (fun _ => ?_) (fun h0 => absurd (Int32.le_refl _) h0)
          refine lv_iconst (v := 0) hx hb d_Mo_endRetreats_139 (by decide) ?_
          refine lv_istore_n (lv' := [(1, .int 0), (0, .ref g0)]) hx hb d_Mo_endRetreats_140 rfl hl (by decide) rfl (fun ls hl => ?_)
          have loop3 : ∀ (k i : Nat) (ls : Array Slot) (H : Heap) (locs : List Loc), i + k = n → lv_has ls 4 [(1, .int (nI i)), (0, .ref g0)] → va_P D vwCl [(g0, .inr (6, [.int co, .int (nI n), .ref m_sea, .ref m_center, .ref m_home, .ref m_borders, .int mp, .int mt, .ref m_owner, .ref m_units, .ref m_kind, .ref m_toX, .ref m_toY, .ref m_results, .ref m_known, .ref m_reached, .ref m_way, .ref m_aside, .ref m_origin, .ref m_retreats, .ref m_contested, .ref m_moved, .int msh, .ref m_past])), (m_center, .inl (cZ, 12, .inl (fun j => bI (Ce j)))), (m_home, .inl (cI, 12, .inl fh)), (m_owner, .inl (cI, 12, .inl fw)), (m_units, .inl (cI, 12, .inl (mxI (fun j => if (erM fa fr (mxI (fun _ => (-1)) fm n) n n) j < 0 then fu j else (erM fa fr (mxI (fun _ => (-1)) fm n) n n) j) fu i))), (m_kind, .inl (cI, 12, .inl (fun j => nI (Kd j)))), (m_toX, .inl (cI, 12, .inl (fun j => nI (X j)))), (m_toY, .inl (cI, 12, .inl (fun j => nI (Y j)))), (m_aside, .inl (cI, 12, .inl (mxI (fun _ => (-1)) fa i))), (m_retreats, .inl (cI, 12, .inl fr)), (m_moved, .inl (cI, 12, .inl (erM fa fr (mxI (fun _ => (-1)) fm n) n n)))] H → va_D A [(g0, .inr (6, [.int co, .int (nI n), .ref m_sea, .ref m_center, .ref m_home, .ref m_borders, .int mp, .int mt, .ref m_owner, .ref m_units, .ref m_kind, .ref m_toX, .ref m_toY, .ref m_results, .ref m_known, .ref m_reached, .ref m_way, .ref m_aside, .ref m_origin, .ref m_retreats, .ref m_contested, .ref m_moved, .int msh, .ref m_past])), (m_center, .inl (cZ, 12, .inl (fun j => bI (Ce j)))), (m_home, .inl (cI, 12, .inl fh)), (m_owner, .inl (cI, 12, .inl fw)), (m_units, .inl (cI, 12, .inl (mxI (fun j => if (erM fa fr (mxI (fun _ => (-1)) fm n) n n) j < 0 then fu j else (erM fa fr (mxI (fun _ => (-1)) fm n) n n) j) fu i))), (m_kind, .inl (cI, 12, .inl (fun j => nI (Kd j)))), (m_toX, .inl (cI, 12, .inl (fun j => nI (X j)))), (m_toY, .inl (cI, 12, .inl (fun j => nI (Y j)))), (m_aside, .inl (cI, 12, .inl (mxI (fun _ => (-1)) fa i))), (m_retreats, .inl (cI, 12, .inl fr)), (m_moved, .inl (cI, 12, .inl (erM fa fr (mxI (fun _ => (-1)) fm n) n n)))] → va_S A s.heap H locs → W p l e (headSpec w_Mo_endRetreats ({ frames := 2, cells := 0, slots := 0, locals := 48 })).room s m ([.ref g0]).toArray below meth c H locs 0 0 (MQ below (va_Qv (fun _ : Unit => True) (fun _ t => tB D A [(g0, .inr (6, [.int co, .int (nI n), .ref m_sea, .ref m_center, .ref m_home, .ref m_borders, .int 3, .int mt, .ref m_owner, .ref m_units, .ref m_kind, .ref m_toX, .ref m_toY, .ref m_results, .ref m_known, .ref m_reached, .ref m_way, .ref m_aside, .ref m_origin, .ref m_retreats, .ref m_contested, .ref m_moved, .int msh, .ref m_past])), (m_center, .inl (cZ, 12, .inl (fun j => bI (Ce j)))), (m_home, .inl (cI, 12, .inl fh)), (m_owner, .inl (cI, 12, .inl (mxI (tkR Ce fw (mxI (fun j => if (erM fa fr (mxI (fun _ => (-1)) fm n) n n) j < 0 then fu j else (erM fa fr (mxI (fun _ => (-1)) fm n) n n) j) fu n)) fw n))), (m_units, .inl (cI, 12, .inl (mxI (fun j => if (erM fa fr (mxI (fun _ => (-1)) fm n) n n) j < 0 then fu j else (erM fa fr (mxI (fun _ => (-1)) fm n) n n) j) fu n))), (m_kind, .inl (cI, 12, .inl (fun j => nI (Kd j)))), (m_toX, .inl (cI, 12, .inl (fun j => nI (X j)))), (m_toY, .inl (cI, 12, .inl (fun j => nI (Y j)))), (m_aside, .inl (cI, 12, .inl (mxI (fun _ => (-1)) fa n))), (m_retreats, .inl (cI, 12, .inl fr)), (m_moved, .inl (cI, 12, .inl (erM fa fr (mxI (fun _ => (-1)) fm n) n n)))] t) A) ([.ref g0]).toArray s 0 0 A) (F0 m 141 ls []) := by
            intro k
            induction k with
            | zero =>
              intro i ls H locs hi hl hP hD hS
              have hie : i = n := by omega
              rw [hie] at hl hP hD
              refine lv_iload_n hx hb d_Mo_endRetreats_141 rfl (lv_at hl 0 rfl) ?_
              refine lv_aload_n hx hb d_Mo_endRetreats_142 rfl (lv_at hl 1 rfl) ?_
              refine va_get (D := D) (ci := 6) (v := .int (nI n)) (C := R_Mo) (T := T_Mo) (N := 24) hx hb hts hin_Mo hown hK hP 0 rfl rfl 1 (by decide) (hts _ wd_705) (fun _ h9 => h9) rfl d_Mo_endRetreats_143 ?_
              refine lv_icmp_ge (tgt := 192) hx hb d_Mo_endRetreats_146 (by decide) (fun _ => ?_) (fun h0 => absurd (Int32.le_refl _) h0)
              refine lv_aload_n hx hb d_Mo_endRetreats_192 rfl (lv_at hl 1 rfl) ?_
              have hPc := hP.sub (ws' := [(g0, .inr (6, [.int co, .int (nI n), .ref m_sea, .ref m_center, .ref m_home, .ref m_borders, .int mp, .int mt, .ref m_owner, .ref m_units, .ref m_kind, .ref m_toX, .ref m_toY, .ref m_results, .ref m_known, .ref m_reached, .ref m_way, .ref m_aside, .ref m_origin, .ref m_retreats, .ref m_contested, .ref m_moved, .int msh, .ref m_past])), (m_center, .inl (cZ, 12, .inl (fun j => bI (Ce j)))), (m_home, .inl (cI, 12, .inl fh)), (m_owner, .inl (cI, 12, .inl fw)), (m_units, .inl (cI, 12, .inl (mxI (fun j => if (erM fa fr (mxI (fun _ => (-1)) fm n) n n) j < 0 then fu j else (erM fa fr (mxI (fun _ => (-1)) fm n) n n) j) fu n))), (m_kind, .inl (cI, 12, .inl (fun j => nI (Kd j)))), (m_toX, .inl (cI, 12, .inl (fun j => nI (X j)))), (m_toY, .inl (cI, 12, .inl (fun j => nI (Y j))))]) [0, 1, 2, 3, 4, 5, 6, 7] rfl
              have hDc := hD.sub (ws' := [(g0, .inr (6, [.int co, .int (nI n), .ref m_sea, .ref m_center, .ref m_home, .ref m_borders, .int mp, .int mt, .ref m_owner, .ref m_units, .ref m_kind, .ref m_toX, .ref m_toY, .ref m_results, .ref m_known, .ref m_reached, .ref m_way, .ref m_aside, .ref m_origin, .ref m_retreats, .ref m_contested, .ref m_moved, .int msh, .ref m_past])), (m_center, .inl (cZ, 12, .inl (fun j => bI (Ce j)))), (m_home, .inl (cI, 12, .inl fh)), (m_owner, .inl (cI, 12, .inl fw)), (m_units, .inl (cI, 12, .inl (mxI (fun j => if (erM fa fr (mxI (fun _ => (-1)) fm n) n n) j < 0 then fu j else (erM fa fr (mxI (fun _ => (-1)) fm n) n n) j) fu n))), (m_kind, .inl (cI, 12, .inl (fun j => nI (Kd j)))), (m_toX, .inl (cI, 12, .inl (fun j => nI (X j)))), (m_toY, .inl (cI, 12, .inl (fun j => nI (Y j))))]) [0, 1, 2, 3, 4, 5, 6, 7] (by decide) rfl
              have hFc := va_free (wc := [(g0, .inr (6, [.int co, .int (nI n), .ref m_sea, .ref m_center, .ref m_home, .ref m_borders, .int mp, .int mt, .ref m_owner, .ref m_units, .ref m_kind, .ref m_toX, .ref m_toY, .ref m_results, .ref m_known, .ref m_reached, .ref m_way, .ref m_aside, .ref m_origin, .ref m_retreats, .ref m_contested, .ref m_moved, .int msh, .ref m_past])), (m_center, .inl (cZ, 12, .inl (fun j => bI (Ce j)))), (m_home, .inl (cI, 12, .inl fh)), (m_owner, .inl (cI, 12, .inl fw)), (m_units, .inl (cI, 12, .inl (mxI (fun j => if (erM fa fr (mxI (fun _ => (-1)) fm n) n n) j < 0 then fu j else (erM fa fr (mxI (fun _ => (-1)) fm n) n n) j) fu n))), (m_kind, .inl (cI, 12, .inl (fun j => nI (Kd j)))), (m_toX, .inl (cI, 12, .inl (fun j => nI (X j)))), (m_toY, .inl (cI, 12, .inl (fun j => nI (Y j))))]) hD hS hA [0, 1, 2, 3, 4, 5, 6, 7] rfl
              refine va_callv (va_runV (As := []) (rest := []) ⟨hx, hb, hml, hown, hts⟩ (c_Mo_endTurnB l D cI cZ cJ cS aT ceT H.size g0 m_sea m_center m_home m_borders m_owner m_units m_kind m_toX m_toY m_results m_known m_reached m_way m_aside m_origin m_retreats m_contested m_moved m_past n co mp mt msh Ce fh fw (mxI (fun j => if (erM fa fr (mxI (fun _ => (-1)) fm n) n n) j < 0 then fu j else (erM fa fr (mxI (fun _ => (-1)) fm n) n n) j) fu n) Kd X Y hKd hX9 hY9 hn hev hdu) (cwV 0 hts (tb_4 wd_937 wd_939 wp_68 wd_8 (tb_c wd_940)) rfl rfl rfl ⟨rfl, by decide, by decide, by decide +kernel⟩ ⟨Nat.le_of_ble_eq_true rfl, Nat.le_of_ble_eq_true rfl⟩) (tH_V hK hX (hS.2.1 aT hXl hXn) hPc hDc (q := 0) rfl rfl) rfl rfl hl.1 rfl (lv_room (Nat.le_of_ble_eq_true rfl)) d_Mo_endRetreats_193 ⟨Nat.le_of_ble_eq_true rfl, Nat.le_of_ble_eq_true rfl⟩) hS (fun q _ h => hFc q h) hFc (fun u t H1 locs ht hvm h9 hB hz1 hk1 hS => ?_)
              obtain ⟨hP1, hD1⟩ := hB
              rw [ht] at hP1
              obtain ⟨hP, hD⟩ := va_join (wr := [(m_aside, .inl (cI, 12, .inl (mxI (fun _ => (-1)) fa n))), (m_retreats, .inl (cI, 12, .inl fr)), (m_moved, .inl (cI, 12, .inl (erM fa fr (mxI (fun _ => (-1)) fm n) n n)))]) (w1 := [(g0, .inr (6, [.int co, .int (nI n), .ref m_sea, .ref m_center, .ref m_home, .ref m_borders, .int 3, .int mt, .ref m_owner, .ref m_units, .ref m_kind, .ref m_toX, .ref m_toY, .ref m_results, .ref m_known, .ref m_reached, .ref m_way, .ref m_aside, .ref m_origin, .ref m_retreats, .ref m_contested, .ref m_moved, .int msh, .ref m_past])), (m_center, .inl (cZ, 12, .inl (fun j => bI (Ce j)))), (m_home, .inl (cI, 12, .inl fh)), (m_owner, .inl (cI, 12, .inl (mxI (tkR Ce fw (mxI (fun j => if (erM fa fr (mxI (fun _ => (-1)) fm n) n n) j < 0 then fu j else (erM fa fr (mxI (fun _ => (-1)) fm n) n n) j) fu n)) fw n))), (m_units, .inl (cI, 12, .inl (mxI (fun j => if (erM fa fr (mxI (fun _ => (-1)) fm n) n n) j < 0 then fu j else (erM fa fr (mxI (fun _ => (-1)) fm n) n n) j) fu n))), (m_kind, .inl (cI, 12, .inl (fun j => nI (Kd j)))), (m_toX, .inl (cI, 12, .inl (fun j => nI (X j)))), (m_toY, .inl (cI, 12, .inl (fun j => nI (Y j))))]) hP hD [0, 1, 2, 3, 4, 5, 6, 7] [8, 9, 10] rfl rfl (by decide) (by decide) hk1 hFc hP1 hD1
              generalize H1 = H at hP hS ⊢
              have hP : va_P D vwCl [(m_aside, .inl (cI, 12, .inl (mxI (fun _ => (-1)) fa n))), (m_retreats, .inl (cI, 12, .inl fr)), (m_moved, .inl (cI, 12, .inl (erM fa fr (mxI (fun _ => (-1)) fm n) n n))), (g0, .inr (6, [.int co, .int (nI n), .ref m_sea, .ref m_center, .ref m_home, .ref m_borders, .int 3, .int mt, .ref m_owner, .ref m_units, .ref m_kind, .ref m_toX, .ref m_toY, .ref m_results, .ref m_known, .ref m_reached, .ref m_way, .ref m_aside, .ref m_origin, .ref m_retreats, .ref m_contested, .ref m_moved, .int msh, .ref m_past])), (m_center, .inl (cZ, 12, .inl (fun j => bI (Ce j)))), (m_home, .inl (cI, 12, .inl fh)), (m_owner, .inl (cI, 12, .inl (mxI (tkR Ce fw (mxI (fun j => if (erM fa fr (mxI (fun _ => (-1)) fm n) n n) j < 0 then fu j else (erM fa fr (mxI (fun _ => (-1)) fm n) n n) j) fu n)) fw n))), (m_units, .inl (cI, 12, .inl (mxI (fun j => if (erM fa fr (mxI (fun _ => (-1)) fm n) n n) j < 0 then fu j else (erM fa fr (mxI (fun _ => (-1)) fm n) n n) j) fu n))), (m_kind, .inl (cI, 12, .inl (fun j => nI (Kd j)))), (m_toX, .inl (cI, 12, .inl (fun j => nI (X j)))), (m_toY, .inl (cI, 12, .inl (fun j => nI (Y j))))] H := hP
              have hD : va_D A [(m_aside, .inl (cI, 12, .inl (mxI (fun _ => (-1)) fa n))), (m_retreats, .inl (cI, 12, .inl fr)), (m_moved, .inl (cI, 12, .inl (erM fa fr (mxI (fun _ => (-1)) fm n) n n))), (g0, .inr (6, [.int co, .int (nI n), .ref m_sea, .ref m_center, .ref m_home, .ref m_borders, .int 3, .int mt, .ref m_owner, .ref m_units, .ref m_kind, .ref m_toX, .ref m_toY, .ref m_results, .ref m_known, .ref m_reached, .ref m_way, .ref m_aside, .ref m_origin, .ref m_retreats, .ref m_contested, .ref m_moved, .int msh, .ref m_past])), (m_center, .inl (cZ, 12, .inl (fun j => bI (Ce j)))), (m_home, .inl (cI, 12, .inl fh)), (m_owner, .inl (cI, 12, .inl (mxI (tkR Ce fw (mxI (fun j => if (erM fa fr (mxI (fun _ => (-1)) fm n) n n) j < 0 then fu j else (erM fa fr (mxI (fun _ => (-1)) fm n) n n) j) fu n)) fw n))), (m_units, .inl (cI, 12, .inl (mxI (fun j => if (erM fa fr (mxI (fun _ => (-1)) fm n) n n) j < 0 then fu j else (erM fa fr (mxI (fun _ => (-1)) fm n) n n) j) fu n))), (m_kind, .inl (cI, 12, .inl (fun j => nI (Kd j)))), (m_toX, .inl (cI, 12, .inl (fun j => nI (X j)))), (m_toY, .inl (cI, 12, .inl (fun j => nI (Y j))))] := hD
              have hP9 := hP.sub (ws' := [(g0, .inr (6, [.int co, .int (nI n), .ref m_sea, .ref m_center, .ref m_home, .ref m_borders, .int 3, .int mt, .ref m_owner, .ref m_units, .ref m_kind, .ref m_toX, .ref m_toY, .ref m_results, .ref m_known, .ref m_reached, .ref m_way, .ref m_aside, .ref m_origin, .ref m_retreats, .ref m_contested, .ref m_moved, .int msh, .ref m_past])), (m_center, .inl (cZ, 12, .inl (fun j => bI (Ce j)))), (m_home, .inl (cI, 12, .inl fh)), (m_owner, .inl (cI, 12, .inl (mxI (tkR Ce fw (mxI (fun j => if (erM fa fr (mxI (fun _ => (-1)) fm n) n n) j < 0 then fu j else (erM fa fr (mxI (fun _ => (-1)) fm n) n n) j) fu n)) fw n))), (m_units, .inl (cI, 12, .inl (mxI (fun j => if (erM fa fr (mxI (fun _ => (-1)) fm n) n n) j < 0 then fu j else (erM fa fr (mxI (fun _ => (-1)) fm n) n n) j) fu n))), (m_kind, .inl (cI, 12, .inl (fun j => nI (Kd j)))), (m_toX, .inl (cI, 12, .inl (fun j => nI (X j)))), (m_toY, .inl (cI, 12, .inl (fun j => nI (Y j)))), (m_aside, .inl (cI, 12, .inl (mxI (fun _ => (-1)) fa n))), (m_retreats, .inl (cI, 12, .inl fr)), (m_moved, .inl (cI, 12, .inl (erM fa fr (mxI (fun _ => (-1)) fm n) n n)))]) [3, 4, 5, 6, 7, 8, 9, 10, 0, 1, 2] rfl
              have hD9 := hD.sub (ws' := [(g0, .inr (6, [.int co, .int (nI n), .ref m_sea, .ref m_center, .ref m_home, .ref m_borders, .int 3, .int mt, .ref m_owner, .ref m_units, .ref m_kind, .ref m_toX, .ref m_toY, .ref m_results, .ref m_known, .ref m_reached, .ref m_way, .ref m_aside, .ref m_origin, .ref m_retreats, .ref m_contested, .ref m_moved, .int msh, .ref m_past])), (m_center, .inl (cZ, 12, .inl (fun j => bI (Ce j)))), (m_home, .inl (cI, 12, .inl fh)), (m_owner, .inl (cI, 12, .inl (mxI (tkR Ce fw (mxI (fun j => if (erM fa fr (mxI (fun _ => (-1)) fm n) n n) j < 0 then fu j else (erM fa fr (mxI (fun _ => (-1)) fm n) n n) j) fu n)) fw n))), (m_units, .inl (cI, 12, .inl (mxI (fun j => if (erM fa fr (mxI (fun _ => (-1)) fm n) n n) j < 0 then fu j else (erM fa fr (mxI (fun _ => (-1)) fm n) n n) j) fu n))), (m_kind, .inl (cI, 12, .inl (fun j => nI (Kd j)))), (m_toX, .inl (cI, 12, .inl (fun j => nI (X j)))), (m_toY, .inl (cI, 12, .inl (fun j => nI (Y j)))), (m_aside, .inl (cI, 12, .inl (mxI (fun _ => (-1)) fa n))), (m_retreats, .inl (cI, 12, .inl fr)), (m_moved, .inl (cI, 12, .inl (erM fa fr (mxI (fun _ => (-1)) fm n) n n)))]) [3, 4, 5, 6, 7, 8, 9, 10, 0, 1, 2] (by decide) rfl
              exact W.vret hx hb hr (fun t ht hW => ⟨⟨(), rfl, trivial, by rw [ht]; exact hP9, hD9⟩, hS.F ht⟩) hS.2.2 d_Mo_endRetreats_196
            | succ k ih =>
              intro i ls H locs hi hl hP hD hS
              have hlt : i < n := by omega
              have hlt12 : i < 12 := by omega
              refine lv_iload_n hx hb d_Mo_endRetreats_141 rfl (lv_at hl 0 rfl) ?_
              refine lv_aload_n hx hb d_Mo_endRetreats_142 rfl (lv_at hl 1 rfl) ?_
              refine va_get (D := D) (ci := 6) (v := .int (nI n)) (C := R_Mo) (T := T_Mo) (N := 24) hx hb hts hin_Mo hown hK hP 0 rfl rfl 1 (by decide) (hts _ wd_705) (fun _ h9 => h9) rfl d_Mo_endRetreats_143 ?_
              refine lv_icmp_ge (tgt := 192) hx hb d_Mo_endRetreats_146 (by decide) (fun h0 => absurd h0 (nI_ge hlt (by omega))) (fun _ => ?_)
              refine lv_aload_n hx hb d_Mo_endRetreats_149 rfl (lv_at hl 1 rfl) ?_
              refine va_get (D := D) (ci := 6) (v := .ref m_units) (C := R_Mo) (T := T_Mo) (N := 24) hx hb hts hin_Mo hown hK hP 0 rfl rfl 9 (by decide) (hts _ wd_713) (fun _ h9 => h9) rfl d_Mo_endRetreats_150 ?_
              refine lv_iload_n hx hb d_Mo_endRetreats_153 rfl (lv_at hl 0 rfl) ?_
              refine lv_aload_n hx hb d_Mo_endRetreats_154 rfl (lv_at hl 1 rfl) ?_
              refine va_get (D := D) (ci := 6) (v := .ref m_moved) (C := R_Mo) (T := T_Mo) (N := 24) hx hb hts hin_Mo hown hK hP 0 rfl rfl 21 (by decide) (hts _ wd_725) (fun _ h9 => h9) rfl d_Mo_endRetreats_155 ?_
              refine lv_iload_n hx hb d_Mo_endRetreats_158 rfl (lv_at hl 0 rfl) ?_
              refine tr_iald (v := (erM fa fr (mxI (fun _ => (-1)) fm n) n n) i) hx hb hK hP 10 0 rfl rfl i hlt12 (by decide) rfl d_Mo_endRetreats_159 ?_
              refine lv_if_lt (tgt := 172) hx hb d_Mo_endRetreats_160 (by decide) (fun hc5 => ?_) (fun hc5 => ?_)
              · -- 160 taken
                refine lv_aload_n hx hb d_Mo_endRetreats_172 rfl (lv_at hl 1 rfl) ?_
                refine va_get (D := D) (ci := 6) (v := .ref m_units) (C := R_Mo) (T := T_Mo) (N := 24) hx hb hts hin_Mo hown hK hP 0 rfl rfl 9 (by decide) (hts _ wd_713) (fun _ h9 => h9) rfl d_Mo_endRetreats_173 ?_
                refine lv_iload_n hx hb d_Mo_endRetreats_176 rfl (lv_at hl 0 rfl) ?_
                refine tr_iald (v := (mxI (fun j => if (erM fa fr (mxI (fun _ => (-1)) fm n) n n) j < 0 then fu j else (erM fa fr (mxI (fun _ => (-1)) fm n) n n) j) fu i) i) hx hb hK hP 4 0 rfl rfl i hlt12 (by decide) rfl d_Mo_endRetreats_177 ?_
                refine tr_iast (g := upd (mxI (fun j => if (erM fa fr (mxI (fun _ => (-1)) fm n) n n) j < 0 then fu j else (erM fa fr (mxI (fun _ => (-1)) fm n) n n) j) fu i) i ((mxI (fun j => if (erM fa fr (mxI (fun _ => (-1)) fm n) n n) j < 0 then fu j else (erM fa fr (mxI (fun _ => (-1)) fm n) n n) j) fu i) i)) hx hb hK hP hD hS 4 0 rfl rfl i hlt12 (by decide) rfl d_Mo_endRetreats_178 (fun H locs hP hD hS => ?_)
                have hP : va_P D vwCl [(g0, .inr (6, [.int co, .int (nI n), .ref m_sea, .ref m_center, .ref m_home, .ref m_borders, .int mp, .int mt, .ref m_owner, .ref m_units, .ref m_kind, .ref m_toX, .ref m_toY, .ref m_results, .ref m_known, .ref m_reached, .ref m_way, .ref m_aside, .ref m_origin, .ref m_retreats, .ref m_contested, .ref m_moved, .int msh, .ref m_past])), (m_center, .inl (cZ, 12, .inl (fun j => bI (Ce j)))), (m_home, .inl (cI, 12, .inl fh)), (m_owner, .inl (cI, 12, .inl fw)), (m_units, .inl (cI, 12, .inl (upd (mxI (fun j => if (erM fa fr (mxI (fun _ => (-1)) fm n) n n) j < 0 then fu j else (erM fa fr (mxI (fun _ => (-1)) fm n) n n) j) fu i) i ((mxI (fun j => if (erM fa fr (mxI (fun _ => (-1)) fm n) n n) j < 0 then fu j else (erM fa fr (mxI (fun _ => (-1)) fm n) n n) j) fu i) i)))), (m_kind, .inl (cI, 12, .inl (fun j => nI (Kd j)))), (m_toX, .inl (cI, 12, .inl (fun j => nI (X j)))), (m_toY, .inl (cI, 12, .inl (fun j => nI (Y j)))), (m_aside, .inl (cI, 12, .inl (mxI (fun _ => (-1)) fa i))), (m_retreats, .inl (cI, 12, .inl fr)), (m_moved, .inl (cI, 12, .inl (erM fa fr (mxI (fun _ => (-1)) fm n) n n)))] H := hP
                have hD : va_D A [(g0, .inr (6, [.int co, .int (nI n), .ref m_sea, .ref m_center, .ref m_home, .ref m_borders, .int mp, .int mt, .ref m_owner, .ref m_units, .ref m_kind, .ref m_toX, .ref m_toY, .ref m_results, .ref m_known, .ref m_reached, .ref m_way, .ref m_aside, .ref m_origin, .ref m_retreats, .ref m_contested, .ref m_moved, .int msh, .ref m_past])), (m_center, .inl (cZ, 12, .inl (fun j => bI (Ce j)))), (m_home, .inl (cI, 12, .inl fh)), (m_owner, .inl (cI, 12, .inl fw)), (m_units, .inl (cI, 12, .inl (upd (mxI (fun j => if (erM fa fr (mxI (fun _ => (-1)) fm n) n n) j < 0 then fu j else (erM fa fr (mxI (fun _ => (-1)) fm n) n n) j) fu i) i ((mxI (fun j => if (erM fa fr (mxI (fun _ => (-1)) fm n) n n) j < 0 then fu j else (erM fa fr (mxI (fun _ => (-1)) fm n) n n) j) fu i) i)))), (m_kind, .inl (cI, 12, .inl (fun j => nI (Kd j)))), (m_toX, .inl (cI, 12, .inl (fun j => nI (X j)))), (m_toY, .inl (cI, 12, .inl (fun j => nI (Y j)))), (m_aside, .inl (cI, 12, .inl (mxI (fun _ => (-1)) fa i))), (m_retreats, .inl (cI, 12, .inl fr)), (m_moved, .inl (cI, 12, .inl (erM fa fr (mxI (fun _ => (-1)) fm n) n n)))] := hD
                refine lv_aload_n hx hb d_Mo_endRetreats_179 rfl (lv_at hl 1 rfl) ?_
                refine va_get (D := D) (ci := 6) (v := .ref m_aside) (C := R_Mo) (T := T_Mo) (N := 24) hx hb hts hin_Mo hown hK hP 0 rfl rfl 17 (by decide) (hts _ wd_721) (fun _ h9 => h9) rfl d_Mo_endRetreats_180 ?_
                refine lv_iload_n hx hb d_Mo_endRetreats_183 rfl (lv_at hl 0 rfl) ?_
                refine lv_iconst (v := (-1)) hx hb d_Mo_endRetreats_184 (by decide) ?_
                refine tr_iast (g := upd (mxI (fun _ => (-1)) fa i) i (-1)) hx hb hK hP hD hS 8 0 rfl rfl i hlt12 (by decide) rfl d_Mo_endRetreats_185 (fun H locs hP hD hS => ?_)
                have hP : va_P D vwCl [(g0, .inr (6, [.int co, .int (nI n), .ref m_sea, .ref m_center, .ref m_home, .ref m_borders, .int mp, .int mt, .ref m_owner, .ref m_units, .ref m_kind, .ref m_toX, .ref m_toY, .ref m_results, .ref m_known, .ref m_reached, .ref m_way, .ref m_aside, .ref m_origin, .ref m_retreats, .ref m_contested, .ref m_moved, .int msh, .ref m_past])), (m_center, .inl (cZ, 12, .inl (fun j => bI (Ce j)))), (m_home, .inl (cI, 12, .inl fh)), (m_owner, .inl (cI, 12, .inl fw)), (m_units, .inl (cI, 12, .inl (upd (mxI (fun j => if (erM fa fr (mxI (fun _ => (-1)) fm n) n n) j < 0 then fu j else (erM fa fr (mxI (fun _ => (-1)) fm n) n n) j) fu i) i ((mxI (fun j => if (erM fa fr (mxI (fun _ => (-1)) fm n) n n) j < 0 then fu j else (erM fa fr (mxI (fun _ => (-1)) fm n) n n) j) fu i) i)))), (m_kind, .inl (cI, 12, .inl (fun j => nI (Kd j)))), (m_toX, .inl (cI, 12, .inl (fun j => nI (X j)))), (m_toY, .inl (cI, 12, .inl (fun j => nI (Y j)))), (m_aside, .inl (cI, 12, .inl (upd (mxI (fun _ => (-1)) fa i) i (-1)))), (m_retreats, .inl (cI, 12, .inl fr)), (m_moved, .inl (cI, 12, .inl (erM fa fr (mxI (fun _ => (-1)) fm n) n n)))] H := hP
                have hD : va_D A [(g0, .inr (6, [.int co, .int (nI n), .ref m_sea, .ref m_center, .ref m_home, .ref m_borders, .int mp, .int mt, .ref m_owner, .ref m_units, .ref m_kind, .ref m_toX, .ref m_toY, .ref m_results, .ref m_known, .ref m_reached, .ref m_way, .ref m_aside, .ref m_origin, .ref m_retreats, .ref m_contested, .ref m_moved, .int msh, .ref m_past])), (m_center, .inl (cZ, 12, .inl (fun j => bI (Ce j)))), (m_home, .inl (cI, 12, .inl fh)), (m_owner, .inl (cI, 12, .inl fw)), (m_units, .inl (cI, 12, .inl (upd (mxI (fun j => if (erM fa fr (mxI (fun _ => (-1)) fm n) n n) j < 0 then fu j else (erM fa fr (mxI (fun _ => (-1)) fm n) n n) j) fu i) i ((mxI (fun j => if (erM fa fr (mxI (fun _ => (-1)) fm n) n n) j < 0 then fu j else (erM fa fr (mxI (fun _ => (-1)) fm n) n n) j) fu i) i)))), (m_kind, .inl (cI, 12, .inl (fun j => nI (Kd j)))), (m_toX, .inl (cI, 12, .inl (fun j => nI (X j)))), (m_toY, .inl (cI, 12, .inl (fun j => nI (Y j)))), (m_aside, .inl (cI, 12, .inl (upd (mxI (fun _ => (-1)) fa i) i (-1)))), (m_retreats, .inl (cI, 12, .inl fr)), (m_moved, .inl (cI, 12, .inl (erM fa fr (mxI (fun _ => (-1)) fm n) n n)))] := hD
                refine lv_iinc (lv' := [(1, .int ((nI i) + 1)), (0, .ref g0)]) hx hb d_Mo_endRetreats_186 hl (k := 0) rfl rfl (by decide) rfl (fun ls hl => ?_)
                refine lv_goto (tgt := 141) hx hb d_Mo_endRetreats_189 (by decide) ?_
                have e6 : (nI i) + 1 = nI (i + 1) := nI_1 i
                have eo7 : (upd (mxI (fun j => if (erM fa fr (mxI (fun _ => (-1)) fm n) n n) j < 0 then fu j else (erM fa fr (mxI (fun _ => (-1)) fm n) n n) j) fu i) i ((mxI (fun j => if (erM fa fr (mxI (fun _ => (-1)) fm n) n n) j < 0 then fu j else (erM fa fr (mxI (fun _ => (-1)) fm n) n n) j) fu i) i)) = (mxI (fun j => if (erM fa fr (mxI (fun _ => (-1)) fm n) n n) j < 0 then fu j else (erM fa fr (mxI (fun _ => (-1)) fm n) n n) j) fu (i + 1)) := mxI_s (by simp [mxI_at, hc5])
                have eo8 : (upd (mxI (fun _ => (-1)) fa i) i (-1)) = (mxI (fun _ => (-1)) fa (i + 1)) := mxI_s rfl
                exact ih (i + 1) ls H locs (by omega) (by rw [← e6]; exact lv_sub hl [0, 1] rfl) (by rw [← eo7, ← eo8]; exact hP) (by rw [← eo7, ← eo8]; exact hD) hS
              · -- 160 not taken
                refine lv_aload_n hx hb d_Mo_endRetreats_163 rfl (lv_at hl 1 rfl) ?_
                refine va_get (D := D) (ci := 6) (v := .ref m_moved) (C := R_Mo) (T := T_Mo) (N := 24) hx hb hts hin_Mo hown hK hP 0 rfl rfl 21 (by decide) (hts _ wd_725) (fun _ h9 => h9) rfl d_Mo_endRetreats_164 ?_
                refine lv_iload_n hx hb d_Mo_endRetreats_167 rfl (lv_at hl 0 rfl) ?_
                refine tr_iald (v := (erM fa fr (mxI (fun _ => (-1)) fm n) n n) i) hx hb hK hP 10 0 rfl rfl i hlt12 (by decide) rfl d_Mo_endRetreats_168 ?_
                refine lv_goto (tgt := 178) hx hb d_Mo_endRetreats_169 (by decide) ?_
                refine tr_iast (g := upd (mxI (fun j => if (erM fa fr (mxI (fun _ => (-1)) fm n) n n) j < 0 then fu j else (erM fa fr (mxI (fun _ => (-1)) fm n) n n) j) fu i) i ((erM fa fr (mxI (fun _ => (-1)) fm n) n n) i)) hx hb hK hP hD hS 4 0 rfl rfl i hlt12 (by decide) rfl d_Mo_endRetreats_178 (fun H locs hP hD hS => ?_)
                have hP : va_P D vwCl [(g0, .inr (6, [.int co, .int (nI n), .ref m_sea, .ref m_center, .ref m_home, .ref m_borders, .int mp, .int mt, .ref m_owner, .ref m_units, .ref m_kind, .ref m_toX, .ref m_toY, .ref m_results, .ref m_known, .ref m_reached, .ref m_way, .ref m_aside, .ref m_origin, .ref m_retreats, .ref m_contested, .ref m_moved, .int msh, .ref m_past])), (m_center, .inl (cZ, 12, .inl (fun j => bI (Ce j)))), (m_home, .inl (cI, 12, .inl fh)), (m_owner, .inl (cI, 12, .inl fw)), (m_units, .inl (cI, 12, .inl (upd (mxI (fun j => if (erM fa fr (mxI (fun _ => (-1)) fm n) n n) j < 0 then fu j else (erM fa fr (mxI (fun _ => (-1)) fm n) n n) j) fu i) i ((erM fa fr (mxI (fun _ => (-1)) fm n) n n) i)))), (m_kind, .inl (cI, 12, .inl (fun j => nI (Kd j)))), (m_toX, .inl (cI, 12, .inl (fun j => nI (X j)))), (m_toY, .inl (cI, 12, .inl (fun j => nI (Y j)))), (m_aside, .inl (cI, 12, .inl (mxI (fun _ => (-1)) fa i))), (m_retreats, .inl (cI, 12, .inl fr)), (m_moved, .inl (cI, 12, .inl (erM fa fr (mxI (fun _ => (-1)) fm n) n n)))] H := hP
                have hD : va_D A [(g0, .inr (6, [.int co, .int (nI n), .ref m_sea, .ref m_center, .ref m_home, .ref m_borders, .int mp, .int mt, .ref m_owner, .ref m_units, .ref m_kind, .ref m_toX, .ref m_toY, .ref m_results, .ref m_known, .ref m_reached, .ref m_way, .ref m_aside, .ref m_origin, .ref m_retreats, .ref m_contested, .ref m_moved, .int msh, .ref m_past])), (m_center, .inl (cZ, 12, .inl (fun j => bI (Ce j)))), (m_home, .inl (cI, 12, .inl fh)), (m_owner, .inl (cI, 12, .inl fw)), (m_units, .inl (cI, 12, .inl (upd (mxI (fun j => if (erM fa fr (mxI (fun _ => (-1)) fm n) n n) j < 0 then fu j else (erM fa fr (mxI (fun _ => (-1)) fm n) n n) j) fu i) i ((erM fa fr (mxI (fun _ => (-1)) fm n) n n) i)))), (m_kind, .inl (cI, 12, .inl (fun j => nI (Kd j)))), (m_toX, .inl (cI, 12, .inl (fun j => nI (X j)))), (m_toY, .inl (cI, 12, .inl (fun j => nI (Y j)))), (m_aside, .inl (cI, 12, .inl (mxI (fun _ => (-1)) fa i))), (m_retreats, .inl (cI, 12, .inl fr)), (m_moved, .inl (cI, 12, .inl (erM fa fr (mxI (fun _ => (-1)) fm n) n n)))] := hD
                refine lv_aload_n hx hb d_Mo_endRetreats_179 rfl (lv_at hl 1 rfl) ?_
                refine va_get (D := D) (ci := 6) (v := .ref m_aside) (C := R_Mo) (T := T_Mo) (N := 24) hx hb hts hin_Mo hown hK hP 0 rfl rfl 17 (by decide) (hts _ wd_721) (fun _ h9 => h9) rfl d_Mo_endRetreats_180 ?_
                refine lv_iload_n hx hb d_Mo_endRetreats_183 rfl (lv_at hl 0 rfl) ?_
                refine lv_iconst (v := (-1)) hx hb d_Mo_endRetreats_184 (by decide) ?_
                refine tr_iast (g := upd (mxI (fun _ => (-1)) fa i) i (-1)) hx hb hK hP hD hS 8 0 rfl rfl i hlt12 (by decide) rfl d_Mo_endRetreats_185 (fun H locs hP hD hS => ?_)
                have hP : va_P D vwCl [(g0, .inr (6, [.int co, .int (nI n), .ref m_sea, .ref m_center, .ref m_home, .ref m_borders, .int mp, .int mt, .ref m_owner, .ref m_units, .ref m_kind, .ref m_toX, .ref m_toY, .ref m_results, .ref m_known, .ref m_reached, .ref m_way, .ref m_aside, .ref m_origin, .ref m_retreats, .ref m_contested, .ref m_moved, .int msh, .ref m_past])), (m_center, .inl (cZ, 12, .inl (fun j => bI (Ce j)))), (m_home, .inl (cI, 12, .inl fh)), (m_owner, .inl (cI, 12, .inl fw)), (m_units, .inl (cI, 12, .inl (upd (mxI (fun j => if (erM fa fr (mxI (fun _ => (-1)) fm n) n n) j < 0 then fu j else (erM fa fr (mxI (fun _ => (-1)) fm n) n n) j) fu i) i ((erM fa fr (mxI (fun _ => (-1)) fm n) n n) i)))), (m_kind, .inl (cI, 12, .inl (fun j => nI (Kd j)))), (m_toX, .inl (cI, 12, .inl (fun j => nI (X j)))), (m_toY, .inl (cI, 12, .inl (fun j => nI (Y j)))), (m_aside, .inl (cI, 12, .inl (upd (mxI (fun _ => (-1)) fa i) i (-1)))), (m_retreats, .inl (cI, 12, .inl fr)), (m_moved, .inl (cI, 12, .inl (erM fa fr (mxI (fun _ => (-1)) fm n) n n)))] H := hP
                have hD : va_D A [(g0, .inr (6, [.int co, .int (nI n), .ref m_sea, .ref m_center, .ref m_home, .ref m_borders, .int mp, .int mt, .ref m_owner, .ref m_units, .ref m_kind, .ref m_toX, .ref m_toY, .ref m_results, .ref m_known, .ref m_reached, .ref m_way, .ref m_aside, .ref m_origin, .ref m_retreats, .ref m_contested, .ref m_moved, .int msh, .ref m_past])), (m_center, .inl (cZ, 12, .inl (fun j => bI (Ce j)))), (m_home, .inl (cI, 12, .inl fh)), (m_owner, .inl (cI, 12, .inl fw)), (m_units, .inl (cI, 12, .inl (upd (mxI (fun j => if (erM fa fr (mxI (fun _ => (-1)) fm n) n n) j < 0 then fu j else (erM fa fr (mxI (fun _ => (-1)) fm n) n n) j) fu i) i ((erM fa fr (mxI (fun _ => (-1)) fm n) n n) i)))), (m_kind, .inl (cI, 12, .inl (fun j => nI (Kd j)))), (m_toX, .inl (cI, 12, .inl (fun j => nI (X j)))), (m_toY, .inl (cI, 12, .inl (fun j => nI (Y j)))), (m_aside, .inl (cI, 12, .inl (upd (mxI (fun _ => (-1)) fa i) i (-1)))), (m_retreats, .inl (cI, 12, .inl fr)), (m_moved, .inl (cI, 12, .inl (erM fa fr (mxI (fun _ => (-1)) fm n) n n)))] := hD
                refine lv_iinc (lv' := [(1, .int ((nI i) + 1)), (0, .ref g0)]) hx hb d_Mo_endRetreats_186 hl (k := 0) rfl rfl (by decide) rfl (fun ls hl => ?_)
                refine lv_goto (tgt := 141) hx hb d_Mo_endRetreats_189 (by decide) ?_
                have e9 : (nI i) + 1 = nI (i + 1) := nI_1 i
                have eo10 : (upd (mxI (fun j => if (erM fa fr (mxI (fun _ => (-1)) fm n) n n) j < 0 then fu j else (erM fa fr (mxI (fun _ => (-1)) fm n) n n) j) fu i) i ((erM fa fr (mxI (fun _ => (-1)) fm n) n n) i)) = (mxI (fun j => if (erM fa fr (mxI (fun _ => (-1)) fm n) n n) j < 0 then fu j else (erM fa fr (mxI (fun _ => (-1)) fm n) n n) j) fu (i + 1)) := mxI_s (by simp [mxI_at, hc5])
                have eo11 : (upd (mxI (fun _ => (-1)) fa i) i (-1)) = (mxI (fun _ => (-1)) fa (i + 1)) := mxI_s rfl
                exact ih (i + 1) ls H locs (by omega) (by rw [← e9]; exact lv_sub hl [0, 1] rfl) (by rw [← eo10, ← eo11]; exact hP) (by rw [← eo10, ← eo11]; exact hD) hS
          have ei12 : (mxI (fun j => if (erM fa fr (mxI (fun _ => (-1)) fm n) n n) j < 0 then fu j else (erM fa fr (mxI (fun _ => (-1)) fm n) n n) j) fu 0) = (fu) := mxI_0 _ _
          have ei13 : (mxI (fun _ => (-1)) fa 0) = (fa) := mxI_0 _ _
          exact loop3 n 0 ls _ _ (Nat.zero_add _) hl (by rw [ei12, ei13]; exact hP) (by rw [ei12, ei13]; exact hD) hS
        | succ k ih =>
          intro i ls H locs hi hl hP hD hS
          have hlt : i < n := by omega
          have hlt12 : i < 12 := by omega
          refine lv_iload_n hx hb d_Mo_endRetreats_25 rfl (lv_at hl 0 rfl) ?_
          refine lv_aload_n hx hb d_Mo_endRetreats_26 rfl (lv_at hl 1 rfl) ?_
          refine va_get (D := D) (ci := 6) (v := .int (nI n)) (C := R_Mo) (T := T_Mo) (N := 24) hx hb hts hin_Mo hown hK hP 0 rfl rfl 1 (by decide) (hts _ wd_705) (fun _ h9 => h9) rfl d_Mo_endRetreats_27 ?_
          refine lv_icmp_ge (tgt := 139) hx hb d_Mo_endRetreats_30 (by decide) (fun h0 => absurd h0 (nI_ge hlt (by omega))) (fun _ => ?_)
          refine lv_aload_n hx hb d_Mo_endRetreats_33 rfl (lv_at hl 1 rfl) ?_
          refine va_get (D := D) (ci := 6) (v := .ref m_aside) (C := R_Mo) (T := T_Mo) (N := 24) hx hb hts hin_Mo hown hK hP 0 rfl rfl 17 (by decide) (hts _ wd_721) (fun _ h9 => h9) rfl d_Mo_endRetreats_34 ?_
          refine lv_iload_n hx hb d_Mo_endRetreats_37 rfl (lv_at hl 0 rfl) ?_
          refine tr_iald (v := fa i) hx hb hK hP 8 0 rfl rfl i hlt12 (by decide) rfl d_Mo_endRetreats_38 ?_
          refine lv_if_lt (tgt := 55) hx hb d_Mo_endRetreats_39 (by decide) (fun hc15 => ?_) (fun hc15 => ?_)
          · -- 39 taken
            refine lv_iconst (v := 0) hx hb d_Mo_endRetreats_55 (by decide) ?_
            refine lv_istore_n (lv' := [(2, .int 0), (1, .int (nI i)), (0, .ref g0)]) hx hb d_Mo_endRetreats_56 rfl hl (by decide) rfl (fun ls hl => ?_)
            refine lv_iconst (v := 0) hx hb d_Mo_endRetreats_57 (by decide) ?_
            refine lv_istore_n (lv' := [(3, .int 0), (2, .int 0), (1, .int (nI i)), (0, .ref g0)]) hx hb d_Mo_endRetreats_58 rfl hl (by decide) rfl (fun ls hl => ?_)
            have nloop : ∀ (k9 i9 : Nat) (ls : Array Slot), i9 + k9 = n → lv_has ls 4 [(3, .int (nI i9)), (2, .int 0), (1, .int (nI i)), (0, .ref g0)] → W p l e (headSpec w_Mo_endRetreats ({ frames := 2, cells := 0, slots := 0, locals := 48 })).room s m ([.ref g0]).toArray below meth c H locs 0 0 (MQ below (va_Qv (fun _ : Unit => True) (fun _ t => tB D A [(g0, .inr (6, [.int co, .int (nI n), .ref m_sea, .ref m_center, .ref m_home, .ref m_borders, .int 3, .int mt, .ref m_owner, .ref m_units, .ref m_kind, .ref m_toX, .ref m_toY, .ref m_results, .ref m_known, .ref m_reached, .ref m_way, .ref m_aside, .ref m_origin, .ref m_retreats, .ref m_contested, .ref m_moved, .int msh, .ref m_past])), (m_center, .inl (cZ, 12, .inl (fun j => bI (Ce j)))), (m_home, .inl (cI, 12, .inl fh)), (m_owner, .inl (cI, 12, .inl (mxI (tkR Ce fw (mxI (fun j => if (erM fa fr (mxI (fun _ => (-1)) fm n) n n) j < 0 then fu j else (erM fa fr (mxI (fun _ => (-1)) fm n) n n) j) fu n)) fw n))), (m_units, .inl (cI, 12, .inl (mxI (fun j => if (erM fa fr (mxI (fun _ => (-1)) fm n) n n) j < 0 then fu j else (erM fa fr (mxI (fun _ => (-1)) fm n) n n) j) fu n))), (m_kind, .inl (cI, 12, .inl (fun j => nI (Kd j)))), (m_toX, .inl (cI, 12, .inl (fun j => nI (X j)))), (m_toY, .inl (cI, 12, .inl (fun j => nI (Y j)))), (m_aside, .inl (cI, 12, .inl (mxI (fun _ => (-1)) fa n))), (m_retreats, .inl (cI, 12, .inl fr)), (m_moved, .inl (cI, 12, .inl (erM fa fr (mxI (fun _ => (-1)) fm n) n n)))] t) A) ([.ref g0]).toArray s 0 0 A) (F0 m 59 ls []) := by
              intro k9
              induction k9 with
              | zero =>
                intro i9 ls hi9 hl
                have hie9 : i9 = n := by omega
                rw [hie9] at hl
                refine lv_iload_n hx hb d_Mo_endRetreats_59 rfl (lv_at hl 0 rfl) ?_
                refine lv_aload_n hx hb d_Mo_endRetreats_60 rfl (lv_at hl 3 rfl) ?_
                refine va_get (D := D) (ci := 6) (v := .int (nI n)) (C := R_Mo) (T := T_Mo) (N := 24) hx hb hts hin_Mo hown hK hP 0 rfl rfl 1 (by decide) (hts _ wd_705) (fun _ h9 => h9) rfl d_Mo_endRetreats_61 ?_
                refine lv_icmp_ge (tgt := 112) hx hb d_Mo_endRetreats_64 (by decide) (fun _ => ?_) (fun h0 => absurd (Int32.le_refl _) h0)
                refine lv_iload_n hx hb d_Mo_endRetreats_112 rfl (lv_at hl 1 rfl) ?_
                refine lv_if_eq (tgt := 133) hx hb d_Mo_endRetreats_113 (by decide) (fun _ => ?_) (fun h0 => absurd (by decide) h0)
                refine lv_iinc (lv' := [(1, .int ((nI i) + 1)), (3, .int (nI n)), (2, .int 0), (0, .ref g0)]) hx hb d_Mo_endRetreats_133 hl (k := 2) rfl rfl (by decide) rfl (fun ls hl => ?_)
                refine lv_goto (tgt := 25) hx hb d_Mo_endRetreats_136 (by decide) ?_
                have e18 : (nI i) + 1 = nI (i + 1) := nI_1 i
                have eo19 : (erM fa fr (mxI (fun _ => (-1)) fm n) n i) = (erM fa fr (mxI (fun _ => (-1)) fm n) n (i + 1)) := erM_n (by simp [alR, hc15])
                exact ih (i + 1) ls H locs (by omega) (by rw [← e18]; exact lv_sub hl [0, 3] rfl) (by rw [← eo19]; exact hP) (by rw [← eo19]; exact hD) hS
              | succ k9 ih9 =>
                intro i9 ls hi9 hl
                have hlt9 : i9 < n := by omega
                have hlt912 : i9 < 12 := by omega
                refine lv_iload_n hx hb d_Mo_endRetreats_59 rfl (lv_at hl 0 rfl) ?_
                refine lv_aload_n hx hb d_Mo_endRetreats_60 rfl (lv_at hl 3 rfl) ?_
                refine va_get (D := D) (ci := 6) (v := .int (nI n)) (C := R_Mo) (T := T_Mo) (N := 24) hx hb hts hin_Mo hown hK hP 0 rfl rfl 1 (by decide) (hts _ wd_705) (fun _ h9 => h9) rfl d_Mo_endRetreats_61 ?_
                refine lv_icmp_ge (tgt := 112) hx hb d_Mo_endRetreats_64 (by decide) (fun h0 => absurd h0 (nI_ge hlt9 (by omega))) (fun _ => ?_)
                refine lv_iload_n hx hb d_Mo_endRetreats_67 rfl (lv_at hl 1 rfl) ?_
                refine lv_if_eq (tgt := 104) hx hb d_Mo_endRetreats_68 (by decide) (fun _ => ?_) (fun h0 => absurd (by decide) h0)
                refine lv_iconst (v := 0) hx hb d_Mo_endRetreats_104 (by decide) ?_
                refine lv_istore_n (lv' := [(2, .int 0), (3, .int (nI i9)), (1, .int (nI i)), (0, .ref g0)]) hx hb d_Mo_endRetreats_105 rfl hl (by decide) rfl (fun ls hl => ?_)
                refine lv_iinc (lv' := [(3, .int ((nI i9) + 1)), (2, .int 0), (1, .int (nI i)), (0, .ref g0)]) hx hb d_Mo_endRetreats_106 hl (k := 1) rfl rfl (by decide) rfl (fun ls hl => ?_)
                refine lv_goto (tgt := 59) hx hb d_Mo_endRetreats_109 (by decide) ?_
                have e22 : (nI i9) + 1 = nI (i9 + 1) := nI_1 i9
                exact ih9 (i9 + 1) ls (by omega) (by rw [← e22]; exact lv_sub hl [0, 1, 2, 3] rfl)
            exact nloop n 0 ls (Nat.zero_add _) hl
          · -- 39 not taken
            refine lv_aload_n hx hb d_Mo_endRetreats_42 rfl (lv_at hl 1 rfl) ?_
            refine va_get (D := D) (ci := 6) (v := .ref m_retreats) (C := R_Mo) (T := T_Mo) (N := 24) hx hb hts hin_Mo hown hK hP 0 rfl rfl 19 (by decide) (hts _ wd_723) (fun _ h9 => h9) rfl d_Mo_endRetreats_43 ?_
            refine lv_iload_n hx hb d_Mo_endRetreats_46 rfl (lv_at hl 0 rfl) ?_
            refine tr_iald (v := fr i) hx hb hK hP 9 0 rfl rfl i hlt12 (by decide) rfl d_Mo_endRetreats_47 ?_
            refine lv_if_lt (tgt := 55) hx hb d_Mo_endRetreats_48 (by decide) (fun hc23 => ?_) (fun hc23 => ?_)
            · -- 48 taken
              refine lv_iconst (v := 0) hx hb d_Mo_endRetreats_55 (by decide) ?_
              refine lv_istore_n (lv' := [(2, .int 0), (1, .int (nI i)), (0, .ref g0)]) hx hb d_Mo_endRetreats_56 rfl hl (by decide) rfl (fun ls hl => ?_)
              refine lv_iconst (v := 0) hx hb d_Mo_endRetreats_57 (by decide) ?_
              refine lv_istore_n (lv' := [(3, .int 0), (2, .int 0), (1, .int (nI i)), (0, .ref g0)]) hx hb d_Mo_endRetreats_58 rfl hl (by decide) rfl (fun ls hl => ?_)
              have nloop : ∀ (k9 i9 : Nat) (ls : Array Slot), i9 + k9 = n → lv_has ls 4 [(3, .int (nI i9)), (2, .int 0), (1, .int (nI i)), (0, .ref g0)] → W p l e (headSpec w_Mo_endRetreats ({ frames := 2, cells := 0, slots := 0, locals := 48 })).room s m ([.ref g0]).toArray below meth c H locs 0 0 (MQ below (va_Qv (fun _ : Unit => True) (fun _ t => tB D A [(g0, .inr (6, [.int co, .int (nI n), .ref m_sea, .ref m_center, .ref m_home, .ref m_borders, .int 3, .int mt, .ref m_owner, .ref m_units, .ref m_kind, .ref m_toX, .ref m_toY, .ref m_results, .ref m_known, .ref m_reached, .ref m_way, .ref m_aside, .ref m_origin, .ref m_retreats, .ref m_contested, .ref m_moved, .int msh, .ref m_past])), (m_center, .inl (cZ, 12, .inl (fun j => bI (Ce j)))), (m_home, .inl (cI, 12, .inl fh)), (m_owner, .inl (cI, 12, .inl (mxI (tkR Ce fw (mxI (fun j => if (erM fa fr (mxI (fun _ => (-1)) fm n) n n) j < 0 then fu j else (erM fa fr (mxI (fun _ => (-1)) fm n) n n) j) fu n)) fw n))), (m_units, .inl (cI, 12, .inl (mxI (fun j => if (erM fa fr (mxI (fun _ => (-1)) fm n) n n) j < 0 then fu j else (erM fa fr (mxI (fun _ => (-1)) fm n) n n) j) fu n))), (m_kind, .inl (cI, 12, .inl (fun j => nI (Kd j)))), (m_toX, .inl (cI, 12, .inl (fun j => nI (X j)))), (m_toY, .inl (cI, 12, .inl (fun j => nI (Y j)))), (m_aside, .inl (cI, 12, .inl (mxI (fun _ => (-1)) fa n))), (m_retreats, .inl (cI, 12, .inl fr)), (m_moved, .inl (cI, 12, .inl (erM fa fr (mxI (fun _ => (-1)) fm n) n n)))] t) A) ([.ref g0]).toArray s 0 0 A) (F0 m 59 ls []) := by
                intro k9
                induction k9 with
                | zero =>
                  intro i9 ls hi9 hl
                  have hie9 : i9 = n := by omega
                  rw [hie9] at hl
                  refine lv_iload_n hx hb d_Mo_endRetreats_59 rfl (lv_at hl 0 rfl) ?_
                  refine lv_aload_n hx hb d_Mo_endRetreats_60 rfl (lv_at hl 3 rfl) ?_
                  refine va_get (D := D) (ci := 6) (v := .int (nI n)) (C := R_Mo) (T := T_Mo) (N := 24) hx hb hts hin_Mo hown hK hP 0 rfl rfl 1 (by decide) (hts _ wd_705) (fun _ h9 => h9) rfl d_Mo_endRetreats_61 ?_
                  refine lv_icmp_ge (tgt := 112) hx hb d_Mo_endRetreats_64 (by decide) (fun _ => ?_) (fun h0 => absurd (Int32.le_refl _) h0)
                  refine lv_iload_n hx hb d_Mo_endRetreats_112 rfl (lv_at hl 1 rfl) ?_
                  refine lv_if_eq (tgt := 133) hx hb d_Mo_endRetreats_113 (by decide) (fun _ => ?_) (fun h0 => absurd (by decide) h0)
                  refine lv_iinc (lv' := [(1, .int ((nI i) + 1)), (3, .int (nI n)), (2, .int 0), (0, .ref g0)]) hx hb d_Mo_endRetreats_133 hl (k := 2) rfl rfl (by decide) rfl (fun ls hl => ?_)
                  refine lv_goto (tgt := 25) hx hb d_Mo_endRetreats_136 (by decide) ?_
                  have e26 : (nI i) + 1 = nI (i + 1) := nI_1 i
                  have eo27 : (erM fa fr (mxI (fun _ => (-1)) fm n) n i) = (erM fa fr (mxI (fun _ => (-1)) fm n) n (i + 1)) := erM_n (by simp [alR, hc15, hc23])
                  exact ih (i + 1) ls H locs (by omega) (by rw [← e26]; exact lv_sub hl [0, 3] rfl) (by rw [← eo27]; exact hP) (by rw [← eo27]; exact hD) hS
                | succ k9 ih9 =>
                  intro i9 ls hi9 hl
                  have hlt9 : i9 < n := by omega
                  have hlt912 : i9 < 12 := by omega
                  refine lv_iload_n hx hb d_Mo_endRetreats_59 rfl (lv_at hl 0 rfl) ?_
                  refine lv_aload_n hx hb d_Mo_endRetreats_60 rfl (lv_at hl 3 rfl) ?_
                  refine va_get (D := D) (ci := 6) (v := .int (nI n)) (C := R_Mo) (T := T_Mo) (N := 24) hx hb hts hin_Mo hown hK hP 0 rfl rfl 1 (by decide) (hts _ wd_705) (fun _ h9 => h9) rfl d_Mo_endRetreats_61 ?_
                  refine lv_icmp_ge (tgt := 112) hx hb d_Mo_endRetreats_64 (by decide) (fun h0 => absurd h0 (nI_ge hlt9 (by omega))) (fun _ => ?_)
                  refine lv_iload_n hx hb d_Mo_endRetreats_67 rfl (lv_at hl 1 rfl) ?_
                  refine lv_if_eq (tgt := 104) hx hb d_Mo_endRetreats_68 (by decide) (fun _ => ?_) (fun h0 => absurd (by decide) h0)
                  refine lv_iconst (v := 0) hx hb d_Mo_endRetreats_104 (by decide) ?_
                  refine lv_istore_n (lv' := [(2, .int 0), (3, .int (nI i9)), (1, .int (nI i)), (0, .ref g0)]) hx hb d_Mo_endRetreats_105 rfl hl (by decide) rfl (fun ls hl => ?_)
                  refine lv_iinc (lv' := [(3, .int ((nI i9) + 1)), (2, .int 0), (1, .int (nI i)), (0, .ref g0)]) hx hb d_Mo_endRetreats_106 hl (k := 1) rfl rfl (by decide) rfl (fun ls hl => ?_)
                  refine lv_goto (tgt := 59) hx hb d_Mo_endRetreats_109 (by decide) ?_
                  have e30 : (nI i9) + 1 = nI (i9 + 1) := nI_1 i9
                  exact ih9 (i9 + 1) ls (by omega) (by rw [← e30]; exact lv_sub hl [0, 1, 2, 3] rfl)
              exact nloop n 0 ls (Nat.zero_add _) hl
            · -- 48 not taken
              refine lv_iconst (v := 1) hx hb d_Mo_endRetreats_51 (by decide) ?_
              refine lv_goto (tgt := 56) hx hb d_Mo_endRetreats_52 (by decide) ?_
              refine lv_istore_n (lv' := [(2, .int 1), (1, .int (nI i)), (0, .ref g0)]) hx hb d_Mo_endRetreats_56 rfl hl (by decide) rfl (fun ls hl => ?_)
              refine lv_iconst (v := 0) hx hb d_Mo_endRetreats_57 (by decide) ?_
              refine lv_istore_n (lv' := [(3, .int 0), (2, .int 1), (1, .int (nI i)), (0, .ref g0)]) hx hb d_Mo_endRetreats_58 rfl hl (by decide) rfl (fun ls hl => ?_)
              have nloop : ∀ (k9 i9 : Nat) (ls : Array Slot), i9 + k9 = n → lv_has ls 4 [(3, .int (nI i9)), (2, .int (bI (!anyB (fun b => !decide (b = i) && !decide (fa b < 0) && decide (fr b = fr i)) i9))), (1, .int (nI i)), (0, .ref g0)] → W p l e (headSpec w_Mo_endRetreats ({ frames := 2, cells := 0, slots := 0, locals := 48 })).room s m ([.ref g0]).toArray below meth c H locs 0 0 (MQ below (va_Qv (fun _ : Unit => True) (fun _ t => tB D A [(g0, .inr (6, [.int co, .int (nI n), .ref m_sea, .ref m_center, .ref m_home, .ref m_borders, .int 3, .int mt, .ref m_owner, .ref m_units, .ref m_kind, .ref m_toX, .ref m_toY, .ref m_results, .ref m_known, .ref m_reached, .ref m_way, .ref m_aside, .ref m_origin, .ref m_retreats, .ref m_contested, .ref m_moved, .int msh, .ref m_past])), (m_center, .inl (cZ, 12, .inl (fun j => bI (Ce j)))), (m_home, .inl (cI, 12, .inl fh)), (m_owner, .inl (cI, 12, .inl (mxI (tkR Ce fw (mxI (fun j => if (erM fa fr (mxI (fun _ => (-1)) fm n) n n) j < 0 then fu j else (erM fa fr (mxI (fun _ => (-1)) fm n) n n) j) fu n)) fw n))), (m_units, .inl (cI, 12, .inl (mxI (fun j => if (erM fa fr (mxI (fun _ => (-1)) fm n) n n) j < 0 then fu j else (erM fa fr (mxI (fun _ => (-1)) fm n) n n) j) fu n))), (m_kind, .inl (cI, 12, .inl (fun j => nI (Kd j)))), (m_toX, .inl (cI, 12, .inl (fun j => nI (X j)))), (m_toY, .inl (cI, 12, .inl (fun j => nI (Y j)))), (m_aside, .inl (cI, 12, .inl (mxI (fun _ => (-1)) fa n))), (m_retreats, .inl (cI, 12, .inl fr)), (m_moved, .inl (cI, 12, .inl (erM fa fr (mxI (fun _ => (-1)) fm n) n n)))] t) A) ([.ref g0]).toArray s 0 0 A) (F0 m 59 ls []) := by
                intro k9
                induction k9 with
                | zero =>
                  intro i9 ls hi9 hl
                  have hie9 : i9 = n := by omega
                  rw [hie9] at hl
                  refine lv_iload_n hx hb d_Mo_endRetreats_59 rfl (lv_at hl 0 rfl) ?_
                  refine lv_aload_n hx hb d_Mo_endRetreats_60 rfl (lv_at hl 3 rfl) ?_
                  refine va_get (D := D) (ci := 6) (v := .int (nI n)) (C := R_Mo) (T := T_Mo) (N := 24) hx hb hts hin_Mo hown hK hP 0 rfl rfl 1 (by decide) (hts _ wd_705) (fun _ h9 => h9) rfl d_Mo_endRetreats_61 ?_
                  refine lv_icmp_ge (tgt := 112) hx hb d_Mo_endRetreats_64 (by decide) (fun _ => ?_) (fun h0 => absurd (Int32.le_refl _) h0)
                  refine lv_iload_n hx hb d_Mo_endRetreats_112 rfl (lv_at hl 1 rfl) ?_
                  rcases bI_c (!anyB (fun b => !decide (b = i) && !decide (fa b < 0) && decide (fr b = fr i)) n) with ⟨hb33, e9⟩ | ⟨hb33, e9⟩
                  · refine tr_top e9 ?_
                    refine lv_if_eq (tgt := 133) hx hb d_Mo_endRetreats_113 (by decide) (fun h0 => absurd h0 (by decide)) (fun _ => ?_)
                    have hng : ¬ fr i < 0 := hc23
                    refine lv_aload_n hx hb d_Mo_endRetreats_116 rfl (lv_at hl 3 rfl) ?_
                    refine va_get (D := D) (ci := 6) (v := .ref m_moved) (C := R_Mo) (T := T_Mo) (N := 24) hx hb hts hin_Mo hown hK hP 0 rfl rfl 21 (by decide) (hts _ wd_725) (fun _ h9 => h9) rfl d_Mo_endRetreats_117 ?_
                    refine lv_aload_n hx hb d_Mo_endRetreats_120 rfl (lv_at hl 3 rfl) ?_
                    refine va_get (D := D) (ci := 6) (v := .ref m_retreats) (C := R_Mo) (T := T_Mo) (N := 24) hx hb hts hin_Mo hown hK hP 0 rfl rfl 19 (by decide) (hts _ wd_723) (fun _ h9 => h9) rfl d_Mo_endRetreats_121 ?_
                    refine lv_iload_n hx hb d_Mo_endRetreats_124 rfl (lv_at hl 2 rfl) ?_
                    refine tr_iald (v := fr i) hx hb hK hP 9 0 rfl rfl i hlt12 (by decide) rfl d_Mo_endRetreats_125 ?_
                    refine lv_aload_n hx hb d_Mo_endRetreats_126 rfl (lv_at hl 3 rfl) ?_
                    refine va_get (D := D) (ci := 6) (v := .ref m_aside) (C := R_Mo) (T := T_Mo) (N := 24) hx hb hts hin_Mo hown hK hP 0 rfl rfl 17 (by decide) (hts _ wd_721) (fun _ h9 => h9) rfl d_Mo_endRetreats_127 ?_
                    refine lv_iload_n hx hb d_Mo_endRetreats_130 rfl (lv_at hl 2 rfl) ?_
                    refine tr_iald (v := fa i) hx hb hK hP 8 0 rfl rfl i hlt12 (by decide) rfl d_Mo_endRetreats_131 ?_
                    refine va_iast hx hb hK hP hD hS 10 0 rfl rfl (Or.resolve_left (hfr i) hng) d_Mo_endRetreats_132 (fun H locs hP hD hS => ?_)
                    have hP : va_P D vwCl [(g0, .inr (6, [.int co, .int (nI n), .ref m_sea, .ref m_center, .ref m_home, .ref m_borders, .int mp, .int mt, .ref m_owner, .ref m_units, .ref m_kind, .ref m_toX, .ref m_toY, .ref m_results, .ref m_known, .ref m_reached, .ref m_way, .ref m_aside, .ref m_origin, .ref m_retreats, .ref m_contested, .ref m_moved, .int msh, .ref m_past])), (m_center, .inl (cZ, 12, .inl (fun j => bI (Ce j)))), (m_home, .inl (cI, 12, .inl fh)), (m_owner, .inl (cI, 12, .inl fw)), (m_units, .inl (cI, 12, .inl fu)), (m_kind, .inl (cI, 12, .inl (fun j => nI (Kd j)))), (m_toX, .inl (cI, 12, .inl (fun j => nI (X j)))), (m_toY, .inl (cI, 12, .inl (fun j => nI (Y j)))), (m_aside, .inl (cI, 12, .inl fa)), (m_retreats, .inl (cI, 12, .inl fr)), (m_moved, .inl (cI, 12, .inl (upd (erM fa fr (mxI (fun _ => (-1)) fm n) n i) (fr i).toNatClampNeg (fa i))))] H := hP
                    have hD : va_D A [(g0, .inr (6, [.int co, .int (nI n), .ref m_sea, .ref m_center, .ref m_home, .ref m_borders, .int mp, .int mt, .ref m_owner, .ref m_units, .ref m_kind, .ref m_toX, .ref m_toY, .ref m_results, .ref m_known, .ref m_reached, .ref m_way, .ref m_aside, .ref m_origin, .ref m_retreats, .ref m_contested, .ref m_moved, .int msh, .ref m_past])), (m_center, .inl (cZ, 12, .inl (fun j => bI (Ce j)))), (m_home, .inl (cI, 12, .inl fh)), (m_owner, .inl (cI, 12, .inl fw)), (m_units, .inl (cI, 12, .inl fu)), (m_kind, .inl (cI, 12, .inl (fun j => nI (Kd j)))), (m_toX, .inl (cI, 12, .inl (fun j => nI (X j)))), (m_toY, .inl (cI, 12, .inl (fun j => nI (Y j)))), (m_aside, .inl (cI, 12, .inl fa)), (m_retreats, .inl (cI, 12, .inl fr)), (m_moved, .inl (cI, 12, .inl (upd (erM fa fr (mxI (fun _ => (-1)) fm n) n i) (fr i).toNatClampNeg (fa i))))] := hD
                    refine lv_iinc (lv' := [(1, .int ((nI i) + 1)), (3, .int (nI n)), (2, .int (bI (!anyB (fun b => !decide (b = i) && !decide (fa b < 0) && decide (fr b = fr i)) n))), (0, .ref g0)]) hx hb d_Mo_endRetreats_133 hl (k := 2) rfl rfl (by decide) rfl (fun ls hl => ?_)
                    refine lv_goto (tgt := 25) hx hb d_Mo_endRetreats_136 (by decide) ?_
                    have e35 : (nI i) + 1 = nI (i + 1) := nI_1 i
                    have eo36 : (upd (erM fa fr (mxI (fun _ => (-1)) fm n) n i) (fr i).toNatClampNeg (fa i)) = (erM fa fr (mxI (fun _ => (-1)) fm n) n (i + 1)) := erM_y (by simp [alR, hc15, hc23, hb33])
                    exact ih (i + 1) ls H locs (by omega) (by rw [← e35]; exact lv_sub hl [0, 3] rfl) (by rw [← eo36]; exact hP) (by rw [← eo36]; exact hD) hS
                  · refine tr_top e9 ?_
                    refine lv_if_eq (tgt := 133) hx hb d_Mo_endRetreats_113 (by decide) (fun _ => ?_) (fun h0 => absurd (by decide) h0)
                    refine lv_iinc (lv' := [(1, .int ((nI i) + 1)), (3, .int (nI n)), (2, .int (bI (!anyB (fun b => !decide (b = i) && !decide (fa b < 0) && decide (fr b = fr i)) n))), (0, .ref g0)]) hx hb d_Mo_endRetreats_133 hl (k := 2) rfl rfl (by decide) rfl (fun ls hl => ?_)
                    refine lv_goto (tgt := 25) hx hb d_Mo_endRetreats_136 (by decide) ?_
                    have e38 : (nI i) + 1 = nI (i + 1) := nI_1 i
                    have eo39 : (erM fa fr (mxI (fun _ => (-1)) fm n) n i) = (erM fa fr (mxI (fun _ => (-1)) fm n) n (i + 1)) := erM_n (by simp [alR, hc15, hc23, hb33])
                    exact ih (i + 1) ls H locs (by omega) (by rw [← e38]; exact lv_sub hl [0, 3] rfl) (by rw [← eo39]; exact hP) (by rw [← eo39]; exact hD) hS
                | succ k9 ih9 =>
                  intro i9 ls hi9 hl
                  have hlt9 : i9 < n := by omega
                  have hlt912 : i9 < 12 := by omega
                  refine lv_iload_n hx hb d_Mo_endRetreats_59 rfl (lv_at hl 0 rfl) ?_
                  refine lv_aload_n hx hb d_Mo_endRetreats_60 rfl (lv_at hl 3 rfl) ?_
                  refine va_get (D := D) (ci := 6) (v := .int (nI n)) (C := R_Mo) (T := T_Mo) (N := 24) hx hb hts hin_Mo hown hK hP 0 rfl rfl 1 (by decide) (hts _ wd_705) (fun _ h9 => h9) rfl d_Mo_endRetreats_61 ?_
                  refine lv_icmp_ge (tgt := 112) hx hb d_Mo_endRetreats_64 (by decide) (fun h0 => absurd h0 (nI_ge hlt9 (by omega))) (fun _ => ?_)
                  refine lv_iload_n hx hb d_Mo_endRetreats_67 rfl (lv_at hl 1 rfl) ?_
                  rcases bI_c (!anyB (fun b => !decide (b = i) && !decide (fa b < 0) && decide (fr b = fr i)) i9) with ⟨hb42, e9⟩ | ⟨hb42, e9⟩
                  · refine tr_top e9 ?_
                    refine lv_if_eq (tgt := 104) hx hb d_Mo_endRetreats_68 (by decide) (fun h0 => absurd h0 (by decide)) (fun _ => ?_)
                    refine lv_iload_n hx hb d_Mo_endRetreats_71 rfl (lv_at hl 0 rfl) ?_
                    refine lv_iload_n hx hb d_Mo_endRetreats_72 rfl (lv_at hl 2 rfl) ?_
                    refine lv_icmp_eq (tgt := 100) hx hb d_Mo_endRetreats_73 (by decide) (fun hc44 => ?_) (fun hc44 => ?_)
                    · -- 73 taken
                      have hc44 : i9 = i := (nI_lit (Nat.lt_trans hlt912 (by decide)) (Nat.lt_trans hlt12 (by decide))).mp hc44
                      refine lv_iconst (v := 1) hx hb d_Mo_endRetreats_100 (by decide) ?_
                      refine lv_goto (tgt := 105) hx hb d_Mo_endRetreats_101 (by decide) ?_
                      refine lv_istore_n (lv' := [(2, .int 1), (3, .int (nI i9)), (1, .int (nI i)), (0, .ref g0)]) hx hb d_Mo_endRetreats_105 rfl hl (by decide) rfl (fun ls hl => ?_)
                      refine lv_iinc (lv' := [(3, .int ((nI i9) + 1)), (2, .int 1), (1, .int (nI i)), (0, .ref g0)]) hx hb d_Mo_endRetreats_106 hl (k := 1) rfl rfl (by decide) rfl (fun ls hl => ?_)
                      refine lv_goto (tgt := 59) hx hb d_Mo_endRetreats_109 (by decide) ?_
                      have e45 : (nI i9) + 1 = nI (i9 + 1) := nI_1 i9
                      have e46 : 1 = bI (!anyB (fun b => !decide (b = i) && !decide (fa b < 0) && decide (fr b = fr i)) (i9 + 1)) := (bI_t (show (!(anyB (fun b => !decide (b = i) && !decide (fa b < 0) && decide (fr b = fr i)) i9 || (!decide (i9 = i) && !decide (fa i9 < 0) && decide (fr i9 = fr i)))) = true by simp only [Bool.not_or, Bool.true_and, Bool.false_and, hb42] <;> simp [hc15, hc23, hb42, hc44])).symm
                      exact ih9 (i9 + 1) ls (by omega) (by rw [← e45, ← e46]; exact lv_sub hl [0, 1, 2, 3] rfl)
                    · -- 73 not taken
                      have hc44 : ¬ i9 = i := fun h9 => hc44 (congrArg nI h9)
                      refine lv_aload_n hx hb d_Mo_endRetreats_76 rfl (lv_at hl 3 rfl) ?_
                      refine va_get (D := D) (ci := 6) (v := .ref m_aside) (C := R_Mo) (T := T_Mo) (N := 24) hx hb hts hin_Mo hown hK hP 0 rfl rfl 17 (by decide) (hts _ wd_721) (fun _ h9 => h9) rfl d_Mo_endRetreats_77 ?_
                      refine lv_iload_n hx hb d_Mo_endRetreats_80 rfl (lv_at hl 0 rfl) ?_
                      refine tr_iald (v := fa i9) hx hb hK hP 8 0 rfl rfl i9 hlt912 (by decide) rfl d_Mo_endRetreats_81 ?_
                      refine lv_if_lt (tgt := 100) hx hb d_Mo_endRetreats_82 (by decide) (fun hc47 => ?_) (fun hc47 => ?_)
                      · -- 82 taken
                        refine lv_iconst (v := 1) hx hb d_Mo_endRetreats_100 (by decide) ?_
                        refine lv_goto (tgt := 105) hx hb d_Mo_endRetreats_101 (by decide) ?_
                        refine lv_istore_n (lv' := [(2, .int 1), (3, .int (nI i9)), (1, .int (nI i)), (0, .ref g0)]) hx hb d_Mo_endRetreats_105 rfl hl (by decide) rfl (fun ls hl => ?_)
                        refine lv_iinc (lv' := [(3, .int ((nI i9) + 1)), (2, .int 1), (1, .int (nI i)), (0, .ref g0)]) hx hb d_Mo_endRetreats_106 hl (k := 1) rfl rfl (by decide) rfl (fun ls hl => ?_)
                        refine lv_goto (tgt := 59) hx hb d_Mo_endRetreats_109 (by decide) ?_
                        have e48 : (nI i9) + 1 = nI (i9 + 1) := nI_1 i9
                        have e49 : 1 = bI (!anyB (fun b => !decide (b = i) && !decide (fa b < 0) && decide (fr b = fr i)) (i9 + 1)) := (bI_t (show (!(anyB (fun b => !decide (b = i) && !decide (fa b < 0) && decide (fr b = fr i)) i9 || (!decide (i9 = i) && !decide (fa i9 < 0) && decide (fr i9 = fr i)))) = true by simp only [Bool.not_or, Bool.true_and, Bool.false_and, hb42] <;> simp [hc15, hc23, hb42, hc44, hc47])).symm
                        exact ih9 (i9 + 1) ls (by omega) (by rw [← e48, ← e49]; exact lv_sub hl [0, 1, 2, 3] rfl)
                      · -- 82 not taken
                        refine lv_aload_n hx hb d_Mo_endRetreats_85 rfl (lv_at hl 3 rfl) ?_
                        refine va_get (D := D) (ci := 6) (v := .ref m_retreats) (C := R_Mo) (T := T_Mo) (N := 24) hx hb hts hin_Mo hown hK hP 0 rfl rfl 19 (by decide) (hts _ wd_723) (fun _ h9 => h9) rfl d_Mo_endRetreats_86 ?_
                        refine lv_iload_n hx hb d_Mo_endRetreats_89 rfl (lv_at hl 0 rfl) ?_
                        refine tr_iald (v := fr i9) hx hb hK hP 9 0 rfl rfl i9 hlt912 (by decide) rfl d_Mo_endRetreats_90 ?_
                        refine lv_aload_n hx hb d_Mo_endRetreats_91 rfl (lv_at hl 3 rfl) ?_
                        refine va_get (D := D) (ci := 6) (v := .ref m_retreats) (C := R_Mo) (T := T_Mo) (N := 24) hx hb hts hin_Mo hown hK hP 0 rfl rfl 19 (by decide) (hts _ wd_723) (fun _ h9 => h9) rfl d_Mo_endRetreats_92 ?_
                        refine lv_iload_n hx hb d_Mo_endRetreats_95 rfl (lv_at hl 2 rfl) ?_
                        refine tr_iald (v := fr i) hx hb hK hP 9 0 rfl rfl i hlt12 (by decide) rfl d_Mo_endRetreats_96 ?_
                        refine lv_icmp_eq (tgt := 104) hx hb d_Mo_endRetreats_97 (by decide) (fun hc50 => ?_) (fun hc50 => ?_)
                        · -- 97 taken
                          refine lv_iconst (v := 0) hx hb d_Mo_endRetreats_104 (by decide) ?_
                          refine lv_istore_n (lv' := [(2, .int 0), (3, .int (nI i9)), (1, .int (nI i)), (0, .ref g0)]) hx hb d_Mo_endRetreats_105 rfl hl (by decide) rfl (fun ls hl => ?_)
                          refine lv_iinc (lv' := [(3, .int ((nI i9) + 1)), (2, .int 0), (1, .int (nI i)), (0, .ref g0)]) hx hb d_Mo_endRetreats_106 hl (k := 1) rfl rfl (by decide) rfl (fun ls hl => ?_)
                          refine lv_goto (tgt := 59) hx hb d_Mo_endRetreats_109 (by decide) ?_
                          have e51 : (nI i9) + 1 = nI (i9 + 1) := nI_1 i9
                          have e52 : 0 = bI (!anyB (fun b => !decide (b = i) && !decide (fa b < 0) && decide (fr b = fr i)) (i9 + 1)) := (bI_f (show (!(anyB (fun b => !decide (b = i) && !decide (fa b < 0) && decide (fr b = fr i)) i9 || (!decide (i9 = i) && !decide (fa i9 < 0) && decide (fr i9 = fr i)))) = false by simp only [Bool.not_or, Bool.true_and, Bool.false_and, hb42] <;> simp [hc15, hc23, hb42, hc44, hc47, hc50])).symm
                          exact ih9 (i9 + 1) ls (by omega) (by rw [← e51, ← e52]; exact lv_sub hl [0, 1, 2, 3] rfl)
                        · -- 97 not taken
                          refine lv_iconst (v := 1) hx hb d_Mo_endRetreats_100 (by decide) ?_
                          refine lv_goto (tgt := 105) hx hb d_Mo_endRetreats_101 (by decide) ?_
                          refine lv_istore_n (lv' := [(2, .int 1), (3, .int (nI i9)), (1, .int (nI i)), (0, .ref g0)]) hx hb d_Mo_endRetreats_105 rfl hl (by decide) rfl (fun ls hl => ?_)
                          refine lv_iinc (lv' := [(3, .int ((nI i9) + 1)), (2, .int 1), (1, .int (nI i)), (0, .ref g0)]) hx hb d_Mo_endRetreats_106 hl (k := 1) rfl rfl (by decide) rfl (fun ls hl => ?_)
                          refine lv_goto (tgt := 59) hx hb d_Mo_endRetreats_109 (by decide) ?_
                          have e53 : (nI i9) + 1 = nI (i9 + 1) := nI_1 i9
                          have e54 : 1 = bI (!anyB (fun b => !decide (b = i) && !decide (fa b < 0) && decide (fr b = fr i)) (i9 + 1)) := (bI_t (show (!(anyB (fun b => !decide (b = i) && !decide (fa b < 0) && decide (fr b = fr i)) i9 || (!decide (i9 = i) && !decide (fa i9 < 0) && decide (fr i9 = fr i)))) = true by simp only [Bool.not_or, Bool.true_and, Bool.false_and, hb42] <;> simp [hc15, hc23, hb42, hc44, hc47, hc50])).symm
                          exact ih9 (i9 + 1) ls (by omega) (by rw [← e53, ← e54]; exact lv_sub hl [0, 1, 2, 3] rfl)
                  · refine tr_top e9 ?_
                    refine lv_if_eq (tgt := 104) hx hb d_Mo_endRetreats_68 (by decide) (fun _ => ?_) (fun h0 => absurd (by decide) h0)
                    refine lv_iconst (v := 0) hx hb d_Mo_endRetreats_104 (by decide) ?_
                    refine lv_istore_n (lv' := [(2, .int 0), (3, .int (nI i9)), (1, .int (nI i)), (0, .ref g0)]) hx hb d_Mo_endRetreats_105 rfl hl (by decide) rfl (fun ls hl => ?_)
                    refine lv_iinc (lv' := [(3, .int ((nI i9) + 1)), (2, .int 0), (1, .int (nI i)), (0, .ref g0)]) hx hb d_Mo_endRetreats_106 hl (k := 1) rfl rfl (by decide) rfl (fun ls hl => ?_)
                    refine lv_goto (tgt := 59) hx hb d_Mo_endRetreats_109 (by decide) ?_
                    have e56 : (nI i9) + 1 = nI (i9 + 1) := nI_1 i9
                    have e57 : 0 = bI (!anyB (fun b => !decide (b = i) && !decide (fa b < 0) && decide (fr b = fr i)) (i9 + 1)) := (bI_f (show (!(anyB (fun b => !decide (b = i) && !decide (fa b < 0) && decide (fr b = fr i)) i9 || (!decide (i9 = i) && !decide (fa i9 < 0) && decide (fr i9 = fr i)))) = false by simp only [Bool.not_or, Bool.true_and, Bool.false_and, hb42] <;> simp [hc15, hc23, hb42])).symm
                    exact ih9 (i9 + 1) ls (by omega) (by rw [← e56, ← e57]; exact lv_sub hl [0, 1, 2, 3] rfl)
              exact nloop n 0 ls (Nat.zero_add _) hl
      exact loop2 n 0 ls _ _ (Nat.zero_add _) hl (hP) (hD) hS
    | succ k ih =>
      intro i ls H locs hi hl hP hD hS
      have hlt : i < n := by omega
      have hlt12 : i < 12 := by omega
      refine lv_iload_n hx hb d_Mo_endRetreats_2 rfl (lv_at hl 0 rfl) ?_
      refine lv_aload_n hx hb d_Mo_endRetreats_3 rfl (lv_at hl 1 rfl) ?_
      refine va_get (D := D) (ci := 6) (v := .int (nI n)) (C := R_Mo) (T := T_Mo) (N := 24) hx hb hts hin_Mo hown hK hP 0 rfl rfl 1 (by decide) (hts _ wd_705) (fun _ h9 => h9) rfl d_Mo_endRetreats_4 ?_
      refine lv_icmp_ge (tgt := 23) hx hb d_Mo_endRetreats_7 (by decide) (fun h0 => absurd h0 (nI_ge hlt (by omega))) (fun _ => ?_)
      refine lv_aload_n hx hb d_Mo_endRetreats_10 rfl (lv_at hl 1 rfl) ?_
      refine va_get (D := D) (ci := 6) (v := .ref m_moved) (C := R_Mo) (T := T_Mo) (N := 24) hx hb hts hin_Mo hown hK hP 0 rfl rfl 21 (by decide) (hts _ wd_725) (fun _ h9 => h9) rfl d_Mo_endRetreats_11 ?_
      refine lv_iload_n hx hb d_Mo_endRetreats_14 rfl (lv_at hl 0 rfl) ?_
      refine lv_iconst (v := (-1)) hx hb d_Mo_endRetreats_15 (by decide) ?_
      refine tr_iast (g := upd (mxI (fun _ => (-1)) fm i) i (-1)) hx hb hK hP hD hS 10 0 rfl rfl i hlt12 (by decide) rfl d_Mo_endRetreats_16 (fun H locs hP hD hS => ?_)
      have hP : va_P D vwCl [(g0, .inr (6, [.int co, .int (nI n), .ref m_sea, .ref m_center, .ref m_home, .ref m_borders, .int mp, .int mt, .ref m_owner, .ref m_units, .ref m_kind, .ref m_toX, .ref m_toY, .ref m_results, .ref m_known, .ref m_reached, .ref m_way, .ref m_aside, .ref m_origin, .ref m_retreats, .ref m_contested, .ref m_moved, .int msh, .ref m_past])), (m_center, .inl (cZ, 12, .inl (fun j => bI (Ce j)))), (m_home, .inl (cI, 12, .inl fh)), (m_owner, .inl (cI, 12, .inl fw)), (m_units, .inl (cI, 12, .inl fu)), (m_kind, .inl (cI, 12, .inl (fun j => nI (Kd j)))), (m_toX, .inl (cI, 12, .inl (fun j => nI (X j)))), (m_toY, .inl (cI, 12, .inl (fun j => nI (Y j)))), (m_aside, .inl (cI, 12, .inl fa)), (m_retreats, .inl (cI, 12, .inl fr)), (m_moved, .inl (cI, 12, .inl (upd (mxI (fun _ => (-1)) fm i) i (-1))))] H := hP
      have hD : va_D A [(g0, .inr (6, [.int co, .int (nI n), .ref m_sea, .ref m_center, .ref m_home, .ref m_borders, .int mp, .int mt, .ref m_owner, .ref m_units, .ref m_kind, .ref m_toX, .ref m_toY, .ref m_results, .ref m_known, .ref m_reached, .ref m_way, .ref m_aside, .ref m_origin, .ref m_retreats, .ref m_contested, .ref m_moved, .int msh, .ref m_past])), (m_center, .inl (cZ, 12, .inl (fun j => bI (Ce j)))), (m_home, .inl (cI, 12, .inl fh)), (m_owner, .inl (cI, 12, .inl fw)), (m_units, .inl (cI, 12, .inl fu)), (m_kind, .inl (cI, 12, .inl (fun j => nI (Kd j)))), (m_toX, .inl (cI, 12, .inl (fun j => nI (X j)))), (m_toY, .inl (cI, 12, .inl (fun j => nI (Y j)))), (m_aside, .inl (cI, 12, .inl fa)), (m_retreats, .inl (cI, 12, .inl fr)), (m_moved, .inl (cI, 12, .inl (upd (mxI (fun _ => (-1)) fm i) i (-1))))] := hD
      refine lv_iinc (lv' := [(1, .int ((nI i) + 1)), (0, .ref g0)]) hx hb d_Mo_endRetreats_17 hl (k := 0) rfl rfl (by decide) rfl (fun ls hl => ?_)
      refine lv_goto (tgt := 2) hx hb d_Mo_endRetreats_20 (by decide) ?_
      have e59 : (nI i) + 1 = nI (i + 1) := nI_1 i
      have eo60 : (upd (mxI (fun _ => (-1)) fm i) i (-1)) = (mxI (fun _ => (-1)) fm (i + 1)) := mxI_s rfl
      exact ih (i + 1) ls H locs (by omega) (by rw [← e59]; exact lv_sub hl [0, 1] rfl) (by rw [← eo60]; exact hP) (by rw [← eo60]; exact hD) hS
  have ei61 : (mxI (fun _ => (-1)) fm 0) = (fm) := mxI_0 _ _
  exact loop n 0 ls _ _ (Nat.zero_add _) hl (by rw [ei61]; exact hP) (by rw [ei61]; exact hD) hS


set_option maxHeartbeats 4000000 in
set_option maxRecDepth 100000 in
theorem c_Mo_endRetN (l : Launch) (D : va_G) (cI cZ cJ cS : ClassId) (aT : Nat) (ceT : Cell) (sz : Nat) (g0 m_sea m_center m_home m_borders m_owner m_units m_kind m_toX m_toY m_results m_known m_reached m_way m_aside m_origin m_retreats m_contested m_moved m_past : Nat) (n : Nat) (co mp mt msh : Int32) (Ce : Nat → Bool) (fh : Nat → Int32) (fw : Nat → Int32) (fu : Nat → Int32) (Kd : Nat → Nat) (X : Nat → Nat) (Y : Nat → Nat) (fa : Nat → Int32) (fr : Nat → Int32) (fm : Nat → Int32) (hKd : ∀ j, Kd j < 4) (hX9 : ∀ j, X j < 12) (hY9 : ∀ j, Y j < 12) (hn : n ≤ 12) (hfr : ∀ j, fr j < 0 ∨ vp_in (fr j) 12) (hev : mt - mt / 2 * 2 = 0) (hdu : anyB (bdR Ce fh (mxI (tkR Ce fw (mxI (fun j => if (erM fa fr (mxI (fun _ => (-1)) fm n) n n) j < 0 then fu j else (erM fa fr (mxI (fun _ => (-1)) fm n) n n) j) fu n)) fw n) (mxI (fun j => if (erM fa fr (mxI (fun _ => (-1)) fm n) n n) j < 0 then fu j else (erM fa fr (mxI (fun _ => (-1)) fm n) n n) j) fu n) n) 4 = false) : Met l y_Mo_endRetreats w_Mo_endRetreats ({ frames := 2, cells := 0, slots := 0, locals := 48 }) (tH D cI cZ cJ cS aT ceT [.ref g0] sz [(g0, .inr (6, [.int co, .int (nI n), .ref m_sea, .ref m_center, .ref m_home, .ref m_borders, .int mp, .int mt, .ref m_owner, .ref m_units, .ref m_kind, .ref m_toX, .ref m_toY, .ref m_results, .ref m_known, .ref m_reached, .ref m_way, .ref m_aside, .ref m_origin, .ref m_retreats, .ref m_contested, .ref m_moved, .int msh, .ref m_past])), (m_center, .inl (cZ, 12, .inl (fun j => bI (Ce j)))), (m_home, .inl (cI, 12, .inl fh)), (m_owner, .inl (cI, 12, .inl fw)), (m_units, .inl (cI, 12, .inl fu)), (m_kind, .inl (cI, 12, .inl (fun j => nI (Kd j)))), (m_toX, .inl (cI, 12, .inl (fun j => nI (X j)))), (m_toY, .inl (cI, 12, .inl (fun j => nI (Y j)))), (m_aside, .inl (cI, 12, .inl fa)), (m_retreats, .inl (cI, 12, .inl fr)), (m_moved, .inl (cI, 12, .inl fm))]) (va_Qv (fun _ : Unit => True) (fun _ t => tB D (va_A [(g0, .inr (6, [.int co, .int (nI n), .ref m_sea, .ref m_center, .ref m_home, .ref m_borders, .int mp, .int mt, .ref m_owner, .ref m_units, .ref m_kind, .ref m_toX, .ref m_toY, .ref m_results, .ref m_known, .ref m_reached, .ref m_way, .ref m_aside, .ref m_origin, .ref m_retreats, .ref m_contested, .ref m_moved, .int msh, .ref m_past])), (m_center, .inl (cZ, 12, .inl (fun j => bI (Ce j)))), (m_home, .inl (cI, 12, .inl fh)), (m_owner, .inl (cI, 12, .inl fw)), (m_units, .inl (cI, 12, .inl fu)), (m_kind, .inl (cI, 12, .inl (fun j => nI (Kd j)))), (m_toX, .inl (cI, 12, .inl (fun j => nI (X j)))), (m_toY, .inl (cI, 12, .inl (fun j => nI (Y j)))), (m_aside, .inl (cI, 12, .inl fa)), (m_retreats, .inl (cI, 12, .inl fr)), (m_moved, .inl (cI, 12, .inl fm))] sz) [(g0, .inr (6, [.int co, .int (nI n), .ref m_sea, .ref m_center, .ref m_home, .ref m_borders, .int 1, .int (mt + 1), .ref m_owner, .ref m_units, .ref m_kind, .ref m_toX, .ref m_toY, .ref m_results, .ref m_known, .ref m_reached, .ref m_way, .ref m_aside, .ref m_origin, .ref m_retreats, .ref m_contested, .ref m_moved, .int msh, .ref m_past])), (m_center, .inl (cZ, 12, .inl (fun j => bI (Ce j)))), (m_home, .inl (cI, 12, .inl fh)), (m_owner, .inl (cI, 12, .inl (mxI (tkR Ce fw (mxI (fun j => if (erM fa fr (mxI (fun _ => (-1)) fm n) n n) j < 0 then fu j else (erM fa fr (mxI (fun _ => (-1)) fm n) n n) j) fu n)) fw n))), (m_units, .inl (cI, 12, .inl (mxI (fun j => if (erM fa fr (mxI (fun _ => (-1)) fm n) n n) j < 0 then fu j else (erM fa fr (mxI (fun _ => (-1)) fm n) n n) j) fu n))), (m_kind, .inl (cI, 12, .inl (fun _ => 0))), (m_toX, .inl (cI, 12, .inl (fun _ => 0))), (m_toY, .inl (cI, 12, .inl (fun _ => 0))), (m_aside, .inl (cI, 12, .inl (mxI (fun _ => (-1)) fa n))), (m_retreats, .inl (cI, 12, .inl fr)), (m_moved, .inl (cI, 12, .inl (erM fa fr (mxI (fun _ => (-1)) fm n) n n)))] t) (va_A [(g0, .inr (6, [.int co, .int (nI n), .ref m_sea, .ref m_center, .ref m_home, .ref m_borders, .int mp, .int mt, .ref m_owner, .ref m_units, .ref m_kind, .ref m_toX, .ref m_toY, .ref m_results, .ref m_known, .ref m_reached, .ref m_way, .ref m_aside, .ref m_origin, .ref m_retreats, .ref m_contested, .ref m_moved, .int msh, .ref m_past])), (m_center, .inl (cZ, 12, .inl (fun j => bI (Ce j)))), (m_home, .inl (cI, 12, .inl fh)), (m_owner, .inl (cI, 12, .inl fw)), (m_units, .inl (cI, 12, .inl fu)), (m_kind, .inl (cI, 12, .inl (fun j => nI (Kd j)))), (m_toX, .inl (cI, 12, .inl (fun j => nI (X j)))), (m_toY, .inl (cI, 12, .inl (fun j => nI (Y j)))), (m_aside, .inl (cI, 12, .inl fa)), (m_retreats, .inl (cI, 12, .inl fr)), (m_moved, .inl (cI, 12, .inl fm))] sz)) 0 0 (va_A [(g0, .inr (6, [.int co, .int (nI n), .ref m_sea, .ref m_center, .ref m_home, .ref m_borders, .int mp, .int mt, .ref m_owner, .ref m_units, .ref m_kind, .ref m_toX, .ref m_toY, .ref m_results, .ref m_known, .ref m_reached, .ref m_way, .ref m_aside, .ref m_origin, .ref m_retreats, .ref m_contested, .ref m_moved, .int msh, .ref m_past])), (m_center, .inl (cZ, 12, .inl (fun j => bI (Ce j)))), (m_home, .inl (cI, 12, .inl fh)), (m_owner, .inl (cI, 12, .inl fw)), (m_units, .inl (cI, 12, .inl fu)), (m_kind, .inl (cI, 12, .inl (fun j => nI (Kd j)))), (m_toX, .inl (cI, 12, .inl (fun j => nI (X j)))), (m_toY, .inl (cI, 12, .inl (fun j => nI (Y j)))), (m_aside, .inl (cI, 12, .inl fa)), (m_retreats, .inl (cI, 12, .inl fr)), (m_moved, .inl (cI, 12, .inl fm))] sz) := by
  refine Met.ofW (cc := b_Mo_endRetreats) (maxL := 4) (ret := none) (by decide) rfl ?_
  intro p e s m args below meth c s₁ B hml hv
  obtain ⟨rfl, hsz, hP, hK, hD0, hX⟩ := hv
  have hx := B.exec
  have hb := B.bytes
  have hr := B.returns
  have hts0 := atoms_spec (ws := w_Mo_endRetreats) B.pre
  have hts : ∀ w ∈ TB, w.before _ s = true := fun w h => hts0 w (List.mem_cons_of_mem _ h)
  have hown : s.vm.findClass R_Mo = some m.cls := findClass_of_methodNamed B.named
  have hlocks := B.notSynchronized
  subst hsz
  have hXl := tx_lt hX
  have hXn := tx_far hP hX
  have hD := hD0.self (sz := s.heap.size)
  generalize hAe : va_A [(g0, .inr (6, [.int co, .int (nI n), .ref m_sea, .ref m_center, .ref m_home, .ref m_borders, .int mp, .int mt, .ref m_owner, .ref m_units, .ref m_kind, .ref m_toX, .ref m_toY, .ref m_results, .ref m_known, .ref m_reached, .ref m_way, .ref m_aside, .ref m_origin, .ref m_retreats, .ref m_contested, .ref m_moved, .int msh, .ref m_past])), (m_center, .inl (cZ, 12, .inl (fun j => bI (Ce j)))), (m_home, .inl (cI, 12, .inl fh)), (m_owner, .inl (cI, 12, .inl fw)), (m_units, .inl (cI, 12, .inl fu)), (m_kind, .inl (cI, 12, .inl (fun j => nI (Kd j)))), (m_toX, .inl (cI, 12, .inl (fun j => nI (X j)))), (m_toY, .inl (cI, 12, .inl (fun j => nI (Y j)))), (m_aside, .inl (cI, 12, .inl fa)), (m_retreats, .inl (cI, 12, .inl fr)), (m_moved, .inl (cI, 12, .inl fm))] s.heap.size = A at hD hXn ⊢
  have hA : ∀ q : Nat, s.heap.size ≤ q → A q := fun q h => by rw [← hAe]; exact Or.inr h
  have hS : va_S A s.heap s.heap [] := va_S.rf
  have hXH : s.heap[aT]? = s.heap[aT]? := rfl
  have hl := lv_entry ([.ref g0]) (n := 4) (Nat.le_of_ble_eq_true rfl)
  rw [lg_entry_eq]
  generalize (lg_sl ([.ref g0]) ++ List.replicate (4 - (lg_sl ([.ref g0])).length) Slot.unset).toArray = ls at hl ⊢
  have hl : lv_has ls 4 [(0, .ref g0)] := hl
  refine lv_iconst (v := 0) hx hb d_Mo_endRetreats_0 (by decide) ?_
  refine lv_istore_n (lv' := [(1, .int 0), (0, .ref g0)]) hx hb d_Mo_endRetreats_1 rfl hl (by decide) rfl (fun ls hl => ?_)
  have loop : ∀ (k i : Nat) (ls : Array Slot) (H : Heap) (locs : List Loc), i + k = n → lv_has ls 4 [(1, .int (nI i)), (0, .ref g0)] → va_P D vwCl [(g0, .inr (6, [.int co, .int (nI n), .ref m_sea, .ref m_center, .ref m_home, .ref m_borders, .int mp, .int mt, .ref m_owner, .ref m_units, .ref m_kind, .ref m_toX, .ref m_toY, .ref m_results, .ref m_known, .ref m_reached, .ref m_way, .ref m_aside, .ref m_origin, .ref m_retreats, .ref m_contested, .ref m_moved, .int msh, .ref m_past])), (m_center, .inl (cZ, 12, .inl (fun j => bI (Ce j)))), (m_home, .inl (cI, 12, .inl fh)), (m_owner, .inl (cI, 12, .inl fw)), (m_units, .inl (cI, 12, .inl fu)), (m_kind, .inl (cI, 12, .inl (fun j => nI (Kd j)))), (m_toX, .inl (cI, 12, .inl (fun j => nI (X j)))), (m_toY, .inl (cI, 12, .inl (fun j => nI (Y j)))), (m_aside, .inl (cI, 12, .inl fa)), (m_retreats, .inl (cI, 12, .inl fr)), (m_moved, .inl (cI, 12, .inl (mxI (fun _ => (-1)) fm i)))] H → va_D A [(g0, .inr (6, [.int co, .int (nI n), .ref m_sea, .ref m_center, .ref m_home, .ref m_borders, .int mp, .int mt, .ref m_owner, .ref m_units, .ref m_kind, .ref m_toX, .ref m_toY, .ref m_results, .ref m_known, .ref m_reached, .ref m_way, .ref m_aside, .ref m_origin, .ref m_retreats, .ref m_contested, .ref m_moved, .int msh, .ref m_past])), (m_center, .inl (cZ, 12, .inl (fun j => bI (Ce j)))), (m_home, .inl (cI, 12, .inl fh)), (m_owner, .inl (cI, 12, .inl fw)), (m_units, .inl (cI, 12, .inl fu)), (m_kind, .inl (cI, 12, .inl (fun j => nI (Kd j)))), (m_toX, .inl (cI, 12, .inl (fun j => nI (X j)))), (m_toY, .inl (cI, 12, .inl (fun j => nI (Y j)))), (m_aside, .inl (cI, 12, .inl fa)), (m_retreats, .inl (cI, 12, .inl fr)), (m_moved, .inl (cI, 12, .inl (mxI (fun _ => (-1)) fm i)))] → va_S A s.heap H locs → W p l e (headSpec w_Mo_endRetreats ({ frames := 2, cells := 0, slots := 0, locals := 48 })).room s m ([.ref g0]).toArray below meth c H locs 0 0 (MQ below (va_Qv (fun _ : Unit => True) (fun _ t => tB D A [(g0, .inr (6, [.int co, .int (nI n), .ref m_sea, .ref m_center, .ref m_home, .ref m_borders, .int 1, .int (mt + 1), .ref m_owner, .ref m_units, .ref m_kind, .ref m_toX, .ref m_toY, .ref m_results, .ref m_known, .ref m_reached, .ref m_way, .ref m_aside, .ref m_origin, .ref m_retreats, .ref m_contested, .ref m_moved, .int msh, .ref m_past])), (m_center, .inl (cZ, 12, .inl (fun j => bI (Ce j)))), (m_home, .inl (cI, 12, .inl fh)), (m_owner, .inl (cI, 12, .inl (mxI (tkR Ce fw (mxI (fun j => if (erM fa fr (mxI (fun _ => (-1)) fm n) n n) j < 0 then fu j else (erM fa fr (mxI (fun _ => (-1)) fm n) n n) j) fu n)) fw n))), (m_units, .inl (cI, 12, .inl (mxI (fun j => if (erM fa fr (mxI (fun _ => (-1)) fm n) n n) j < 0 then fu j else (erM fa fr (mxI (fun _ => (-1)) fm n) n n) j) fu n))), (m_kind, .inl (cI, 12, .inl (fun _ => 0))), (m_toX, .inl (cI, 12, .inl (fun _ => 0))), (m_toY, .inl (cI, 12, .inl (fun _ => 0))), (m_aside, .inl (cI, 12, .inl (mxI (fun _ => (-1)) fa n))), (m_retreats, .inl (cI, 12, .inl fr)), (m_moved, .inl (cI, 12, .inl (erM fa fr (mxI (fun _ => (-1)) fm n) n n)))] t) A) ([.ref g0]).toArray s 0 0 A) (F0 m 2 ls []) := by
    intro k
    induction k with
    | zero =>
      intro i ls H locs hi hl hP hD hS
      have hie : i = n := by omega
      rw [hie] at hl hP hD
      refine lv_iload_n hx hb d_Mo_endRetreats_2 rfl (lv_at hl 0 rfl) ?_
      refine lv_aload_n hx hb d_Mo_endRetreats_3 rfl (lv_at hl 1 rfl) ?_
      refine va_get (D := D) (ci := 6) (v := .int (nI n)) (C := R_Mo) (T := T_Mo) (N := 24) hx hb hts hin_Mo hown hK hP 0 rfl rfl 1 (by decide) (hts _ wd_705) (fun _ h9 => h9) rfl d_Mo_endRetreats_4 ?_
      refine lv_icmp_ge (tgt := 23) hx hb d_Mo_endRetreats_7 (by decide) (fun _ => ?_) (fun h0 => absurd (Int32.le_refl _) h0)
      refine lv_iconst (v := 0) hx hb d_Mo_endRetreats_23 (by decide) ?_
      refine lv_istore_n (lv' := [(1, .int 0), (0, .ref g0)]) hx hb d_Mo_endRetreats_24 rfl hl (by decide) rfl (fun ls hl => ?_)
      have loop2 : ∀ (k i : Nat) (ls : Array Slot) (H : Heap) (locs : List Loc), i + k = n → lv_has ls 4 [(1, .int (nI i)), (0, .ref g0)] → va_P D vwCl [(g0, .inr (6, [.int co, .int (nI n), .ref m_sea, .ref m_center, .ref m_home, .ref m_borders, .int mp, .int mt, .ref m_owner, .ref m_units, .ref m_kind, .ref m_toX, .ref m_toY, .ref m_results, .ref m_known, .ref m_reached, .ref m_way, .ref m_aside, .ref m_origin, .ref m_retreats, .ref m_contested, .ref m_moved, .int msh, .ref m_past])), (m_center, .inl (cZ, 12, .inl (fun j => bI (Ce j)))), (m_home, .inl (cI, 12, .inl fh)), (m_owner, .inl (cI, 12, .inl fw)), (m_units, .inl (cI, 12, .inl fu)), (m_kind, .inl (cI, 12, .inl (fun j => nI (Kd j)))), (m_toX, .inl (cI, 12, .inl (fun j => nI (X j)))), (m_toY, .inl (cI, 12, .inl (fun j => nI (Y j)))), (m_aside, .inl (cI, 12, .inl fa)), (m_retreats, .inl (cI, 12, .inl fr)), (m_moved, .inl (cI, 12, .inl (erM fa fr (mxI (fun _ => (-1)) fm n) n i)))] H → va_D A [(g0, .inr (6, [.int co, .int (nI n), .ref m_sea, .ref m_center, .ref m_home, .ref m_borders, .int mp, .int mt, .ref m_owner, .ref m_units, .ref m_kind, .ref m_toX, .ref m_toY, .ref m_results, .ref m_known, .ref m_reached, .ref m_way, .ref m_aside, .ref m_origin, .ref m_retreats, .ref m_contested, .ref m_moved, .int msh, .ref m_past])), (m_center, .inl (cZ, 12, .inl (fun j => bI (Ce j)))), (m_home, .inl (cI, 12, .inl fh)), (m_owner, .inl (cI, 12, .inl fw)), (m_units, .inl (cI, 12, .inl fu)), (m_kind, .inl (cI, 12, .inl (fun j => nI (Kd j)))), (m_toX, .inl (cI, 12, .inl (fun j => nI (X j)))), (m_toY, .inl (cI, 12, .inl (fun j => nI (Y j)))), (m_aside, .inl (cI, 12, .inl fa)), (m_retreats, .inl (cI, 12, .inl fr)), (m_moved, .inl (cI, 12, .inl (erM fa fr (mxI (fun _ => (-1)) fm n) n i)))] → va_S A s.heap H locs → W p l e (headSpec w_Mo_endRetreats ({ frames := 2, cells := 0, slots := 0, locals := 48 })).room s m ([.ref g0]).toArray below meth c H locs 0 0 (MQ below (va_Qv (fun _ : Unit => True) (fun _ t => tB D A [(g0, .inr (6, [.int co, .int (nI n), .ref m_sea, .ref m_center, .ref m_home, .ref m_borders, .int 1, .int (mt + 1), .ref m_owner, .ref m_units, .ref m_kind, .ref m_toX, .ref m_toY, .ref m_results, .ref m_known, .ref m_reached, .ref m_way, .ref m_aside, .ref m_origin, .ref m_retreats, .ref m_contested, .ref m_moved, .int msh, .ref m_past])), (m_center, .inl (cZ, 12, .inl (fun j => bI (Ce j)))), (m_home, .inl (cI, 12, .inl fh)), (m_owner, .inl (cI, 12, .inl (mxI (tkR Ce fw (mxI (fun j => if (erM fa fr (mxI (fun _ => (-1)) fm n) n n) j < 0 then fu j else (erM fa fr (mxI (fun _ => (-1)) fm n) n n) j) fu n)) fw n))), (m_units, .inl (cI, 12, .inl (mxI (fun j => if (erM fa fr (mxI (fun _ => (-1)) fm n) n n) j < 0 then fu j else (erM fa fr (mxI (fun _ => (-1)) fm n) n n) j) fu n))), (m_kind, .inl (cI, 12, .inl (fun _ => 0))), (m_toX, .inl (cI, 12, .inl (fun _ => 0))), (m_toY, .inl (cI, 12, .inl (fun _ => 0))), (m_aside, .inl (cI, 12, .inl (mxI (fun _ => (-1)) fa n))), (m_retreats, .inl (cI, 12, .inl fr)), (m_moved, .inl (cI, 12, .inl (erM fa fr (mxI (fun _ => (-1)) fm n) n n)))] t) A) ([.ref g0]).toArray s 0 0 A) (F0 m 25 ls []) := by
        intro k
        induction k with
        | zero =>
          intro i ls H locs hi hl hP hD hS
          have hie : i = n := by omega
          rw [hie] at hl hP hD
          refine lv_iload_n hx hb d_Mo_endRetreats_25 rfl (lv_at hl 0 rfl) ?_
          refine lv_aload_n hx hb d_Mo_endRetreats_26 rfl (lv_at hl 1 rfl) ?_
          refine va_get (D := D) (ci := 6) (v := .int (nI n)) (C := R_Mo) (T := T_Mo) (N := 24) hx hb hts hin_Mo hown hK hP 0 rfl rfl 1 (by decide) (hts _ wd_705) (fun _ h9 => h9) rfl d_Mo_endRetreats_27 ?_
          refine lv_icmp_ge (tgt := 139) hx hb d_Mo_endRetreats_30 (by decide) (fun _ => ?_) (fun h0 => absurd (Int32.le_refl _) h0)
          refine lv_iconst (v := 0) hx hb d_Mo_endRetreats_139 (by decide) ?_
          refine lv_istore_n (lv' := [(1, .int 0), (0, .ref g0)]) hx hb d_Mo_endRetreats_140 rfl hl (by decide) rfl (fun ls hl => ?_)
          have loop3 : ∀ (k i : Nat) (ls : Array Slot) (H : Heap) (locs : List Loc), i + k = n → lv_has ls 4 [(1, .int (nI i)), (0, .ref g0)] → va_P D vwCl [(g0, .inr (6, [.int co, .int (nI n), .ref m_sea, .ref m_center, .ref m_home, .ref m_borders, .int mp, .int mt, .ref m_owner, .ref m_units, .ref m_kind, .ref m_toX, .ref m_toY, .ref m_results, .ref m_known, .ref m_reached, .ref m_way, .ref m_aside, .ref m_origin, .ref m_retreats, .ref m_contested, .ref m_moved, .int msh, .ref m_past])), (m_center, .inl (cZ, 12, .inl (fun j => bI (Ce j)))), (m_home, .inl (cI, 12, .inl fh)), (m_owner, .inl (cI, 12, .inl fw)), (m_units, .inl (cI, 12, .inl (mxI (fun j => if (erM fa fr (mxI (fun _ => (-1)) fm n) n n) j < 0 then fu j else (erM fa fr (mxI (fun _ => (-1)) fm n) n n) j) fu i))), (m_kind, .inl (cI, 12, .inl (fun j => nI (Kd j)))), (m_toX, .inl (cI, 12, .inl (fun j => nI (X j)))), (m_toY, .inl (cI, 12, .inl (fun j => nI (Y j)))), (m_aside, .inl (cI, 12, .inl (mxI (fun _ => (-1)) fa i))), (m_retreats, .inl (cI, 12, .inl fr)), (m_moved, .inl (cI, 12, .inl (erM fa fr (mxI (fun _ => (-1)) fm n) n n)))] H → va_D A [(g0, .inr (6, [.int co, .int (nI n), .ref m_sea, .ref m_center, .ref m_home, .ref m_borders, .int mp, .int mt, .ref m_owner, .ref m_units, .ref m_kind, .ref m_toX, .ref m_toY, .ref m_results, .ref m_known, .ref m_reached, .ref m_way, .ref m_aside, .ref m_origin, .ref m_retreats, .ref m_contested, .ref m_moved, .int msh, .ref m_past])), (m_center, .inl (cZ, 12, .inl (fun j => bI (Ce j)))), (m_home, .inl (cI, 12, .inl fh)), (m_owner, .inl (cI, 12, .inl fw)), (m_units, .inl (cI, 12, .inl (mxI (fun j => if (erM fa fr (mxI (fun _ => (-1)) fm n) n n) j < 0 then fu j else (erM fa fr (mxI (fun _ => (-1)) fm n) n n) j) fu i))), (m_kind, .inl (cI, 12, .inl (fun j => nI (Kd j)))), (m_toX, .inl (cI, 12, .inl (fun j => nI (X j)))), (m_toY, .inl (cI, 12, .inl (fun j => nI (Y j)))), (m_aside, .inl (cI, 12, .inl (mxI (fun _ => (-1)) fa i))), (m_retreats, .inl (cI, 12, .inl fr)), (m_moved, .inl (cI, 12, .inl (erM fa fr (mxI (fun _ => (-1)) fm n) n n)))] → va_S A s.heap H locs → W p l e (headSpec w_Mo_endRetreats ({ frames := 2, cells := 0, slots := 0, locals := 48 })).room s m ([.ref g0]).toArray below meth c H locs 0 0 (MQ below (va_Qv (fun _ : Unit => True) (fun _ t => tB D A [(g0, .inr (6, [.int co, .int (nI n), .ref m_sea, .ref m_center, .ref m_home, .ref m_borders, .int 1, .int (mt + 1), .ref m_owner, .ref m_units, .ref m_kind, .ref m_toX, .ref m_toY, .ref m_results, .ref m_known, .ref m_reached, .ref m_way, .ref m_aside, .ref m_origin, .ref m_retreats, .ref m_contested, .ref m_moved, .int msh, .ref m_past])), (m_center, .inl (cZ, 12, .inl (fun j => bI (Ce j)))), (m_home, .inl (cI, 12, .inl fh)), (m_owner, .inl (cI, 12, .inl (mxI (tkR Ce fw (mxI (fun j => if (erM fa fr (mxI (fun _ => (-1)) fm n) n n) j < 0 then fu j else (erM fa fr (mxI (fun _ => (-1)) fm n) n n) j) fu n)) fw n))), (m_units, .inl (cI, 12, .inl (mxI (fun j => if (erM fa fr (mxI (fun _ => (-1)) fm n) n n) j < 0 then fu j else (erM fa fr (mxI (fun _ => (-1)) fm n) n n) j) fu n))), (m_kind, .inl (cI, 12, .inl (fun _ => 0))), (m_toX, .inl (cI, 12, .inl (fun _ => 0))), (m_toY, .inl (cI, 12, .inl (fun _ => 0))), (m_aside, .inl (cI, 12, .inl (mxI (fun _ => (-1)) fa n))), (m_retreats, .inl (cI, 12, .inl fr)), (m_moved, .inl (cI, 12, .inl (erM fa fr (mxI (fun _ => (-1)) fm n) n n)))] t) A) ([.ref g0]).toArray s 0 0 A) (F0 m 141 ls []) := by
            intro k
            induction k with
            | zero =>
              intro i ls H locs hi hl hP hD hS
              have hie : i = n := by omega
              rw [hie] at hl hP hD
              refine lv_iload_n hx hb d_Mo_endRetreats_141 rfl (lv_at hl 0 rfl) ?_
              refine lv_aload_n hx hb d_Mo_endRetreats_142 rfl (lv_at hl 1 rfl) ?_
              refine va_get (D := D) (ci := 6) (v := .int (nI n)) (C := R_Mo) (T := T_Mo) (N := 24) hx hb hts hin_Mo hown hK hP 0 rfl rfl 1 (by decide) (hts _ wd_705) (fun _ h9 => h9) rfl d_Mo_endRetreats_143 ?_
              refine lv_icmp_ge (tgt := 192) hx hb d_Mo_endRetreats_146 (by decide) (fun _ => ?_) (fun h0 => absurd (Int32.le_refl _) h0)
              refine lv_aload_n hx hb d_Mo_endRetreats_192 rfl (lv_at hl 1 rfl) ?_
              have hPc := hP.sub (ws' := [(g0, .inr (6, [.int co, .int (nI n), .ref m_sea, .ref m_center, .ref m_home, .ref m_borders, .int mp, .int mt, .ref m_owner, .ref m_units, .ref m_kind, .ref m_toX, .ref m_toY, .ref m_results, .ref m_known, .ref m_reached, .ref m_way, .ref m_aside, .ref m_origin, .ref m_retreats, .ref m_contested, .ref m_moved, .int msh, .ref m_past])), (m_center, .inl (cZ, 12, .inl (fun j => bI (Ce j)))), (m_home, .inl (cI, 12, .inl fh)), (m_owner, .inl (cI, 12, .inl fw)), (m_units, .inl (cI, 12, .inl (mxI (fun j => if (erM fa fr (mxI (fun _ => (-1)) fm n) n n) j < 0 then fu j else (erM fa fr (mxI (fun _ => (-1)) fm n) n n) j) fu n))), (m_kind, .inl (cI, 12, .inl (fun j => nI (Kd j)))), (m_toX, .inl (cI, 12, .inl (fun j => nI (X j)))), (m_toY, .inl (cI, 12, .inl (fun j => nI (Y j))))]) [0, 1, 2, 3, 4, 5, 6, 7] rfl
              have hDc := hD.sub (ws' := [(g0, .inr (6, [.int co, .int (nI n), .ref m_sea, .ref m_center, .ref m_home, .ref m_borders, .int mp, .int mt, .ref m_owner, .ref m_units, .ref m_kind, .ref m_toX, .ref m_toY, .ref m_results, .ref m_known, .ref m_reached, .ref m_way, .ref m_aside, .ref m_origin, .ref m_retreats, .ref m_contested, .ref m_moved, .int msh, .ref m_past])), (m_center, .inl (cZ, 12, .inl (fun j => bI (Ce j)))), (m_home, .inl (cI, 12, .inl fh)), (m_owner, .inl (cI, 12, .inl fw)), (m_units, .inl (cI, 12, .inl (mxI (fun j => if (erM fa fr (mxI (fun _ => (-1)) fm n) n n) j < 0 then fu j else (erM fa fr (mxI (fun _ => (-1)) fm n) n n) j) fu n))), (m_kind, .inl (cI, 12, .inl (fun j => nI (Kd j)))), (m_toX, .inl (cI, 12, .inl (fun j => nI (X j)))), (m_toY, .inl (cI, 12, .inl (fun j => nI (Y j))))]) [0, 1, 2, 3, 4, 5, 6, 7] (by decide) rfl
              have hFc := va_free (wc := [(g0, .inr (6, [.int co, .int (nI n), .ref m_sea, .ref m_center, .ref m_home, .ref m_borders, .int mp, .int mt, .ref m_owner, .ref m_units, .ref m_kind, .ref m_toX, .ref m_toY, .ref m_results, .ref m_known, .ref m_reached, .ref m_way, .ref m_aside, .ref m_origin, .ref m_retreats, .ref m_contested, .ref m_moved, .int msh, .ref m_past])), (m_center, .inl (cZ, 12, .inl (fun j => bI (Ce j)))), (m_home, .inl (cI, 12, .inl fh)), (m_owner, .inl (cI, 12, .inl fw)), (m_units, .inl (cI, 12, .inl (mxI (fun j => if (erM fa fr (mxI (fun _ => (-1)) fm n) n n) j < 0 then fu j else (erM fa fr (mxI (fun _ => (-1)) fm n) n n) j) fu n))), (m_kind, .inl (cI, 12, .inl (fun j => nI (Kd j)))), (m_toX, .inl (cI, 12, .inl (fun j => nI (X j)))), (m_toY, .inl (cI, 12, .inl (fun j => nI (Y j))))]) hD hS hA [0, 1, 2, 3, 4, 5, 6, 7] rfl
              refine va_callv (va_runV (As := []) (rest := []) ⟨hx, hb, hml, hown, hts⟩ (c_Mo_endTurnN l D cI cZ cJ cS aT ceT H.size g0 m_sea m_center m_home m_borders m_owner m_units m_kind m_toX m_toY m_results m_known m_reached m_way m_aside m_origin m_retreats m_contested m_moved m_past n co mp mt msh Ce fh fw (mxI (fun j => if (erM fa fr (mxI (fun _ => (-1)) fm n) n n) j < 0 then fu j else (erM fa fr (mxI (fun _ => (-1)) fm n) n n) j) fu n) Kd X Y hKd hX9 hY9 hn hev hdu) (cwV 0 hts (tb_4 wd_937 wd_939 wp_68 wd_8 (tb_c wd_940)) rfl rfl rfl ⟨rfl, by decide, by decide, by decide +kernel⟩ ⟨Nat.le_of_ble_eq_true rfl, Nat.le_of_ble_eq_true rfl⟩) (tH_V hK hX (hS.2.1 aT hXl hXn) hPc hDc (q := 0) rfl rfl) rfl rfl hl.1 rfl (lv_room (Nat.le_of_ble_eq_true rfl)) d_Mo_endRetreats_193 ⟨Nat.le_of_ble_eq_true rfl, Nat.le_of_ble_eq_true rfl⟩) hS (fun q _ h => hFc q h) hFc (fun u t H1 locs ht hvm h9 hB hz1 hk1 hS => ?_)
              obtain ⟨hP1, hD1⟩ := hB
              rw [ht] at hP1
              obtain ⟨hP, hD⟩ := va_join (wr := [(m_aside, .inl (cI, 12, .inl (mxI (fun _ => (-1)) fa n))), (m_retreats, .inl (cI, 12, .inl fr)), (m_moved, .inl (cI, 12, .inl (erM fa fr (mxI (fun _ => (-1)) fm n) n n)))]) (w1 := [(g0, .inr (6, [.int co, .int (nI n), .ref m_sea, .ref m_center, .ref m_home, .ref m_borders, .int 1, .int (mt + 1), .ref m_owner, .ref m_units, .ref m_kind, .ref m_toX, .ref m_toY, .ref m_results, .ref m_known, .ref m_reached, .ref m_way, .ref m_aside, .ref m_origin, .ref m_retreats, .ref m_contested, .ref m_moved, .int msh, .ref m_past])), (m_center, .inl (cZ, 12, .inl (fun j => bI (Ce j)))), (m_home, .inl (cI, 12, .inl fh)), (m_owner, .inl (cI, 12, .inl (mxI (tkR Ce fw (mxI (fun j => if (erM fa fr (mxI (fun _ => (-1)) fm n) n n) j < 0 then fu j else (erM fa fr (mxI (fun _ => (-1)) fm n) n n) j) fu n)) fw n))), (m_units, .inl (cI, 12, .inl (mxI (fun j => if (erM fa fr (mxI (fun _ => (-1)) fm n) n n) j < 0 then fu j else (erM fa fr (mxI (fun _ => (-1)) fm n) n n) j) fu n))), (m_kind, .inl (cI, 12, .inl (fun _ => 0))), (m_toX, .inl (cI, 12, .inl (fun _ => 0))), (m_toY, .inl (cI, 12, .inl (fun _ => 0)))]) hP hD [0, 1, 2, 3, 4, 5, 6, 7] [8, 9, 10] rfl rfl (by decide) (by decide) hk1 hFc hP1 hD1
              generalize H1 = H at hP hS ⊢
              have hP : va_P D vwCl [(m_aside, .inl (cI, 12, .inl (mxI (fun _ => (-1)) fa n))), (m_retreats, .inl (cI, 12, .inl fr)), (m_moved, .inl (cI, 12, .inl (erM fa fr (mxI (fun _ => (-1)) fm n) n n))), (g0, .inr (6, [.int co, .int (nI n), .ref m_sea, .ref m_center, .ref m_home, .ref m_borders, .int 1, .int (mt + 1), .ref m_owner, .ref m_units, .ref m_kind, .ref m_toX, .ref m_toY, .ref m_results, .ref m_known, .ref m_reached, .ref m_way, .ref m_aside, .ref m_origin, .ref m_retreats, .ref m_contested, .ref m_moved, .int msh, .ref m_past])), (m_center, .inl (cZ, 12, .inl (fun j => bI (Ce j)))), (m_home, .inl (cI, 12, .inl fh)), (m_owner, .inl (cI, 12, .inl (mxI (tkR Ce fw (mxI (fun j => if (erM fa fr (mxI (fun _ => (-1)) fm n) n n) j < 0 then fu j else (erM fa fr (mxI (fun _ => (-1)) fm n) n n) j) fu n)) fw n))), (m_units, .inl (cI, 12, .inl (mxI (fun j => if (erM fa fr (mxI (fun _ => (-1)) fm n) n n) j < 0 then fu j else (erM fa fr (mxI (fun _ => (-1)) fm n) n n) j) fu n))), (m_kind, .inl (cI, 12, .inl (fun _ => 0))), (m_toX, .inl (cI, 12, .inl (fun _ => 0))), (m_toY, .inl (cI, 12, .inl (fun _ => 0)))] H := hP
              have hD : va_D A [(m_aside, .inl (cI, 12, .inl (mxI (fun _ => (-1)) fa n))), (m_retreats, .inl (cI, 12, .inl fr)), (m_moved, .inl (cI, 12, .inl (erM fa fr (mxI (fun _ => (-1)) fm n) n n))), (g0, .inr (6, [.int co, .int (nI n), .ref m_sea, .ref m_center, .ref m_home, .ref m_borders, .int 1, .int (mt + 1), .ref m_owner, .ref m_units, .ref m_kind, .ref m_toX, .ref m_toY, .ref m_results, .ref m_known, .ref m_reached, .ref m_way, .ref m_aside, .ref m_origin, .ref m_retreats, .ref m_contested, .ref m_moved, .int msh, .ref m_past])), (m_center, .inl (cZ, 12, .inl (fun j => bI (Ce j)))), (m_home, .inl (cI, 12, .inl fh)), (m_owner, .inl (cI, 12, .inl (mxI (tkR Ce fw (mxI (fun j => if (erM fa fr (mxI (fun _ => (-1)) fm n) n n) j < 0 then fu j else (erM fa fr (mxI (fun _ => (-1)) fm n) n n) j) fu n)) fw n))), (m_units, .inl (cI, 12, .inl (mxI (fun j => if (erM fa fr (mxI (fun _ => (-1)) fm n) n n) j < 0 then fu j else (erM fa fr (mxI (fun _ => (-1)) fm n) n n) j) fu n))), (m_kind, .inl (cI, 12, .inl (fun _ => 0))), (m_toX, .inl (cI, 12, .inl (fun _ => 0))), (m_toY, .inl (cI, 12, .inl (fun _ => 0)))] := hD
              have hP9 := hP.sub (ws' := [(g0, .inr (6, [.int co, .int (nI n), .ref m_sea, .ref m_center, .ref m_home, .ref m_borders, .int 1, .int (mt + 1), .ref m_owner, .ref m_units, .ref m_kind, .ref m_toX, .ref m_toY, .ref m_results, .ref m_known, .ref m_reached, .ref m_way, .ref m_aside, .ref m_origin, .ref m_retreats, .ref m_contested, .ref m_moved, .int msh, .ref m_past])), (m_center, .inl (cZ, 12, .inl (fun j => bI (Ce j)))), (m_home, .inl (cI, 12, .inl fh)), (m_owner, .inl (cI, 12, .inl (mxI (tkR Ce fw (mxI (fun j => if (erM fa fr (mxI (fun _ => (-1)) fm n) n n) j < 0 then fu j else (erM fa fr (mxI (fun _ => (-1)) fm n) n n) j) fu n)) fw n))), (m_units, .inl (cI, 12, .inl (mxI (fun j => if (erM fa fr (mxI (fun _ => (-1)) fm n) n n) j < 0 then fu j else (erM fa fr (mxI (fun _ => (-1)) fm n) n n) j) fu n))), (m_kind, .inl (cI, 12, .inl (fun _ => 0))), (m_toX, .inl (cI, 12, .inl (fun _ => 0))), (m_toY, .inl (cI, 12, .inl (fun _ => 0))), (m_aside, .inl (cI, 12, .inl (mxI (fun _ => (-1)) fa n))), (m_retreats, .inl (cI, 12, .inl fr)), (m_moved, .inl (cI, 12, .inl (erM fa fr (mxI (fun _ => (-1)) fm n) n n)))]) [3, 4, 5, 6, 7, 8, 9, 10, 0, 1, 2] rfl
              have hD9 := hD.sub (ws' := [(g0, .inr (6, [.int co, .int (nI n), .ref m_sea, .ref m_center, .ref m_home, .ref m_borders, .int 1, .int (mt + 1), .ref m_owner, .ref m_units, .ref m_kind, .ref m_toX, .ref m_toY, .ref m_results, .ref m_known, .ref m_reached, .ref m_way, .ref m_aside, .ref m_origin, .ref m_retreats, .ref m_contested, .ref m_moved, .int msh, .ref m_past])), (m_center, .inl (cZ, 12, .inl (fun j => bI (Ce j)))), (m_home, .inl (cI, 12, .inl fh)), (m_owner, .inl (cI, 12, .inl (mxI (tkR Ce fw (mxI (fun j => if (erM fa fr (mxI (fun _ => (-1)) fm n) n n) j < 0 then fu j else (erM fa fr (mxI (fun _ => (-1)) fm n) n n) j) fu n)) fw n))), (m_units, .inl (cI, 12, .inl (mxI (fun j => if (erM fa fr (mxI (fun _ => (-1)) fm n) n n) j < 0 then fu j else (erM fa fr (mxI (fun _ => (-1)) fm n) n n) j) fu n))), (m_kind, .inl (cI, 12, .inl (fun _ => 0))), (m_toX, .inl (cI, 12, .inl (fun _ => 0))), (m_toY, .inl (cI, 12, .inl (fun _ => 0))), (m_aside, .inl (cI, 12, .inl (mxI (fun _ => (-1)) fa n))), (m_retreats, .inl (cI, 12, .inl fr)), (m_moved, .inl (cI, 12, .inl (erM fa fr (mxI (fun _ => (-1)) fm n) n n)))]) [3, 4, 5, 6, 7, 8, 9, 10, 0, 1, 2] (by decide) rfl
              exact W.vret hx hb hr (fun t ht hW => ⟨⟨(), rfl, trivial, by rw [ht]; exact hP9, hD9⟩, hS.F ht⟩) hS.2.2 d_Mo_endRetreats_196
            | succ k ih =>
              intro i ls H locs hi hl hP hD hS
              have hlt : i < n := by omega
              have hlt12 : i < 12 := by omega
              refine lv_iload_n hx hb d_Mo_endRetreats_141 rfl (lv_at hl 0 rfl) ?_
              refine lv_aload_n hx hb d_Mo_endRetreats_142 rfl (lv_at hl 1 rfl) ?_
              refine va_get (D := D) (ci := 6) (v := .int (nI n)) (C := R_Mo) (T := T_Mo) (N := 24) hx hb hts hin_Mo hown hK hP 0 rfl rfl 1 (by decide) (hts _ wd_705) (fun _ h9 => h9) rfl d_Mo_endRetreats_143 ?_
              refine lv_icmp_ge (tgt := 192) hx hb d_Mo_endRetreats_146 (by decide) (fun h0 => absurd h0 (nI_ge hlt (by omega))) (fun _ => ?_)
              refine lv_aload_n hx hb d_Mo_endRetreats_149 rfl (lv_at hl 1 rfl) ?_
              refine va_get (D := D) (ci := 6) (v := .ref m_units) (C := R_Mo) (T := T_Mo) (N := 24) hx hb hts hin_Mo hown hK hP 0 rfl rfl 9 (by decide) (hts _ wd_713) (fun _ h9 => h9) rfl d_Mo_endRetreats_150 ?_
              refine lv_iload_n hx hb d_Mo_endRetreats_153 rfl (lv_at hl 0 rfl) ?_
              refine lv_aload_n hx hb d_Mo_endRetreats_154 rfl (lv_at hl 1 rfl) ?_
              refine va_get (D := D) (ci := 6) (v := .ref m_moved) (C := R_Mo) (T := T_Mo) (N := 24) hx hb hts hin_Mo hown hK hP 0 rfl rfl 21 (by decide) (hts _ wd_725) (fun _ h9 => h9) rfl d_Mo_endRetreats_155 ?_
              refine lv_iload_n hx hb d_Mo_endRetreats_158 rfl (lv_at hl 0 rfl) ?_
              refine tr_iald (v := (erM fa fr (mxI (fun _ => (-1)) fm n) n n) i) hx hb hK hP 10 0 rfl rfl i hlt12 (by decide) rfl d_Mo_endRetreats_159 ?_
              refine lv_if_lt (tgt := 172) hx hb d_Mo_endRetreats_160 (by decide) (fun hc5 => ?_) (fun hc5 => ?_)
              · -- 160 taken
                refine lv_aload_n hx hb d_Mo_endRetreats_172 rfl (lv_at hl 1 rfl) ?_
                refine va_get (D := D) (ci := 6) (v := .ref m_units) (C := R_Mo) (T := T_Mo) (N := 24) hx hb hts hin_Mo hown hK hP 0 rfl rfl 9 (by decide) (hts _ wd_713) (fun _ h9 => h9) rfl d_Mo_endRetreats_173 ?_
                refine lv_iload_n hx hb d_Mo_endRetreats_176 rfl (lv_at hl 0 rfl) ?_
                refine tr_iald (v := (mxI (fun j => if (erM fa fr (mxI (fun _ => (-1)) fm n) n n) j < 0 then fu j else (erM fa fr (mxI (fun _ => (-1)) fm n) n n) j) fu i) i) hx hb hK hP 4 0 rfl rfl i hlt12 (by decide) rfl d_Mo_endRetreats_177 ?_
                refine tr_iast (g := upd (mxI (fun j => if (erM fa fr (mxI (fun _ => (-1)) fm n) n n) j < 0 then fu j else (erM fa fr (mxI (fun _ => (-1)) fm n) n n) j) fu i) i ((mxI (fun j => if (erM fa fr (mxI (fun _ => (-1)) fm n) n n) j < 0 then fu j else (erM fa fr (mxI (fun _ => (-1)) fm n) n n) j) fu i) i)) hx hb hK hP hD hS 4 0 rfl rfl i hlt12 (by decide) rfl d_Mo_endRetreats_178 (fun H locs hP hD hS => ?_)
                have hP : va_P D vwCl [(g0, .inr (6, [.int co, .int (nI n), .ref m_sea, .ref m_center, .ref m_home, .ref m_borders, .int mp, .int mt, .ref m_owner, .ref m_units, .ref m_kind, .ref m_toX, .ref m_toY, .ref m_results, .ref m_known, .ref m_reached, .ref m_way, .ref m_aside, .ref m_origin, .ref m_retreats, .ref m_contested, .ref m_moved, .int msh, .ref m_past])), (m_center, .inl (cZ, 12, .inl (fun j => bI (Ce j)))), (m_home, .inl (cI, 12, .inl fh)), (m_owner, .inl (cI, 12, .inl fw)), (m_units, .inl (cI, 12, .inl (upd (mxI (fun j => if (erM fa fr (mxI (fun _ => (-1)) fm n) n n) j < 0 then fu j else (erM fa fr (mxI (fun _ => (-1)) fm n) n n) j) fu i) i ((mxI (fun j => if (erM fa fr (mxI (fun _ => (-1)) fm n) n n) j < 0 then fu j else (erM fa fr (mxI (fun _ => (-1)) fm n) n n) j) fu i) i)))), (m_kind, .inl (cI, 12, .inl (fun j => nI (Kd j)))), (m_toX, .inl (cI, 12, .inl (fun j => nI (X j)))), (m_toY, .inl (cI, 12, .inl (fun j => nI (Y j)))), (m_aside, .inl (cI, 12, .inl (mxI (fun _ => (-1)) fa i))), (m_retreats, .inl (cI, 12, .inl fr)), (m_moved, .inl (cI, 12, .inl (erM fa fr (mxI (fun _ => (-1)) fm n) n n)))] H := hP
                have hD : va_D A [(g0, .inr (6, [.int co, .int (nI n), .ref m_sea, .ref m_center, .ref m_home, .ref m_borders, .int mp, .int mt, .ref m_owner, .ref m_units, .ref m_kind, .ref m_toX, .ref m_toY, .ref m_results, .ref m_known, .ref m_reached, .ref m_way, .ref m_aside, .ref m_origin, .ref m_retreats, .ref m_contested, .ref m_moved, .int msh, .ref m_past])), (m_center, .inl (cZ, 12, .inl (fun j => bI (Ce j)))), (m_home, .inl (cI, 12, .inl fh)), (m_owner, .inl (cI, 12, .inl fw)), (m_units, .inl (cI, 12, .inl (upd (mxI (fun j => if (erM fa fr (mxI (fun _ => (-1)) fm n) n n) j < 0 then fu j else (erM fa fr (mxI (fun _ => (-1)) fm n) n n) j) fu i) i ((mxI (fun j => if (erM fa fr (mxI (fun _ => (-1)) fm n) n n) j < 0 then fu j else (erM fa fr (mxI (fun _ => (-1)) fm n) n n) j) fu i) i)))), (m_kind, .inl (cI, 12, .inl (fun j => nI (Kd j)))), (m_toX, .inl (cI, 12, .inl (fun j => nI (X j)))), (m_toY, .inl (cI, 12, .inl (fun j => nI (Y j)))), (m_aside, .inl (cI, 12, .inl (mxI (fun _ => (-1)) fa i))), (m_retreats, .inl (cI, 12, .inl fr)), (m_moved, .inl (cI, 12, .inl (erM fa fr (mxI (fun _ => (-1)) fm n) n n)))] := hD
                refine lv_aload_n hx hb d_Mo_endRetreats_179 rfl (lv_at hl 1 rfl) ?_
                refine va_get (D := D) (ci := 6) (v := .ref m_aside) (C := R_Mo) (T := T_Mo) (N := 24) hx hb hts hin_Mo hown hK hP 0 rfl rfl 17 (by decide) (hts _ wd_721) (fun _ h9 => h9) rfl d_Mo_endRetreats_180 ?_
                refine lv_iload_n hx hb d_Mo_endRetreats_183 rfl (lv_at hl 0 rfl) ?_
                refine lv_iconst (v := (-1)) hx hb d_Mo_endRetreats_184 (by decide) ?_
                refine tr_iast (g := upd (mxI (fun _ => (-1)) fa i) i (-1)) hx hb hK hP hD hS 8 0 rfl rfl i hlt12 (by decide) rfl d_Mo_endRetreats_185 (fun H locs hP hD hS => ?_)
                have hP : va_P D vwCl [(g0, .inr (6, [.int co, .int (nI n), .ref m_sea, .ref m_center, .ref m_home, .ref m_borders, .int mp, .int mt, .ref m_owner, .ref m_units, .ref m_kind, .ref m_toX, .ref m_toY, .ref m_results, .ref m_known, .ref m_reached, .ref m_way, .ref m_aside, .ref m_origin, .ref m_retreats, .ref m_contested, .ref m_moved, .int msh, .ref m_past])), (m_center, .inl (cZ, 12, .inl (fun j => bI (Ce j)))), (m_home, .inl (cI, 12, .inl fh)), (m_owner, .inl (cI, 12, .inl fw)), (m_units, .inl (cI, 12, .inl (upd (mxI (fun j => if (erM fa fr (mxI (fun _ => (-1)) fm n) n n) j < 0 then fu j else (erM fa fr (mxI (fun _ => (-1)) fm n) n n) j) fu i) i ((mxI (fun j => if (erM fa fr (mxI (fun _ => (-1)) fm n) n n) j < 0 then fu j else (erM fa fr (mxI (fun _ => (-1)) fm n) n n) j) fu i) i)))), (m_kind, .inl (cI, 12, .inl (fun j => nI (Kd j)))), (m_toX, .inl (cI, 12, .inl (fun j => nI (X j)))), (m_toY, .inl (cI, 12, .inl (fun j => nI (Y j)))), (m_aside, .inl (cI, 12, .inl (upd (mxI (fun _ => (-1)) fa i) i (-1)))), (m_retreats, .inl (cI, 12, .inl fr)), (m_moved, .inl (cI, 12, .inl (erM fa fr (mxI (fun _ => (-1)) fm n) n n)))] H := hP
                have hD : va_D A [(g0, .inr (6, [.int co, .int (nI n), .ref m_sea, .ref m_center, .ref m_home, .ref m_borders, .int mp, .int mt, .ref m_owner, .ref m_units, .ref m_kind, .ref m_toX, .ref m_toY, .ref m_results, .ref m_known, .ref m_reached, .ref m_way, .ref m_aside, .ref m_origin, .ref m_retreats, .ref m_contested, .ref m_moved, .int msh, .ref m_past])), (m_center, .inl (cZ, 12, .inl (fun j => bI (Ce j)))), (m_home, .inl (cI, 12, .inl fh)), (m_owner, .inl (cI, 12, .inl fw)), (m_units, .inl (cI, 12, .inl (upd (mxI (fun j => if (erM fa fr (mxI (fun _ => (-1)) fm n) n n) j < 0 then fu j else (erM fa fr (mxI (fun _ => (-1)) fm n) n n) j) fu i) i ((mxI (fun j => if (erM fa fr (mxI (fun _ => (-1)) fm n) n n) j < 0 then fu j else (erM fa fr (mxI (fun _ => (-1)) fm n) n n) j) fu i) i)))), (m_kind, .inl (cI, 12, .inl (fun j => nI (Kd j)))), (m_toX, .inl (cI, 12, .inl (fun j => nI (X j)))), (m_toY, .inl (cI, 12, .inl (fun j => nI (Y j)))), (m_aside, .inl (cI, 12, .inl (upd (mxI (fun _ => (-1)) fa i) i (-1)))), (m_retreats, .inl (cI, 12, .inl fr)), (m_moved, .inl (cI, 12, .inl (erM fa fr (mxI (fun _ => (-1)) fm n) n n)))] := hD
                refine lv_iinc (lv' := [(1, .int ((nI i) + 1)), (0, .ref g0)]) hx hb d_Mo_endRetreats_186 hl (k := 0) rfl rfl (by decide) rfl (fun ls hl => ?_)
                refine lv_goto (tgt := 141) hx hb d_Mo_endRetreats_189 (by decide) ?_
                have e6 : (nI i) + 1 = nI (i + 1) := nI_1 i
                have eo7 : (upd (mxI (fun j => if (erM fa fr (mxI (fun _ => (-1)) fm n) n n) j < 0 then fu j else (erM fa fr (mxI (fun _ => (-1)) fm n) n n) j) fu i) i ((mxI (fun j => if (erM fa fr (mxI (fun _ => (-1)) fm n) n n) j < 0 then fu j else (erM fa fr (mxI (fun _ => (-1)) fm n) n n) j) fu i) i)) = (mxI (fun j => if (erM fa fr (mxI (fun _ => (-1)) fm n) n n) j < 0 then fu j else (erM fa fr (mxI (fun _ => (-1)) fm n) n n) j) fu (i + 1)) := mxI_s (by simp [mxI_at, hc5])
                have eo8 : (upd (mxI (fun _ => (-1)) fa i) i (-1)) = (mxI (fun _ => (-1)) fa (i + 1)) := mxI_s rfl
                exact ih (i + 1) ls H locs (by omega) (by rw [← e6]; exact lv_sub hl [0, 1] rfl) (by rw [← eo7, ← eo8]; exact hP) (by rw [← eo7, ← eo8]; exact hD) hS
              · -- 160 not taken
                refine lv_aload_n hx hb d_Mo_endRetreats_163 rfl (lv_at hl 1 rfl) ?_
                refine va_get (D := D) (ci := 6) (v := .ref m_moved) (C := R_Mo) (T := T_Mo) (N := 24) hx hb hts hin_Mo hown hK hP 0 rfl rfl 21 (by decide) (hts _ wd_725) (fun _ h9 => h9) rfl d_Mo_endRetreats_164 ?_
                refine lv_iload_n hx hb d_Mo_endRetreats_167 rfl (lv_at hl 0 rfl) ?_
                refine tr_iald (v := (erM fa fr (mxI (fun _ => (-1)) fm n) n n) i) hx hb hK hP 10 0 rfl rfl i hlt12 (by decide) rfl d_Mo_endRetreats_168 ?_
                refine lv_goto (tgt := 178) hx hb d_Mo_endRetreats_169 (by decide) ?_
                refine tr_iast (g := upd (mxI (fun j => if (erM fa fr (mxI (fun _ => (-1)) fm n) n n) j < 0 then fu j else (erM fa fr (mxI (fun _ => (-1)) fm n) n n) j) fu i) i ((erM fa fr (mxI (fun _ => (-1)) fm n) n n) i)) hx hb hK hP hD hS 4 0 rfl rfl i hlt12 (by decide) rfl d_Mo_endRetreats_178 (fun H locs hP hD hS => ?_)
                have hP : va_P D vwCl [(g0, .inr (6, [.int co, .int (nI n), .ref m_sea, .ref m_center, .ref m_home, .ref m_borders, .int mp, .int mt, .ref m_owner, .ref m_units, .ref m_kind, .ref m_toX, .ref m_toY, .ref m_results, .ref m_known, .ref m_reached, .ref m_way, .ref m_aside, .ref m_origin, .ref m_retreats, .ref m_contested, .ref m_moved, .int msh, .ref m_past])), (m_center, .inl (cZ, 12, .inl (fun j => bI (Ce j)))), (m_home, .inl (cI, 12, .inl fh)), (m_owner, .inl (cI, 12, .inl fw)), (m_units, .inl (cI, 12, .inl (upd (mxI (fun j => if (erM fa fr (mxI (fun _ => (-1)) fm n) n n) j < 0 then fu j else (erM fa fr (mxI (fun _ => (-1)) fm n) n n) j) fu i) i ((erM fa fr (mxI (fun _ => (-1)) fm n) n n) i)))), (m_kind, .inl (cI, 12, .inl (fun j => nI (Kd j)))), (m_toX, .inl (cI, 12, .inl (fun j => nI (X j)))), (m_toY, .inl (cI, 12, .inl (fun j => nI (Y j)))), (m_aside, .inl (cI, 12, .inl (mxI (fun _ => (-1)) fa i))), (m_retreats, .inl (cI, 12, .inl fr)), (m_moved, .inl (cI, 12, .inl (erM fa fr (mxI (fun _ => (-1)) fm n) n n)))] H := hP
                have hD : va_D A [(g0, .inr (6, [.int co, .int (nI n), .ref m_sea, .ref m_center, .ref m_home, .ref m_borders, .int mp, .int mt, .ref m_owner, .ref m_units, .ref m_kind, .ref m_toX, .ref m_toY, .ref m_results, .ref m_known, .ref m_reached, .ref m_way, .ref m_aside, .ref m_origin, .ref m_retreats, .ref m_contested, .ref m_moved, .int msh, .ref m_past])), (m_center, .inl (cZ, 12, .inl (fun j => bI (Ce j)))), (m_home, .inl (cI, 12, .inl fh)), (m_owner, .inl (cI, 12, .inl fw)), (m_units, .inl (cI, 12, .inl (upd (mxI (fun j => if (erM fa fr (mxI (fun _ => (-1)) fm n) n n) j < 0 then fu j else (erM fa fr (mxI (fun _ => (-1)) fm n) n n) j) fu i) i ((erM fa fr (mxI (fun _ => (-1)) fm n) n n) i)))), (m_kind, .inl (cI, 12, .inl (fun j => nI (Kd j)))), (m_toX, .inl (cI, 12, .inl (fun j => nI (X j)))), (m_toY, .inl (cI, 12, .inl (fun j => nI (Y j)))), (m_aside, .inl (cI, 12, .inl (mxI (fun _ => (-1)) fa i))), (m_retreats, .inl (cI, 12, .inl fr)), (m_moved, .inl (cI, 12, .inl (erM fa fr (mxI (fun _ => (-1)) fm n) n n)))] := hD
                refine lv_aload_n hx hb d_Mo_endRetreats_179 rfl (lv_at hl 1 rfl) ?_
                refine va_get (D := D) (ci := 6) (v := .ref m_aside) (C := R_Mo) (T := T_Mo) (N := 24) hx hb hts hin_Mo hown hK hP 0 rfl rfl 17 (by decide) (hts _ wd_721) (fun _ h9 => h9) rfl d_Mo_endRetreats_180 ?_
                refine lv_iload_n hx hb d_Mo_endRetreats_183 rfl (lv_at hl 0 rfl) ?_
                refine lv_iconst (v := (-1)) hx hb d_Mo_endRetreats_184 (by decide) ?_
                refine tr_iast (g := upd (mxI (fun _ => (-1)) fa i) i (-1)) hx hb hK hP hD hS 8 0 rfl rfl i hlt12 (by decide) rfl d_Mo_endRetreats_185 (fun H locs hP hD hS => ?_)
                have hP : va_P D vwCl [(g0, .inr (6, [.int co, .int (nI n), .ref m_sea, .ref m_center, .ref m_home, .ref m_borders, .int mp, .int mt, .ref m_owner, .ref m_units, .ref m_kind, .ref m_toX, .ref m_toY, .ref m_results, .ref m_known, .ref m_reached, .ref m_way, .ref m_aside, .ref m_origin, .ref m_retreats, .ref m_contested, .ref m_moved, .int msh, .ref m_past])), (m_center, .inl (cZ, 12, .inl (fun j => bI (Ce j)))), (m_home, .inl (cI, 12, .inl fh)), (m_owner, .inl (cI, 12, .inl fw)), (m_units, .inl (cI, 12, .inl (upd (mxI (fun j => if (erM fa fr (mxI (fun _ => (-1)) fm n) n n) j < 0 then fu j else (erM fa fr (mxI (fun _ => (-1)) fm n) n n) j) fu i) i ((erM fa fr (mxI (fun _ => (-1)) fm n) n n) i)))), (m_kind, .inl (cI, 12, .inl (fun j => nI (Kd j)))), (m_toX, .inl (cI, 12, .inl (fun j => nI (X j)))), (m_toY, .inl (cI, 12, .inl (fun j => nI (Y j)))), (m_aside, .inl (cI, 12, .inl (upd (mxI (fun _ => (-1)) fa i) i (-1)))), (m_retreats, .inl (cI, 12, .inl fr)), (m_moved, .inl (cI, 12, .inl (erM fa fr (mxI (fun _ => (-1)) fm n) n n)))] H := hP
                have hD : va_D A [(g0, .inr (6, [.int co, .int (nI n), .ref m_sea, .ref m_center, .ref m_home, .ref m_borders, .int mp, .int mt, .ref m_owner, .ref m_units, .ref m_kind, .ref m_toX, .ref m_toY, .ref m_results, .ref m_known, .ref m_reached, .ref m_way, .ref m_aside, .ref m_origin, .ref m_retreats, .ref m_contested, .ref m_moved, .int msh, .ref m_past])), (m_center, .inl (cZ, 12, .inl (fun j => bI (Ce j)))), (m_home, .inl (cI, 12, .inl fh)), (m_owner, .inl (cI, 12, .inl fw)), (m_units, .inl (cI, 12, .inl (upd (mxI (fun j => if (erM fa fr (mxI (fun _ => (-1)) fm n) n n) j < 0 then fu j else (erM fa fr (mxI (fun _ => (-1)) fm n) n n) j) fu i) i ((erM fa fr (mxI (fun _ => (-1)) fm n) n n) i)))), (m_kind, .inl (cI, 12, .inl (fun j => nI (Kd j)))), (m_toX, .inl (cI, 12, .inl (fun j => nI (X j)))), (m_toY, .inl (cI, 12, .inl (fun j => nI (Y j)))), (m_aside, .inl (cI, 12, .inl (upd (mxI (fun _ => (-1)) fa i) i (-1)))), (m_retreats, .inl (cI, 12, .inl fr)), (m_moved, .inl (cI, 12, .inl (erM fa fr (mxI (fun _ => (-1)) fm n) n n)))] := hD
                refine lv_iinc (lv' := [(1, .int ((nI i) + 1)), (0, .ref g0)]) hx hb d_Mo_endRetreats_186 hl (k := 0) rfl rfl (by decide) rfl (fun ls hl => ?_)
                refine lv_goto (tgt := 141) hx hb d_Mo_endRetreats_189 (by decide) ?_
                have e9 : (nI i) + 1 = nI (i + 1) := nI_1 i
                have eo10 : (upd (mxI (fun j => if (erM fa fr (mxI (fun _ => (-1)) fm n) n n) j < 0 then fu j else (erM fa fr (mxI (fun _ => (-1)) fm n) n n) j) fu i) i ((erM fa fr (mxI (fun _ => (-1)) fm n) n n) i)) = (mxI (fun j => if (erM fa fr (mxI (fun _ => (-1)) fm n) n n) j < 0 then fu j else (erM fa fr (mxI (fun _ => (-1)) fm n) n n) j) fu (i + 1)) := mxI_s (by simp [mxI_at, hc5])
                have eo11 : (upd (mxI (fun _ => (-1)) fa i) i (-1)) = (mxI (fun _ => (-1)) fa (i + 1)) := mxI_s rfl
                exact ih (i + 1) ls H locs (by omega) (by rw [← e9]; exact lv_sub hl [0, 1] rfl) (by rw [← eo10, ← eo11]; exact hP) (by rw [← eo10, ← eo11]; exact hD) hS
          have ei12 : (mxI (fun j => if (erM fa fr (mxI (fun _ => (-1)) fm n) n n) j < 0 then fu j else (erM fa fr (mxI (fun _ => (-1)) fm n) n n) j) fu 0) = (fu) := mxI_0 _ _
          have ei13 : (mxI (fun _ => (-1)) fa 0) = (fa) := mxI_0 _ _
          exact loop3 n 0 ls _ _ (Nat.zero_add _) hl (by rw [ei12, ei13]; exact hP) (by rw [ei12, ei13]; exact hD) hS
        | succ k ih =>
          intro i ls H locs hi hl hP hD hS
          have hlt : i < n := by omega
          have hlt12 : i < 12 := by omega
          refine lv_iload_n hx hb d_Mo_endRetreats_25 rfl (lv_at hl 0 rfl) ?_
          refine lv_aload_n hx hb d_Mo_endRetreats_26 rfl (lv_at hl 1 rfl) ?_
          refine va_get (D := D) (ci := 6) (v := .int (nI n)) (C := R_Mo) (T := T_Mo) (N := 24) hx hb hts hin_Mo hown hK hP 0 rfl rfl 1 (by decide) (hts _ wd_705) (fun _ h9 => h9) rfl d_Mo_endRetreats_27 ?_
          refine lv_icmp_ge (tgt := 139) hx hb d_Mo_endRetreats_30 (by decide) (fun h0 => absurd h0 (nI_ge hlt (by omega))) (fun _ => ?_)
          refine lv_aload_n hx hb d_Mo_endRetreats_33 rfl (lv_at hl 1 rfl) ?_
          refine va_get (D := D) (ci := 6) (v := .ref m_aside) (C := R_Mo) (T := T_Mo) (N := 24) hx hb hts hin_Mo hown hK hP 0 rfl rfl 17 (by decide) (hts _ wd_721) (fun _ h9 => h9) rfl d_Mo_endRetreats_34 ?_
          refine lv_iload_n hx hb d_Mo_endRetreats_37 rfl (lv_at hl 0 rfl) ?_
          refine tr_iald (v := fa i) hx hb hK hP 8 0 rfl rfl i hlt12 (by decide) rfl d_Mo_endRetreats_38 ?_
          refine lv_if_lt (tgt := 55) hx hb d_Mo_endRetreats_39 (by decide) (fun hc15 => ?_) (fun hc15 => ?_)
          · -- 39 taken
            refine lv_iconst (v := 0) hx hb d_Mo_endRetreats_55 (by decide) ?_
            refine lv_istore_n (lv' := [(2, .int 0), (1, .int (nI i)), (0, .ref g0)]) hx hb d_Mo_endRetreats_56 rfl hl (by decide) rfl (fun ls hl => ?_)
            refine lv_iconst (v := 0) hx hb d_Mo_endRetreats_57 (by decide) ?_
            refine lv_istore_n (lv' := [(3, .int 0), (2, .int 0), (1, .int (nI i)), (0, .ref g0)]) hx hb d_Mo_endRetreats_58 rfl hl (by decide) rfl (fun ls hl => ?_)
            have nloop : ∀ (k9 i9 : Nat) (ls : Array Slot), i9 + k9 = n → lv_has ls 4 [(3, .int (nI i9)), (2, .int 0), (1, .int (nI i)), (0, .ref g0)] → W p l e (headSpec w_Mo_endRetreats ({ frames := 2, cells := 0, slots := 0, locals := 48 })).room s m ([.ref g0]).toArray below meth c H locs 0 0 (MQ below (va_Qv (fun _ : Unit => True) (fun _ t => tB D A [(g0, .inr (6, [.int co, .int (nI n), .ref m_sea, .ref m_center, .ref m_home, .ref m_borders, .int 1, .int (mt + 1), .ref m_owner, .ref m_units, .ref m_kind, .ref m_toX, .ref m_toY, .ref m_results, .ref m_known, .ref m_reached, .ref m_way, .ref m_aside, .ref m_origin, .ref m_retreats, .ref m_contested, .ref m_moved, .int msh, .ref m_past])), (m_center, .inl (cZ, 12, .inl (fun j => bI (Ce j)))), (m_home, .inl (cI, 12, .inl fh)), (m_owner, .inl (cI, 12, .inl (mxI (tkR Ce fw (mxI (fun j => if (erM fa fr (mxI (fun _ => (-1)) fm n) n n) j < 0 then fu j else (erM fa fr (mxI (fun _ => (-1)) fm n) n n) j) fu n)) fw n))), (m_units, .inl (cI, 12, .inl (mxI (fun j => if (erM fa fr (mxI (fun _ => (-1)) fm n) n n) j < 0 then fu j else (erM fa fr (mxI (fun _ => (-1)) fm n) n n) j) fu n))), (m_kind, .inl (cI, 12, .inl (fun _ => 0))), (m_toX, .inl (cI, 12, .inl (fun _ => 0))), (m_toY, .inl (cI, 12, .inl (fun _ => 0))), (m_aside, .inl (cI, 12, .inl (mxI (fun _ => (-1)) fa n))), (m_retreats, .inl (cI, 12, .inl fr)), (m_moved, .inl (cI, 12, .inl (erM fa fr (mxI (fun _ => (-1)) fm n) n n)))] t) A) ([.ref g0]).toArray s 0 0 A) (F0 m 59 ls []) := by
              intro k9
              induction k9 with
              | zero =>
                intro i9 ls hi9 hl
                have hie9 : i9 = n := by omega
                rw [hie9] at hl
                refine lv_iload_n hx hb d_Mo_endRetreats_59 rfl (lv_at hl 0 rfl) ?_
                refine lv_aload_n hx hb d_Mo_endRetreats_60 rfl (lv_at hl 3 rfl) ?_
                refine va_get (D := D) (ci := 6) (v := .int (nI n)) (C := R_Mo) (T := T_Mo) (N := 24) hx hb hts hin_Mo hown hK hP 0 rfl rfl 1 (by decide) (hts _ wd_705) (fun _ h9 => h9) rfl d_Mo_endRetreats_61 ?_
                refine lv_icmp_ge (tgt := 112) hx hb d_Mo_endRetreats_64 (by decide) (fun _ => ?_) (fun h0 => absurd (Int32.le_refl _) h0)
                refine lv_iload_n hx hb d_Mo_endRetreats_112 rfl (lv_at hl 1 rfl) ?_
                refine lv_if_eq (tgt := 133) hx hb d_Mo_endRetreats_113 (by decide) (fun _ => ?_) (fun h0 => absurd (by decide) h0)
                refine lv_iinc (lv' := [(1, .int ((nI i) + 1)), (3, .int (nI n)), (2, .int 0), (0, .ref g0)]) hx hb d_Mo_endRetreats_133 hl (k := 2) rfl rfl (by decide) rfl (fun ls hl => ?_)
                refine lv_goto (tgt := 25) hx hb d_Mo_endRetreats_136 (by decide) ?_
                have e18 : (nI i) + 1 = nI (i + 1) := nI_1 i
                have eo19 : (erM fa fr (mxI (fun _ => (-1)) fm n) n i) = (erM fa fr (mxI (fun _ => (-1)) fm n) n (i + 1)) := erM_n (by simp [alR, hc15])
                exact ih (i + 1) ls H locs (by omega) (by rw [← e18]; exact lv_sub hl [0, 3] rfl) (by rw [← eo19]; exact hP) (by rw [← eo19]; exact hD) hS
              | succ k9 ih9 =>
                intro i9 ls hi9 hl
                have hlt9 : i9 < n := by omega
                have hlt912 : i9 < 12 := by omega
                refine lv_iload_n hx hb d_Mo_endRetreats_59 rfl (lv_at hl 0 rfl) ?_
                refine lv_aload_n hx hb d_Mo_endRetreats_60 rfl (lv_at hl 3 rfl) ?_
                refine va_get (D := D) (ci := 6) (v := .int (nI n)) (C := R_Mo) (T := T_Mo) (N := 24) hx hb hts hin_Mo hown hK hP 0 rfl rfl 1 (by decide) (hts _ wd_705) (fun _ h9 => h9) rfl d_Mo_endRetreats_61 ?_
                refine lv_icmp_ge (tgt := 112) hx hb d_Mo_endRetreats_64 (by decide) (fun h0 => absurd h0 (nI_ge hlt9 (by omega))) (fun _ => ?_)
                refine lv_iload_n hx hb d_Mo_endRetreats_67 rfl (lv_at hl 1 rfl) ?_
                refine lv_if_eq (tgt := 104) hx hb d_Mo_endRetreats_68 (by decide) (fun _ => ?_) (fun h0 => absurd (by decide) h0)
                refine lv_iconst (v := 0) hx hb d_Mo_endRetreats_104 (by decide) ?_
                refine lv_istore_n (lv' := [(2, .int 0), (3, .int (nI i9)), (1, .int (nI i)), (0, .ref g0)]) hx hb d_Mo_endRetreats_105 rfl hl (by decide) rfl (fun ls hl => ?_)
                refine lv_iinc (lv' := [(3, .int ((nI i9) + 1)), (2, .int 0), (1, .int (nI i)), (0, .ref g0)]) hx hb d_Mo_endRetreats_106 hl (k := 1) rfl rfl (by decide) rfl (fun ls hl => ?_)
                refine lv_goto (tgt := 59) hx hb d_Mo_endRetreats_109 (by decide) ?_
                have e22 : (nI i9) + 1 = nI (i9 + 1) := nI_1 i9
                exact ih9 (i9 + 1) ls (by omega) (by rw [← e22]; exact lv_sub hl [0, 1, 2, 3] rfl)
            exact nloop n 0 ls (Nat.zero_add _) hl
          · -- 39 not taken
            refine lv_aload_n hx hb d_Mo_endRetreats_42 rfl (lv_at hl 1 rfl) ?_
            refine va_get (D := D) (ci := 6) (v := .ref m_retreats) (C := R_Mo) (T := T_Mo) (N := 24) hx hb hts hin_Mo hown hK hP 0 rfl rfl 19 (by decide) (hts _ wd_723) (fun _ h9 => h9) rfl d_Mo_endRetreats_43 ?_
            refine lv_iload_n hx hb d_Mo_endRetreats_46 rfl (lv_at hl 0 rfl) ?_
            refine tr_iald (v := fr i) hx hb hK hP 9 0 rfl rfl i hlt12 (by decide) rfl d_Mo_endRetreats_47 ?_
            refine lv_if_lt (tgt := 55) hx hb d_Mo_endRetreats_48 (by decide) (fun hc23 => ?_) (fun hc23 => ?_)
            · -- 48 taken
              refine lv_iconst (v := 0) hx hb d_Mo_endRetreats_55 (by decide) ?_
              refine lv_istore_n (lv' := [(2, .int 0), (1, .int (nI i)), (0, .ref g0)]) hx hb d_Mo_endRetreats_56 rfl hl (by decide) rfl (fun ls hl => ?_)
              refine lv_iconst (v := 0) hx hb d_Mo_endRetreats_57 (by decide) ?_
              refine lv_istore_n (lv' := [(3, .int 0), (2, .int 0), (1, .int (nI i)), (0, .ref g0)]) hx hb d_Mo_endRetreats_58 rfl hl (by decide) rfl (fun ls hl => ?_)
              have nloop : ∀ (k9 i9 : Nat) (ls : Array Slot), i9 + k9 = n → lv_has ls 4 [(3, .int (nI i9)), (2, .int 0), (1, .int (nI i)), (0, .ref g0)] → W p l e (headSpec w_Mo_endRetreats ({ frames := 2, cells := 0, slots := 0, locals := 48 })).room s m ([.ref g0]).toArray below meth c H locs 0 0 (MQ below (va_Qv (fun _ : Unit => True) (fun _ t => tB D A [(g0, .inr (6, [.int co, .int (nI n), .ref m_sea, .ref m_center, .ref m_home, .ref m_borders, .int 1, .int (mt + 1), .ref m_owner, .ref m_units, .ref m_kind, .ref m_toX, .ref m_toY, .ref m_results, .ref m_known, .ref m_reached, .ref m_way, .ref m_aside, .ref m_origin, .ref m_retreats, .ref m_contested, .ref m_moved, .int msh, .ref m_past])), (m_center, .inl (cZ, 12, .inl (fun j => bI (Ce j)))), (m_home, .inl (cI, 12, .inl fh)), (m_owner, .inl (cI, 12, .inl (mxI (tkR Ce fw (mxI (fun j => if (erM fa fr (mxI (fun _ => (-1)) fm n) n n) j < 0 then fu j else (erM fa fr (mxI (fun _ => (-1)) fm n) n n) j) fu n)) fw n))), (m_units, .inl (cI, 12, .inl (mxI (fun j => if (erM fa fr (mxI (fun _ => (-1)) fm n) n n) j < 0 then fu j else (erM fa fr (mxI (fun _ => (-1)) fm n) n n) j) fu n))), (m_kind, .inl (cI, 12, .inl (fun _ => 0))), (m_toX, .inl (cI, 12, .inl (fun _ => 0))), (m_toY, .inl (cI, 12, .inl (fun _ => 0))), (m_aside, .inl (cI, 12, .inl (mxI (fun _ => (-1)) fa n))), (m_retreats, .inl (cI, 12, .inl fr)), (m_moved, .inl (cI, 12, .inl (erM fa fr (mxI (fun _ => (-1)) fm n) n n)))] t) A) ([.ref g0]).toArray s 0 0 A) (F0 m 59 ls []) := by
                intro k9
                induction k9 with
                | zero =>
                  intro i9 ls hi9 hl
                  have hie9 : i9 = n := by omega
                  rw [hie9] at hl
                  refine lv_iload_n hx hb d_Mo_endRetreats_59 rfl (lv_at hl 0 rfl) ?_
                  refine lv_aload_n hx hb d_Mo_endRetreats_60 rfl (lv_at hl 3 rfl) ?_
                  refine va_get (D := D) (ci := 6) (v := .int (nI n)) (C := R_Mo) (T := T_Mo) (N := 24) hx hb hts hin_Mo hown hK hP 0 rfl rfl 1 (by decide) (hts _ wd_705) (fun _ h9 => h9) rfl d_Mo_endRetreats_61 ?_
                  refine lv_icmp_ge (tgt := 112) hx hb d_Mo_endRetreats_64 (by decide) (fun _ => ?_) (fun h0 => absurd (Int32.le_refl _) h0)
                  refine lv_iload_n hx hb d_Mo_endRetreats_112 rfl (lv_at hl 1 rfl) ?_
                  refine lv_if_eq (tgt := 133) hx hb d_Mo_endRetreats_113 (by decide) (fun _ => ?_) (fun h0 => absurd (by decide) h0)
                  refine lv_iinc (lv' := [(1, .int ((nI i) + 1)), (3, .int (nI n)), (2, .int 0), (0, .ref g0)]) hx hb d_Mo_endRetreats_133 hl (k := 2) rfl rfl (by decide) rfl (fun ls hl => ?_)
                  refine lv_goto (tgt := 25) hx hb d_Mo_endRetreats_136 (by decide) ?_
                  have e26 : (nI i) + 1 = nI (i + 1) := nI_1 i
                  have eo27 : (erM fa fr (mxI (fun _ => (-1)) fm n) n i) = (erM fa fr (mxI (fun _ => (-1)) fm n) n (i + 1)) := erM_n (by simp [alR, hc15, hc23])
                  exact ih (i + 1) ls H locs (by omega) (by rw [← e26]; exact lv_sub hl [0, 3] rfl) (by rw [← eo27]; exact hP) (by rw [← eo27]; exact hD) hS
                | succ k9 ih9 =>
                  intro i9 ls hi9 hl
                  have hlt9 : i9 < n := by omega
                  have hlt912 : i9 < 12 := by omega
                  refine lv_iload_n hx hb d_Mo_endRetreats_59 rfl (lv_at hl 0 rfl) ?_
                  refine lv_aload_n hx hb d_Mo_endRetreats_60 rfl (lv_at hl 3 rfl) ?_
                  refine va_get (D := D) (ci := 6) (v := .int (nI n)) (C := R_Mo) (T := T_Mo) (N := 24) hx hb hts hin_Mo hown hK hP 0 rfl rfl 1 (by decide) (hts _ wd_705) (fun _ h9 => h9) rfl d_Mo_endRetreats_61 ?_
                  refine lv_icmp_ge (tgt := 112) hx hb d_Mo_endRetreats_64 (by decide) (fun h0 => absurd h0 (nI_ge hlt9 (by omega))) (fun _ => ?_)
                  refine lv_iload_n hx hb d_Mo_endRetreats_67 rfl (lv_at hl 1 rfl) ?_
                  refine lv_if_eq (tgt := 104) hx hb d_Mo_endRetreats_68 (by decide) (fun _ => ?_) (fun h0 => absurd (by decide) h0)
                  refine lv_iconst (v := 0) hx hb d_Mo_endRetreats_104 (by decide) ?_
                  refine lv_istore_n (lv' := [(2, .int 0), (3, .int (nI i9)), (1, .int (nI i)), (0, .ref g0)]) hx hb d_Mo_endRetreats_105 rfl hl (by decide) rfl (fun ls hl => ?_)
                  refine lv_iinc (lv' := [(3, .int ((nI i9) + 1)), (2, .int 0), (1, .int (nI i)), (0, .ref g0)]) hx hb d_Mo_endRetreats_106 hl (k := 1) rfl rfl (by decide) rfl (fun ls hl => ?_)
                  refine lv_goto (tgt := 59) hx hb d_Mo_endRetreats_109 (by decide) ?_
                  have e30 : (nI i9) + 1 = nI (i9 + 1) := nI_1 i9
                  exact ih9 (i9 + 1) ls (by omega) (by rw [← e30]; exact lv_sub hl [0, 1, 2, 3] rfl)
              exact nloop n 0 ls (Nat.zero_add _) hl
            · -- 48 not taken
              refine lv_iconst (v := 1) hx hb d_Mo_endRetreats_51 (by decide) ?_
              refine lv_goto (tgt := 56) hx hb d_Mo_endRetreats_52 (by decide) ?_
              refine lv_istore_n (lv' := [(2, .int 1), (1, .int (nI i)), (0, .ref g0)]) hx hb d_Mo_endRetreats_56 rfl hl (by decide) rfl (fun ls hl => ?_)
              refine lv_iconst (v := 0) hx hb d_Mo_endRetreats_57 (by decide) ?_
              refine lv_istore_n (lv' := [(3, .int 0), (2, .int 1), (1, .int (nI i)), (0, .ref g0)]) hx hb d_Mo_endRetreats_58 rfl hl (by decide) rfl (fun ls hl => ?_)
              have nloop : ∀ (k9 i9 : Nat) (ls : Array Slot), i9 + k9 = n → lv_has ls 4 [(3, .int (nI i9)), (2, .int (bI (!anyB (fun b => !decide (b = i) && !decide (fa b < 0) && decide (fr b = fr i)) i9))), (1, .int (nI i)), (0, .ref g0)] → W p l e (headSpec w_Mo_endRetreats ({ frames := 2, cells := 0, slots := 0, locals := 48 })).room s m ([.ref g0]).toArray below meth c H locs 0 0 (MQ below (va_Qv (fun _ : Unit => True) (fun _ t => tB D A [(g0, .inr (6, [.int co, .int (nI n), .ref m_sea, .ref m_center, .ref m_home, .ref m_borders, .int 1, .int (mt + 1), .ref m_owner, .ref m_units, .ref m_kind, .ref m_toX, .ref m_toY, .ref m_results, .ref m_known, .ref m_reached, .ref m_way, .ref m_aside, .ref m_origin, .ref m_retreats, .ref m_contested, .ref m_moved, .int msh, .ref m_past])), (m_center, .inl (cZ, 12, .inl (fun j => bI (Ce j)))), (m_home, .inl (cI, 12, .inl fh)), (m_owner, .inl (cI, 12, .inl (mxI (tkR Ce fw (mxI (fun j => if (erM fa fr (mxI (fun _ => (-1)) fm n) n n) j < 0 then fu j else (erM fa fr (mxI (fun _ => (-1)) fm n) n n) j) fu n)) fw n))), (m_units, .inl (cI, 12, .inl (mxI (fun j => if (erM fa fr (mxI (fun _ => (-1)) fm n) n n) j < 0 then fu j else (erM fa fr (mxI (fun _ => (-1)) fm n) n n) j) fu n))), (m_kind, .inl (cI, 12, .inl (fun _ => 0))), (m_toX, .inl (cI, 12, .inl (fun _ => 0))), (m_toY, .inl (cI, 12, .inl (fun _ => 0))), (m_aside, .inl (cI, 12, .inl (mxI (fun _ => (-1)) fa n))), (m_retreats, .inl (cI, 12, .inl fr)), (m_moved, .inl (cI, 12, .inl (erM fa fr (mxI (fun _ => (-1)) fm n) n n)))] t) A) ([.ref g0]).toArray s 0 0 A) (F0 m 59 ls []) := by
                intro k9
                induction k9 with
                | zero =>
                  intro i9 ls hi9 hl
                  have hie9 : i9 = n := by omega
                  rw [hie9] at hl
                  refine lv_iload_n hx hb d_Mo_endRetreats_59 rfl (lv_at hl 0 rfl) ?_
                  refine lv_aload_n hx hb d_Mo_endRetreats_60 rfl (lv_at hl 3 rfl) ?_
                  refine va_get (D := D) (ci := 6) (v := .int (nI n)) (C := R_Mo) (T := T_Mo) (N := 24) hx hb hts hin_Mo hown hK hP 0 rfl rfl 1 (by decide) (hts _ wd_705) (fun _ h9 => h9) rfl d_Mo_endRetreats_61 ?_
                  refine lv_icmp_ge (tgt := 112) hx hb d_Mo_endRetreats_64 (by decide) (fun _ => ?_) (fun h0 => absurd (Int32.le_refl _) h0)
                  refine lv_iload_n hx hb d_Mo_endRetreats_112 rfl (lv_at hl 1 rfl) ?_
                  rcases bI_c (!anyB (fun b => !decide (b = i) && !decide (fa b < 0) && decide (fr b = fr i)) n) with ⟨hb33, e9⟩ | ⟨hb33, e9⟩
                  · refine tr_top e9 ?_
                    refine lv_if_eq (tgt := 133) hx hb d_Mo_endRetreats_113 (by decide) (fun h0 => absurd h0 (by decide)) (fun _ => ?_)
                    have hng : ¬ fr i < 0 := hc23
                    refine lv_aload_n hx hb d_Mo_endRetreats_116 rfl (lv_at hl 3 rfl) ?_
                    refine va_get (D := D) (ci := 6) (v := .ref m_moved) (C := R_Mo) (T := T_Mo) (N := 24) hx hb hts hin_Mo hown hK hP 0 rfl rfl 21 (by decide) (hts _ wd_725) (fun _ h9 => h9) rfl d_Mo_endRetreats_117 ?_
                    refine lv_aload_n hx hb d_Mo_endRetreats_120 rfl (lv_at hl 3 rfl) ?_
                    refine va_get (D := D) (ci := 6) (v := .ref m_retreats) (C := R_Mo) (T := T_Mo) (N := 24) hx hb hts hin_Mo hown hK hP 0 rfl rfl 19 (by decide) (hts _ wd_723) (fun _ h9 => h9) rfl d_Mo_endRetreats_121 ?_
                    refine lv_iload_n hx hb d_Mo_endRetreats_124 rfl (lv_at hl 2 rfl) ?_
                    refine tr_iald (v := fr i) hx hb hK hP 9 0 rfl rfl i hlt12 (by decide) rfl d_Mo_endRetreats_125 ?_
                    refine lv_aload_n hx hb d_Mo_endRetreats_126 rfl (lv_at hl 3 rfl) ?_
                    refine va_get (D := D) (ci := 6) (v := .ref m_aside) (C := R_Mo) (T := T_Mo) (N := 24) hx hb hts hin_Mo hown hK hP 0 rfl rfl 17 (by decide) (hts _ wd_721) (fun _ h9 => h9) rfl d_Mo_endRetreats_127 ?_
                    refine lv_iload_n hx hb d_Mo_endRetreats_130 rfl (lv_at hl 2 rfl) ?_
                    refine tr_iald (v := fa i) hx hb hK hP 8 0 rfl rfl i hlt12 (by decide) rfl d_Mo_endRetreats_131 ?_
                    refine va_iast hx hb hK hP hD hS 10 0 rfl rfl (Or.resolve_left (hfr i) hng) d_Mo_endRetreats_132 (fun H locs hP hD hS => ?_)
                    have hP : va_P D vwCl [(g0, .inr (6, [.int co, .int (nI n), .ref m_sea, .ref m_center, .ref m_home, .ref m_borders, .int mp, .int mt, .ref m_owner, .ref m_units, .ref m_kind, .ref m_toX, .ref m_toY, .ref m_results, .ref m_known, .ref m_reached, .ref m_way, .ref m_aside, .ref m_origin, .ref m_retreats, .ref m_contested, .ref m_moved, .int msh, .ref m_past])), (m_center, .inl (cZ, 12, .inl (fun j => bI (Ce j)))), (m_home, .inl (cI, 12, .inl fh)), (m_owner, .inl (cI, 12, .inl fw)), (m_units, .inl (cI, 12, .inl fu)), (m_kind, .inl (cI, 12, .inl (fun j => nI (Kd j)))), (m_toX, .inl (cI, 12, .inl (fun j => nI (X j)))), (m_toY, .inl (cI, 12, .inl (fun j => nI (Y j)))), (m_aside, .inl (cI, 12, .inl fa)), (m_retreats, .inl (cI, 12, .inl fr)), (m_moved, .inl (cI, 12, .inl (upd (erM fa fr (mxI (fun _ => (-1)) fm n) n i) (fr i).toNatClampNeg (fa i))))] H := hP
                    have hD : va_D A [(g0, .inr (6, [.int co, .int (nI n), .ref m_sea, .ref m_center, .ref m_home, .ref m_borders, .int mp, .int mt, .ref m_owner, .ref m_units, .ref m_kind, .ref m_toX, .ref m_toY, .ref m_results, .ref m_known, .ref m_reached, .ref m_way, .ref m_aside, .ref m_origin, .ref m_retreats, .ref m_contested, .ref m_moved, .int msh, .ref m_past])), (m_center, .inl (cZ, 12, .inl (fun j => bI (Ce j)))), (m_home, .inl (cI, 12, .inl fh)), (m_owner, .inl (cI, 12, .inl fw)), (m_units, .inl (cI, 12, .inl fu)), (m_kind, .inl (cI, 12, .inl (fun j => nI (Kd j)))), (m_toX, .inl (cI, 12, .inl (fun j => nI (X j)))), (m_toY, .inl (cI, 12, .inl (fun j => nI (Y j)))), (m_aside, .inl (cI, 12, .inl fa)), (m_retreats, .inl (cI, 12, .inl fr)), (m_moved, .inl (cI, 12, .inl (upd (erM fa fr (mxI (fun _ => (-1)) fm n) n i) (fr i).toNatClampNeg (fa i))))] := hD
                    refine lv_iinc (lv' := [(1, .int ((nI i) + 1)), (3, .int (nI n)), (2, .int (bI (!anyB (fun b => !decide (b = i) && !decide (fa b < 0) && decide (fr b = fr i)) n))), (0, .ref g0)]) hx hb d_Mo_endRetreats_133 hl (k := 2) rfl rfl (by decide) rfl (fun ls hl => ?_)
                    refine lv_goto (tgt := 25) hx hb d_Mo_endRetreats_136 (by decide) ?_
                    have e35 : (nI i) + 1 = nI (i + 1) := nI_1 i
                    have eo36 : (upd (erM fa fr (mxI (fun _ => (-1)) fm n) n i) (fr i).toNatClampNeg (fa i)) = (erM fa fr (mxI (fun _ => (-1)) fm n) n (i + 1)) := erM_y (by simp [alR, hc15, hc23, hb33])
                    exact ih (i + 1) ls H locs (by omega) (by rw [← e35]; exact lv_sub hl [0, 3] rfl) (by rw [← eo36]; exact hP) (by rw [← eo36]; exact hD) hS
                  · refine tr_top e9 ?_
                    refine lv_if_eq (tgt := 133) hx hb d_Mo_endRetreats_113 (by decide) (fun _ => ?_) (fun h0 => absurd (by decide) h0)
                    refine lv_iinc (lv' := [(1, .int ((nI i) + 1)), (3, .int (nI n)), (2, .int (bI (!anyB (fun b => !decide (b = i) && !decide (fa b < 0) && decide (fr b = fr i)) n))), (0, .ref g0)]) hx hb d_Mo_endRetreats_133 hl (k := 2) rfl rfl (by decide) rfl (fun ls hl => ?_)
                    refine lv_goto (tgt := 25) hx hb d_Mo_endRetreats_136 (by decide) ?_
                    have e38 : (nI i) + 1 = nI (i + 1) := nI_1 i
                    have eo39 : (erM fa fr (mxI (fun _ => (-1)) fm n) n i) = (erM fa fr (mxI (fun _ => (-1)) fm n) n (i + 1)) := erM_n (by simp [alR, hc15, hc23, hb33])
                    exact ih (i + 1) ls H locs (by omega) (by rw [← e38]; exact lv_sub hl [0, 3] rfl) (by rw [← eo39]; exact hP) (by rw [← eo39]; exact hD) hS
                | succ k9 ih9 =>
                  intro i9 ls hi9 hl
                  have hlt9 : i9 < n := by omega
                  have hlt912 : i9 < 12 := by omega
                  refine lv_iload_n hx hb d_Mo_endRetreats_59 rfl (lv_at hl 0 rfl) ?_
                  refine lv_aload_n hx hb d_Mo_endRetreats_60 rfl (lv_at hl 3 rfl) ?_
                  refine va_get (D := D) (ci := 6) (v := .int (nI n)) (C := R_Mo) (T := T_Mo) (N := 24) hx hb hts hin_Mo hown hK hP 0 rfl rfl 1 (by decide) (hts _ wd_705) (fun _ h9 => h9) rfl d_Mo_endRetreats_61 ?_
                  refine lv_icmp_ge (tgt := 112) hx hb d_Mo_endRetreats_64 (by decide) (fun h0 => absurd h0 (nI_ge hlt9 (by omega))) (fun _ => ?_)
                  refine lv_iload_n hx hb d_Mo_endRetreats_67 rfl (lv_at hl 1 rfl) ?_
                  rcases bI_c (!anyB (fun b => !decide (b = i) && !decide (fa b < 0) && decide (fr b = fr i)) i9) with ⟨hb42, e9⟩ | ⟨hb42, e9⟩
                  · refine tr_top e9 ?_
                    refine lv_if_eq (tgt := 104) hx hb d_Mo_endRetreats_68 (by decide) (fun h0 => absurd h0 (by decide)) (fun _ => ?_)
                    refine lv_iload_n hx hb d_Mo_endRetreats_71 rfl (lv_at hl 0 rfl) ?_
                    refine lv_iload_n hx hb d_Mo_endRetreats_72 rfl (lv_at hl 2 rfl) ?_
                    refine lv_icmp_eq (tgt := 100) hx hb d_Mo_endRetreats_73 (by decide) (fun hc44 => ?_) (fun hc44 => ?_)
                    · -- 73 taken
                      have hc44 : i9 = i := (nI_lit (Nat.lt_trans hlt912 (by decide)) (Nat.lt_trans hlt12 (by decide))).mp hc44
                      refine lv_iconst (v := 1) hx hb d_Mo_endRetreats_100 (by decide) ?_
                      refine lv_goto (tgt := 105) hx hb d_Mo_endRetreats_101 (by decide) ?_
                      refine lv_istore_n (lv' := [(2, .int 1), (3, .int (nI i9)), (1, .int (nI i)), (0, .ref g0)]) hx hb d_Mo_endRetreats_105 rfl hl (by decide) rfl (fun ls hl => ?_)
                      refine lv_iinc (lv' := [(3, .int ((nI i9) + 1)), (2, .int 1), (1, .int (nI i)), (0, .ref g0)]) hx hb d_Mo_endRetreats_106 hl (k := 1) rfl rfl (by decide) rfl (fun ls hl => ?_)
                      refine lv_goto (tgt := 59) hx hb d_Mo_endRetreats_109 (by decide) ?_
                      have e45 : (nI i9) + 1 = nI (i9 + 1) := nI_1 i9
                      have e46 : 1 = bI (!anyB (fun b => !decide (b = i) && !decide (fa b < 0) && decide (fr b = fr i)) (i9 + 1)) := (bI_t (show (!(anyB (fun b => !decide (b = i) && !decide (fa b < 0) && decide (fr b = fr i)) i9 || (!decide (i9 = i) && !decide (fa i9 < 0) && decide (fr i9 = fr i)))) = true by simp only [Bool.not_or, Bool.true_and, Bool.false_and, hb42] <;> simp [hc15, hc23, hb42, hc44])).symm
                      exact ih9 (i9 + 1) ls (by omega) (by rw [← e45, ← e46]; exact lv_sub hl [0, 1, 2, 3] rfl)
                    · -- 73 not taken
                      have hc44 : ¬ i9 = i := fun h9 => hc44 (congrArg nI h9)
                      refine lv_aload_n hx hb d_Mo_endRetreats_76 rfl (lv_at hl 3 rfl) ?_
                      refine va_get (D := D) (ci := 6) (v := .ref m_aside) (C := R_Mo) (T := T_Mo) (N := 24) hx hb hts hin_Mo hown hK hP 0 rfl rfl 17 (by decide) (hts _ wd_721) (fun _ h9 => h9) rfl d_Mo_endRetreats_77 ?_
                      refine lv_iload_n hx hb d_Mo_endRetreats_80 rfl (lv_at hl 0 rfl) ?_
                      refine tr_iald (v := fa i9) hx hb hK hP 8 0 rfl rfl i9 hlt912 (by decide) rfl d_Mo_endRetreats_81 ?_
                      refine lv_if_lt (tgt := 100) hx hb d_Mo_endRetreats_82 (by decide) (fun hc47 => ?_) (fun hc47 => ?_)
                      · -- 82 taken
                        refine lv_iconst (v := 1) hx hb d_Mo_endRetreats_100 (by decide) ?_
                        refine lv_goto (tgt := 105) hx hb d_Mo_endRetreats_101 (by decide) ?_
                        refine lv_istore_n (lv' := [(2, .int 1), (3, .int (nI i9)), (1, .int (nI i)), (0, .ref g0)]) hx hb d_Mo_endRetreats_105 rfl hl (by decide) rfl (fun ls hl => ?_)
                        refine lv_iinc (lv' := [(3, .int ((nI i9) + 1)), (2, .int 1), (1, .int (nI i)), (0, .ref g0)]) hx hb d_Mo_endRetreats_106 hl (k := 1) rfl rfl (by decide) rfl (fun ls hl => ?_)
                        refine lv_goto (tgt := 59) hx hb d_Mo_endRetreats_109 (by decide) ?_
                        have e48 : (nI i9) + 1 = nI (i9 + 1) := nI_1 i9
                        have e49 : 1 = bI (!anyB (fun b => !decide (b = i) && !decide (fa b < 0) && decide (fr b = fr i)) (i9 + 1)) := (bI_t (show (!(anyB (fun b => !decide (b = i) && !decide (fa b < 0) && decide (fr b = fr i)) i9 || (!decide (i9 = i) && !decide (fa i9 < 0) && decide (fr i9 = fr i)))) = true by simp only [Bool.not_or, Bool.true_and, Bool.false_and, hb42] <;> simp [hc15, hc23, hb42, hc44, hc47])).symm
                        exact ih9 (i9 + 1) ls (by omega) (by rw [← e48, ← e49]; exact lv_sub hl [0, 1, 2, 3] rfl)
                      · -- 82 not taken
                        refine lv_aload_n hx hb d_Mo_endRetreats_85 rfl (lv_at hl 3 rfl) ?_
                        refine va_get (D := D) (ci := 6) (v := .ref m_retreats) (C := R_Mo) (T := T_Mo) (N := 24) hx hb hts hin_Mo hown hK hP 0 rfl rfl 19 (by decide) (hts _ wd_723) (fun _ h9 => h9) rfl d_Mo_endRetreats_86 ?_
                        refine lv_iload_n hx hb d_Mo_endRetreats_89 rfl (lv_at hl 0 rfl) ?_
                        refine tr_iald (v := fr i9) hx hb hK hP 9 0 rfl rfl i9 hlt912 (by decide) rfl d_Mo_endRetreats_90 ?_
                        refine lv_aload_n hx hb d_Mo_endRetreats_91 rfl (lv_at hl 3 rfl) ?_
                        refine va_get (D := D) (ci := 6) (v := .ref m_retreats) (C := R_Mo) (T := T_Mo) (N := 24) hx hb hts hin_Mo hown hK hP 0 rfl rfl 19 (by decide) (hts _ wd_723) (fun _ h9 => h9) rfl d_Mo_endRetreats_92 ?_
                        refine lv_iload_n hx hb d_Mo_endRetreats_95 rfl (lv_at hl 2 rfl) ?_
                        refine tr_iald (v := fr i) hx hb hK hP 9 0 rfl rfl i hlt12 (by decide) rfl d_Mo_endRetreats_96 ?_
                        refine lv_icmp_eq (tgt := 104) hx hb d_Mo_endRetreats_97 (by decide) (fun hc50 => ?_) (fun hc50 => ?_)
                        · -- 97 taken
                          refine lv_iconst (v := 0) hx hb d_Mo_endRetreats_104 (by decide) ?_
                          refine lv_istore_n (lv' := [(2, .int 0), (3, .int (nI i9)), (1, .int (nI i)), (0, .ref g0)]) hx hb d_Mo_endRetreats_105 rfl hl (by decide) rfl (fun ls hl => ?_)
                          refine lv_iinc (lv' := [(3, .int ((nI i9) + 1)), (2, .int 0), (1, .int (nI i)), (0, .ref g0)]) hx hb d_Mo_endRetreats_106 hl (k := 1) rfl rfl (by decide) rfl (fun ls hl => ?_)
                          refine lv_goto (tgt := 59) hx hb d_Mo_endRetreats_109 (by decide) ?_
                          have e51 : (nI i9) + 1 = nI (i9 + 1) := nI_1 i9
                          have e52 : 0 = bI (!anyB (fun b => !decide (b = i) && !decide (fa b < 0) && decide (fr b = fr i)) (i9 + 1)) := (bI_f (show (!(anyB (fun b => !decide (b = i) && !decide (fa b < 0) && decide (fr b = fr i)) i9 || (!decide (i9 = i) && !decide (fa i9 < 0) && decide (fr i9 = fr i)))) = false by simp only [Bool.not_or, Bool.true_and, Bool.false_and, hb42] <;> simp [hc15, hc23, hb42, hc44, hc47, hc50])).symm
                          exact ih9 (i9 + 1) ls (by omega) (by rw [← e51, ← e52]; exact lv_sub hl [0, 1, 2, 3] rfl)
                        · -- 97 not taken
                          refine lv_iconst (v := 1) hx hb d_Mo_endRetreats_100 (by decide) ?_
                          refine lv_goto (tgt := 105) hx hb d_Mo_endRetreats_101 (by decide) ?_
                          refine lv_istore_n (lv' := [(2, .int 1), (3, .int (nI i9)), (1, .int (nI i)), (0, .ref g0)]) hx hb d_Mo_endRetreats_105 rfl hl (by decide) rfl (fun ls hl => ?_)
                          refine lv_iinc (lv' := [(3, .int ((nI i9) + 1)), (2, .int 1), (1, .int (nI i)), (0, .ref g0)]) hx hb d_Mo_endRetreats_106 hl (k := 1) rfl rfl (by decide) rfl (fun ls hl => ?_)
                          refine lv_goto (tgt := 59) hx hb d_Mo_endRetreats_109 (by decide) ?_
                          have e53 : (nI i9) + 1 = nI (i9 + 1) := nI_1 i9
                          have e54 : 1 = bI (!anyB (fun b => !decide (b = i) && !decide (fa b < 0) && decide (fr b = fr i)) (i9 + 1)) := (bI_t (show (!(anyB (fun b => !decide (b = i) && !decide (fa b < 0) && decide (fr b = fr i)) i9 || (!decide (i9 = i) && !decide (fa i9 < 0) && decide (fr i9 = fr i)))) = true by simp only [Bool.not_or, Bool.true_and, Bool.false_and, hb42] <;> simp [hc15, hc23, hb42, hc44, hc47, hc50])).symm
                          exact ih9 (i9 + 1) ls (by omega) (by rw [← e53, ← e54]; exact lv_sub hl [0, 1, 2, 3] rfl)
                  · refine tr_top e9 ?_
                    refine lv_if_eq (tgt := 104) hx hb d_Mo_endRetreats_68 (by decide) (fun _ => ?_) (fun h0 => absurd (by decide) h0)
                    refine lv_iconst (v := 0) hx hb d_Mo_endRetreats_104 (by decide) ?_
                    refine lv_istore_n (lv' := [(2, .int 0), (3, .int (nI i9)), (1, .int (nI i)), (0, .ref g0)]) hx hb d_Mo_endRetreats_105 rfl hl (by decide) rfl (fun ls hl => ?_)
                    refine lv_iinc (lv' := [(3, .int ((nI i9) + 1)), (2, .int 0), (1, .int (nI i)), (0, .ref g0)]) hx hb d_Mo_endRetreats_106 hl (k := 1) rfl rfl (by decide) rfl (fun ls hl => ?_)
                    refine lv_goto (tgt := 59) hx hb d_Mo_endRetreats_109 (by decide) ?_
                    have e56 : (nI i9) + 1 = nI (i9 + 1) := nI_1 i9
                    have e57 : 0 = bI (!anyB (fun b => !decide (b = i) && !decide (fa b < 0) && decide (fr b = fr i)) (i9 + 1)) := (bI_f (show (!(anyB (fun b => !decide (b = i) && !decide (fa b < 0) && decide (fr b = fr i)) i9 || (!decide (i9 = i) && !decide (fa i9 < 0) && decide (fr i9 = fr i)))) = false by simp only [Bool.not_or, Bool.true_and, Bool.false_and, hb42] <;> simp [hc15, hc23, hb42])).symm
                    exact ih9 (i9 + 1) ls (by omega) (by rw [← e56, ← e57]; exact lv_sub hl [0, 1, 2, 3] rfl)
              exact nloop n 0 ls (Nat.zero_add _) hl
      exact loop2 n 0 ls _ _ (Nat.zero_add _) hl (hP) (hD) hS
    | succ k ih =>
      intro i ls H locs hi hl hP hD hS
      have hlt : i < n := by omega
      have hlt12 : i < 12 := by omega
      refine lv_iload_n hx hb d_Mo_endRetreats_2 rfl (lv_at hl 0 rfl) ?_
      refine lv_aload_n hx hb d_Mo_endRetreats_3 rfl (lv_at hl 1 rfl) ?_
      refine va_get (D := D) (ci := 6) (v := .int (nI n)) (C := R_Mo) (T := T_Mo) (N := 24) hx hb hts hin_Mo hown hK hP 0 rfl rfl 1 (by decide) (hts _ wd_705) (fun _ h9 => h9) rfl d_Mo_endRetreats_4 ?_
      refine lv_icmp_ge (tgt := 23) hx hb d_Mo_endRetreats_7 (by decide) (fun h0 => absurd h0 (nI_ge hlt (by omega))) (fun _ => ?_)
      refine lv_aload_n hx hb d_Mo_endRetreats_10 rfl (lv_at hl 1 rfl) ?_
      refine va_get (D := D) (ci := 6) (v := .ref m_moved) (C := R_Mo) (T := T_Mo) (N := 24) hx hb hts hin_Mo hown hK hP 0 rfl rfl 21 (by decide) (hts _ wd_725) (fun _ h9 => h9) rfl d_Mo_endRetreats_11 ?_
      refine lv_iload_n hx hb d_Mo_endRetreats_14 rfl (lv_at hl 0 rfl) ?_
      refine lv_iconst (v := (-1)) hx hb d_Mo_endRetreats_15 (by decide) ?_
      refine tr_iast (g := upd (mxI (fun _ => (-1)) fm i) i (-1)) hx hb hK hP hD hS 10 0 rfl rfl i hlt12 (by decide) rfl d_Mo_endRetreats_16 (fun H locs hP hD hS => ?_)
      have hP : va_P D vwCl [(g0, .inr (6, [.int co, .int (nI n), .ref m_sea, .ref m_center, .ref m_home, .ref m_borders, .int mp, .int mt, .ref m_owner, .ref m_units, .ref m_kind, .ref m_toX, .ref m_toY, .ref m_results, .ref m_known, .ref m_reached, .ref m_way, .ref m_aside, .ref m_origin, .ref m_retreats, .ref m_contested, .ref m_moved, .int msh, .ref m_past])), (m_center, .inl (cZ, 12, .inl (fun j => bI (Ce j)))), (m_home, .inl (cI, 12, .inl fh)), (m_owner, .inl (cI, 12, .inl fw)), (m_units, .inl (cI, 12, .inl fu)), (m_kind, .inl (cI, 12, .inl (fun j => nI (Kd j)))), (m_toX, .inl (cI, 12, .inl (fun j => nI (X j)))), (m_toY, .inl (cI, 12, .inl (fun j => nI (Y j)))), (m_aside, .inl (cI, 12, .inl fa)), (m_retreats, .inl (cI, 12, .inl fr)), (m_moved, .inl (cI, 12, .inl (upd (mxI (fun _ => (-1)) fm i) i (-1))))] H := hP
      have hD : va_D A [(g0, .inr (6, [.int co, .int (nI n), .ref m_sea, .ref m_center, .ref m_home, .ref m_borders, .int mp, .int mt, .ref m_owner, .ref m_units, .ref m_kind, .ref m_toX, .ref m_toY, .ref m_results, .ref m_known, .ref m_reached, .ref m_way, .ref m_aside, .ref m_origin, .ref m_retreats, .ref m_contested, .ref m_moved, .int msh, .ref m_past])), (m_center, .inl (cZ, 12, .inl (fun j => bI (Ce j)))), (m_home, .inl (cI, 12, .inl fh)), (m_owner, .inl (cI, 12, .inl fw)), (m_units, .inl (cI, 12, .inl fu)), (m_kind, .inl (cI, 12, .inl (fun j => nI (Kd j)))), (m_toX, .inl (cI, 12, .inl (fun j => nI (X j)))), (m_toY, .inl (cI, 12, .inl (fun j => nI (Y j)))), (m_aside, .inl (cI, 12, .inl fa)), (m_retreats, .inl (cI, 12, .inl fr)), (m_moved, .inl (cI, 12, .inl (upd (mxI (fun _ => (-1)) fm i) i (-1))))] := hD
      refine lv_iinc (lv' := [(1, .int ((nI i) + 1)), (0, .ref g0)]) hx hb d_Mo_endRetreats_17 hl (k := 0) rfl rfl (by decide) rfl (fun ls hl => ?_)
      refine lv_goto (tgt := 2) hx hb d_Mo_endRetreats_20 (by decide) ?_
      have e59 : (nI i) + 1 = nI (i + 1) := nI_1 i
      have eo60 : (upd (mxI (fun _ => (-1)) fm i) i (-1)) = (mxI (fun _ => (-1)) fm (i + 1)) := mxI_s rfl
      exact ih (i + 1) ls H locs (by omega) (by rw [← e59]; exact lv_sub hl [0, 1] rfl) (by rw [← eo60]; exact hP) (by rw [← eo60]; exact hD) hS
  have ei61 : (mxI (fun _ => (-1)) fm 0) = (fm) := mxI_0 _ _
  exact loop n 0 ls _ _ (Nat.zero_add _) hl (by rw [ei61]; exact hP) (by rw [ei61]; exact hD) hS
