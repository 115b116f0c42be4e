def mMs (Ce : Nat → Bool) (fw fu : Nat → Int32) (n : Nat) (pl : Int32) : Int32 := nI (numB (fun b => if false = true then !decide (fu b < 0) && decide (fu b / 2 = pl) else Ce b && decide (fw b = pl)) n) - nI (numB (fun b => if true = true then !decide (fu b < 0) && decide (fu b / 2 = pl) else Ce b && decide (fw b = pl)) n)
def mbR (fh fw fu : Nat → Int32) (pl : Int32) (a : Nat) : Bool := decide (fh a = pl) && decide (fw a = pl) && decide (fu a < 0)
def bdR (Ce : Nat → Bool) (fh fw fu : Nat → Int32) (n p : Nat) : Bool := decide (mMs Ce fw fu n (nI p) < 0) || (anyB (mbR fh fw fu (nI p)) n && !decide (mMs Ce fw fu n (nI p) ≤ 0))
def tkR (Ce : Nat → Bool) (fw fu : Nat → Int32) (j : Nat) : Int32 := if (Ce j && !decide (fu j < 0)) = true then fu j / 2 else fw j
theorem bI_eq {a b : Bool} (h : a = b) : bI a = bI b := congrArg bI h

theorem d_Mo_endTurn_0 : decode b_Mo_endTurn 0 = .ok (.iconst 0, 1) := by decide +kernel
theorem d_Mo_endTurn_1 : decode b_Mo_endTurn 1 = .ok (.istore_n 1, 1) := by decide +kernel
theorem d_Mo_endTurn_2 : decode b_Mo_endTurn 2 = .ok (.iload_n 1, 1) := by decide +kernel
theorem d_Mo_endTurn_3 : decode b_Mo_endTurn 3 = .ok (.aload_n 0, 1) := by decide +kernel
theorem d_Mo_endTurn_4 : decode b_Mo_endTurn 4 = .ok (.getfield 72, 3) := by decide +kernel
theorem d_Mo_endTurn_7 : decode b_Mo_endTurn 7 = .ok (.if_icmp .ge 50, 3) := by decide +kernel
theorem d_Mo_endTurn_10 : decode b_Mo_endTurn 10 = .ok (.aload_n 0, 1) := by decide +kernel
theorem d_Mo_endTurn_11 : decode b_Mo_endTurn 11 = .ok (.getfield 95, 3) := by decide +kernel
theorem d_Mo_endTurn_14 : decode b_Mo_endTurn 14 = .ok (.iconst 2, 1) := by decide +kernel
theorem d_Mo_endTurn_15 : decode b_Mo_endTurn 15 = .ok (.irem, 1) := by decide +kernel
theorem d_Mo_endTurn_16 : decode b_Mo_endTurn 16 = .ok (.ifCond .ne 35, 3) := by decide +kernel
theorem d_Mo_endTurn_19 : decode b_Mo_endTurn 19 = .ok (.aload_n 0, 1) := by decide +kernel
theorem d_Mo_endTurn_20 : decode b_Mo_endTurn 20 = .ok (.getfield 13, 3) := by decide +kernel
theorem d_Mo_endTurn_23 : decode b_Mo_endTurn 23 = .ok (.iload_n 1, 1) := by decide +kernel
theorem d_Mo_endTurn_24 : decode b_Mo_endTurn 24 = .ok (.baload, 1) := by decide +kernel
theorem d_Mo_endTurn_25 : decode b_Mo_endTurn 25 = .ok (.ifCond .eq 26, 3) := by decide +kernel
theorem d_Mo_endTurn_28 : decode b_Mo_endTurn 28 = .ok (.aload_n 0, 1) := by decide +kernel
theorem d_Mo_endTurn_29 : decode b_Mo_endTurn 29 = .ok (.getfield 26, 3) := by decide +kernel
theorem d_Mo_endTurn_32 : decode b_Mo_endTurn 32 = .ok (.iload_n 1, 1) := by decide +kernel
theorem d_Mo_endTurn_33 : decode b_Mo_endTurn 33 = .ok (.iaload, 1) := by decide +kernel
theorem d_Mo_endTurn_34 : decode b_Mo_endTurn 34 = .ok (.ifCond .lt 17, 3) := by decide +kernel
theorem d_Mo_endTurn_37 : decode b_Mo_endTurn 37 = .ok (.aload_n 0, 1) := by decide +kernel
theorem d_Mo_endTurn_38 : decode b_Mo_endTurn 38 = .ok (.getfield 23, 3) := by decide +kernel
theorem d_Mo_endTurn_41 : decode b_Mo_endTurn 41 = .ok (.iload_n 1, 1) := by decide +kernel
theorem d_Mo_endTurn_42 : decode b_Mo_endTurn 42 = .ok (.aload_n 0, 1) := by decide +kernel
theorem d_Mo_endTurn_43 : decode b_Mo_endTurn 43 = .ok (.getfield 26, 3) := by decide +kernel
theorem d_Mo_endTurn_46 : decode b_Mo_endTurn 46 = .ok (.iload_n 1, 1) := by decide +kernel
theorem d_Mo_endTurn_47 : decode b_Mo_endTurn 47 = .ok (.iaload, 1) := by decide +kernel
theorem d_Mo_endTurn_48 : decode b_Mo_endTurn 48 = .ok (.iconst 2, 1) := by decide +kernel
theorem d_Mo_endTurn_49 : decode b_Mo_endTurn 49 = .ok (.idiv, 1) := by decide +kernel
theorem d_Mo_endTurn_50 : decode b_Mo_endTurn 50 = .ok (.iastore, 1) := by decide +kernel
theorem d_Mo_endTurn_51 : decode b_Mo_endTurn 51 = .ok (.iinc 1 1, 3) := by decide +kernel
theorem d_Mo_endTurn_54 : decode b_Mo_endTurn 54 = .ok (.goto (-52), 3) := by decide +kernel
theorem d_Mo_endTurn_57 : decode b_Mo_endTurn 57 = .ok (.iconst 0, 1) := by decide +kernel
theorem d_Mo_endTurn_58 : decode b_Mo_endTurn 58 = .ok (.istore_n 1, 1) := by decide +kernel
theorem d_Mo_endTurn_59 : decode b_Mo_endTurn 59 = .ok (.iconst 0, 1) := by decide +kernel
theorem d_Mo_endTurn_60 : decode b_Mo_endTurn 60 = .ok (.istore_n 2, 1) := by decide +kernel
theorem d_Mo_endTurn_61 : decode b_Mo_endTurn 61 = .ok (.iload_n 2, 1) := by decide +kernel
theorem d_Mo_endTurn_62 : decode b_Mo_endTurn 62 = .ok (.iconst 4, 1) := by decide +kernel
theorem d_Mo_endTurn_63 : decode b_Mo_endTurn 63 = .ok (.if_icmp .ge 88, 3) := by decide +kernel
theorem d_Mo_endTurn_66 : decode b_Mo_endTurn 66 = .ok (.aload_n 0, 1) := by decide +kernel
theorem d_Mo_endTurn_67 : decode b_Mo_endTurn 67 = .ok (.getfield 95, 3) := by decide +kernel
theorem d_Mo_endTurn_70 : decode b_Mo_endTurn 70 = .ok (.iconst 2, 1) := by decide +kernel
theorem d_Mo_endTurn_71 : decode b_Mo_endTurn 71 = .ok (.irem, 1) := by decide +kernel
theorem d_Mo_endTurn_72 : decode b_Mo_endTurn 72 = .ok (.ifCond .ne 79, 3) := by decide +kernel
theorem d_Mo_endTurn_75 : decode b_Mo_endTurn 75 = .ok (.aload_n 0, 1) := by decide +kernel
theorem d_Mo_endTurn_76 : decode b_Mo_endTurn 76 = .ok (.iload_n 2, 1) := by decide +kernel
theorem d_Mo_endTurn_77 : decode b_Mo_endTurn 77 = .ok (.iconst 0, 1) := by decide +kernel
theorem d_Mo_endTurn_78 : decode b_Mo_endTurn 78 = .ok (.invokevirtual 195, 3) := by decide +kernel
theorem d_Mo_endTurn_81 : decode b_Mo_endTurn 81 = .ok (.aload_n 0, 1) := by decide +kernel
theorem d_Mo_endTurn_82 : decode b_Mo_endTurn 82 = .ok (.iload_n 2, 1) := by decide +kernel
theorem d_Mo_endTurn_83 : decode b_Mo_endTurn 83 = .ok (.iconst 1, 1) := by decide +kernel
theorem d_Mo_endTurn_84 : decode b_Mo_endTurn 84 = .ok (.invokevirtual 195, 3) := by decide +kernel
theorem d_Mo_endTurn_87 : decode b_Mo_endTurn 87 = .ok (.isub, 1) := by decide +kernel
theorem d_Mo_endTurn_88 : decode b_Mo_endTurn 88 = .ok (.istore_n 3, 1) := by decide +kernel
theorem d_Mo_endTurn_89 : decode b_Mo_endTurn 89 = .ok (.iload_n 1, 1) := by decide +kernel
theorem d_Mo_endTurn_90 : decode b_Mo_endTurn 90 = .ok (.ifCond .ne 7, 3) := by decide +kernel
theorem d_Mo_endTurn_93 : decode b_Mo_endTurn 93 = .ok (.iload_n 3, 1) := by decide +kernel
theorem d_Mo_endTurn_94 : decode b_Mo_endTurn 94 = .ok (.ifCond .ge 7, 3) := by decide +kernel
theorem d_Mo_endTurn_97 : decode b_Mo_endTurn 97 = .ok (.iconst 1, 1) := by decide +kernel
theorem d_Mo_endTurn_98 : decode b_Mo_endTurn 98 = .ok (.goto 4, 3) := by decide +kernel
theorem d_Mo_endTurn_101 : decode b_Mo_endTurn 101 = .ok (.iconst 0, 1) := by decide +kernel
theorem d_Mo_endTurn_102 : decode b_Mo_endTurn 102 = .ok (.istore_n 1, 1) := by decide +kernel
theorem d_Mo_endTurn_103 : decode b_Mo_endTurn 103 = .ok (.iconst 0, 1) := by decide +kernel
theorem d_Mo_endTurn_104 : decode b_Mo_endTurn 104 = .ok (.istore 4, 2) := by decide +kernel
theorem d_Mo_endTurn_106 : decode b_Mo_endTurn 106 = .ok (.iload 4, 2) := by decide +kernel
theorem d_Mo_endTurn_108 : decode b_Mo_endTurn 108 = .ok (.aload_n 0, 1) := by decide +kernel
theorem d_Mo_endTurn_109 : decode b_Mo_endTurn 109 = .ok (.getfield 72, 3) := by decide +kernel
theorem d_Mo_endTurn_112 : decode b_Mo_endTurn 112 = .ok (.if_icmp .ge 33, 3) := by decide +kernel
theorem d_Mo_endTurn_115 : decode b_Mo_endTurn 115 = .ok (.iload_n 1, 1) := by decide +kernel
theorem d_Mo_endTurn_116 : decode b_Mo_endTurn 116 = .ok (.ifCond .ne 17, 3) := by decide +kernel
theorem d_Mo_endTurn_119 : decode b_Mo_endTurn 119 = .ok (.iload_n 3, 1) := by decide +kernel
theorem d_Mo_endTurn_120 : decode b_Mo_endTurn 120 = .ok (.ifCond .le 17, 3) := by decide +kernel
theorem d_Mo_endTurn_123 : decode b_Mo_endTurn 123 = .ok (.aload_n 0, 1) := by decide +kernel
theorem d_Mo_endTurn_124 : decode b_Mo_endTurn 124 = .ok (.iload_n 2, 1) := by decide +kernel
theorem d_Mo_endTurn_125 : decode b_Mo_endTurn 125 = .ok (.iload 4, 2) := by decide +kernel
theorem d_Mo_endTurn_127 : decode b_Mo_endTurn 127 = .ok (.invokevirtual 198, 3) := by decide +kernel
theorem d_Mo_endTurn_130 : decode b_Mo_endTurn 130 = .ok (.ifCond .eq 7, 3) := by decide +kernel
theorem d_Mo_endTurn_133 : decode b_Mo_endTurn 133 = .ok (.iconst 1, 1) := by decide +kernel
theorem d_Mo_endTurn_134 : decode b_Mo_endTurn 134 = .ok (.goto 4, 3) := by decide +kernel
theorem d_Mo_endTurn_137 : decode b_Mo_endTurn 137 = .ok (.iconst 0, 1) := by decide +kernel
theorem d_Mo_endTurn_138 : decode b_Mo_endTurn 138 = .ok (.istore_n 1, 1) := by decide +kernel
theorem d_Mo_endTurn_139 : decode b_Mo_endTurn 139 = .ok (.iinc 4 1, 3) := by decide +kernel
theorem d_Mo_endTurn_142 : decode b_Mo_endTurn 142 = .ok (.goto (-36), 3) := by decide +kernel
theorem d_Mo_endTurn_145 : decode b_Mo_endTurn 145 = .ok (.iinc 2 1, 3) := by decide +kernel
theorem d_Mo_endTurn_148 : decode b_Mo_endTurn 148 = .ok (.goto (-87), 3) := by decide +kernel
theorem d_Mo_endTurn_151 : decode b_Mo_endTurn 151 = .ok (.iload_n 1, 1) := by decide +kernel
theorem d_Mo_endTurn_152 : decode b_Mo_endTurn 152 = .ok (.ifCond .eq 11, 3) := by decide +kernel
theorem d_Mo_endTurn_155 : decode b_Mo_endTurn 155 = .ok (.aload_n 0, 1) := by decide +kernel
theorem d_Mo_endTurn_156 : decode b_Mo_endTurn 156 = .ok (.iconst 3, 1) := by decide +kernel
theorem d_Mo_endTurn_157 : decode b_Mo_endTurn 157 = .ok (.putfield 75, 3) := by decide +kernel
theorem d_Mo_endTurn_160 : decode b_Mo_endTurn 160 = .ok (.goto 7, 3) := by decide +kernel
theorem d_Mo_endTurn_163 : decode b_Mo_endTurn 163 = .ok (.aload_n 0, 1) := by decide +kernel
theorem d_Mo_endTurn_164 : decode b_Mo_endTurn 164 = .ok (.invokevirtual 98, 3) := by decide +kernel
theorem d_Mo_endTurn_167 : decode b_Mo_endTurn 167 = .ok (.return_, 1) := by decide +kernel

set_option maxHeartbeats 4000000 in
set_option maxRecDepth 100000 in
theorem c_Mo_endTurnO (l : Launch) (D : va_G) (cI cZ cJ cS : ClassId) (aT : Nat) (ceT : Cell) (sz : Nat) (g0 m_sea m_center m_home m_borders m_owner m_units m_kind m_toX m_toY m_results m_known m_reached m_way m_aside m_origin m_retreats m_contested m_moved m_past : Nat) (n : Nat) (co mp mt msh : Int32) (Ce : Nat → Bool) (fh : Nat → Int32) (fw : Nat → Int32) (fu : Nat → Int32) (Kd : Nat → Nat) (X : Nat → Nat) (Y : Nat → Nat) (hKd : ∀ j, Kd j < 4) (hX9 : ∀ j, X j < 12) (hY9 : ∀ j, Y j < 12) (hn : n ≤ 12) (hev : ¬ mt - mt / 2 * 2 = 0) : Met l y_Mo_endTurn w_Mo_endTurn ({ frames := 1, cells := 0, slots := 0, locals := 24 }) (tH D cI cZ cJ cS aT ceT [.ref g0] sz [(g0, .inr (6, [.int co, .int (nI n), .ref m_sea, .ref m_center, .ref m_home, .ref m_borders, .int mp, .int mt, .ref m_owner, .ref m_units, .ref m_kind, .ref m_toX, .ref m_toY, .ref m_results, .ref m_known, .ref m_reached, .ref m_way, .ref m_aside, .ref m_origin, .ref m_retreats, .ref m_contested, .ref m_moved, .int msh, .ref m_past])), (m_center, .inl (cZ, 12, .inl (fun j => bI (Ce j)))), (m_home, .inl (cI, 12, .inl fh)), (m_owner, .inl (cI, 12, .inl fw)), (m_units, .inl (cI, 12, .inl fu)), (m_kind, .inl (cI, 12, .inl (fun j => nI (Kd j)))), (m_toX, .inl (cI, 12, .inl (fun j => nI (X j)))), (m_toY, .inl (cI, 12, .inl (fun j => nI (Y j))))]) (va_Qv (fun _ : Unit => True) (fun _ t => tB D (va_A [(g0, .inr (6, [.int co, .int (nI n), .ref m_sea, .ref m_center, .ref m_home, .ref m_borders, .int mp, .int mt, .ref m_owner, .ref m_units, .ref m_kind, .ref m_toX, .ref m_toY, .ref m_results, .ref m_known, .ref m_reached, .ref m_way, .ref m_aside, .ref m_origin, .ref m_retreats, .ref m_contested, .ref m_moved, .int msh, .ref m_past])), (m_center, .inl (cZ, 12, .inl (fun j => bI (Ce j)))), (m_home, .inl (cI, 12, .inl fh)), (m_owner, .inl (cI, 12, .inl fw)), (m_units, .inl (cI, 12, .inl fu)), (m_kind, .inl (cI, 12, .inl (fun j => nI (Kd j)))), (m_toX, .inl (cI, 12, .inl (fun j => nI (X j)))), (m_toY, .inl (cI, 12, .inl (fun j => nI (Y j))))] sz) [(g0, .inr (6, [.int co, .int (nI n), .ref m_sea, .ref m_center, .ref m_home, .ref m_borders, .int 1, .int (mt + 1), .ref m_owner, .ref m_units, .ref m_kind, .ref m_toX, .ref m_toY, .ref m_results, .ref m_known, .ref m_reached, .ref m_way, .ref m_aside, .ref m_origin, .ref m_retreats, .ref m_contested, .ref m_moved, .int msh, .ref m_past])), (m_center, .inl (cZ, 12, .inl (fun j => bI (Ce j)))), (m_home, .inl (cI, 12, .inl fh)), (m_owner, .inl (cI, 12, .inl fw)), (m_units, .inl (cI, 12, .inl fu)), (m_kind, .inl (cI, 12, .inl (fun _ => 0))), (m_toX, .inl (cI, 12, .inl (fun _ => 0))), (m_toY, .inl (cI, 12, .inl (fun _ => 0)))] t) (va_A [(g0, .inr (6, [.int co, .int (nI n), .ref m_sea, .ref m_center, .ref m_home, .ref m_borders, .int mp, .int mt, .ref m_owner, .ref m_units, .ref m_kind, .ref m_toX, .ref m_toY, .ref m_results, .ref m_known, .ref m_reached, .ref m_way, .ref m_aside, .ref m_origin, .ref m_retreats, .ref m_contested, .ref m_moved, .int msh, .ref m_past])), (m_center, .inl (cZ, 12, .inl (fun j => bI (Ce j)))), (m_home, .inl (cI, 12, .inl fh)), (m_owner, .inl (cI, 12, .inl fw)), (m_units, .inl (cI, 12, .inl fu)), (m_kind, .inl (cI, 12, .inl (fun j => nI (Kd j)))), (m_toX, .inl (cI, 12, .inl (fun j => nI (X j)))), (m_toY, .inl (cI, 12, .inl (fun j => nI (Y j))))] sz)) 0 0 (va_A [(g0, .inr (6, [.int co, .int (nI n), .ref m_sea, .ref m_center, .ref m_home, .ref m_borders, .int mp, .int mt, .ref m_owner, .ref m_units, .ref m_kind, .ref m_toX, .ref m_toY, .ref m_results, .ref m_known, .ref m_reached, .ref m_way, .ref m_aside, .ref m_origin, .ref m_retreats, .ref m_contested, .ref m_moved, .int msh, .ref m_past])), (m_center, .inl (cZ, 12, .inl (fun j => bI (Ce j)))), (m_home, .inl (cI, 12, .inl fh)), (m_owner, .inl (cI, 12, .inl fw)), (m_units, .inl (cI, 12, .inl fu)), (m_kind, .inl (cI, 12, .inl (fun j => nI (Kd j)))), (m_toX, .inl (cI, 12, .inl (fun j => nI (X j)))), (m_toY, .inl (cI, 12, .inl (fun j => nI (Y j))))] sz) := by
  refine Met.ofW (cc := b_Mo_endTurn) (maxL := 5) (ret := none) (by decide) rfl ?_
  intro p e s m args below meth c s₁ B hml hv
  obtain ⟨rfl, hsz, hP, hK, hD0, hX⟩ := hv
  have hx := B.exec
  have hb := B.bytes
  have hr := B.returns
  have hts0 := atoms_spec (ws := w_Mo_endTurn) B.pre
  have hts : ∀ w ∈ TB, w.before _ s = true := fun w h => hts0 w (List.mem_cons_of_mem _ h)
  have hown : s.vm.findClass R_Mo = some m.cls := findClass_of_methodNamed B.named
  have hlocks := B.notSynchronized
  subst hsz
  have hXl := tx_lt hX
  have hXn := tx_far hP hX
  have hD := hD0.self (sz := s.heap.size)
  generalize hAe : va_A [(g0, .inr (6, [.int co, .int (nI n), .ref m_sea, .ref m_center, .ref m_home, .ref m_borders, .int mp, .int mt, .ref m_owner, .ref m_units, .ref m_kind, .ref m_toX, .ref m_toY, .ref m_results, .ref m_known, .ref m_reached, .ref m_way, .ref m_aside, .ref m_origin, .ref m_retreats, .ref m_contested, .ref m_moved, .int msh, .ref m_past])), (m_center, .inl (cZ, 12, .inl (fun j => bI (Ce j)))), (m_home, .inl (cI, 12, .inl fh)), (m_owner, .inl (cI, 12, .inl fw)), (m_units, .inl (cI, 12, .inl fu)), (m_kind, .inl (cI, 12, .inl (fun j => nI (Kd j)))), (m_toX, .inl (cI, 12, .inl (fun j => nI (X j)))), (m_toY, .inl (cI, 12, .inl (fun j => nI (Y j))))] s.heap.size = A at hD hXn ⊢
  have hA : ∀ q : Nat, s.heap.size ≤ q → A q := fun q h => by rw [← hAe]; exact Or.inr h
  have hS : va_S A s.heap s.heap [] := va_S.rf
  have hXH : s.heap[aT]? = s.heap[aT]? := rfl
  have hl := lv_entry ([.ref g0]) (n := 5) (Nat.le_of_ble_eq_true rfl)
  rw [lg_entry_eq]
  generalize (lg_sl ([.ref g0]) ++ List.replicate (5 - (lg_sl ([.ref g0])).length) Slot.unset).toArray = ls at hl ⊢
  have hl : lv_has ls 5 [(0, .ref g0)] := hl
  refine lv_iconst (v := 0) hx hb d_Mo_endTurn_0 (by decide) ?_
  refine lv_istore_n (lv' := [(1, .int 0), (0, .ref g0)]) hx hb d_Mo_endTurn_1 rfl hl (by decide) rfl (fun ls hl => ?_)
  have loop : ∀ (k i : Nat) (ls : Array Slot), i + k = n → lv_has ls 5 [(1, .int (nI i)), (0, .ref g0)] → W p l e (headSpec w_Mo_endTurn ({ frames := 1, cells := 0, slots := 0, locals := 24 })).room s m ([.ref g0]).toArray below meth c s.heap [] 0 0 (MQ below (va_Qv (fun _ : Unit => True) (fun _ t => tB D A [(g0, .inr (6, [.int co, .int (nI n), .ref m_sea, .ref m_center, .ref m_home, .ref m_borders, .int 1, .int (mt + 1), .ref m_owner, .ref m_units, .ref m_kind, .ref m_toX, .ref m_toY, .ref m_results, .ref m_known, .ref m_reached, .ref m_way, .ref m_aside, .ref m_origin, .ref m_retreats, .ref m_contested, .ref m_moved, .int msh, .ref m_past])), (m_center, .inl (cZ, 12, .inl (fun j => bI (Ce j)))), (m_home, .inl (cI, 12, .inl fh)), (m_owner, .inl (cI, 12, .inl fw)), (m_units, .inl (cI, 12, .inl fu)), (m_kind, .inl (cI, 12, .inl (fun _ => 0))), (m_toX, .inl (cI, 12, .inl (fun _ => 0))), (m_toY, .inl (cI, 12, .inl (fun _ => 0)))] t) A) ([.ref g0]).toArray s 0 0 A) (F0 m 2 ls []) := by
    intro k
    induction k with
    | zero =>
      intro i ls hi hl
      have hie : i = n := by omega
      rw [hie] at hl
      refine lv_iload_n hx hb d_Mo_endTurn_2 rfl (lv_at hl 0 rfl) ?_
      refine lv_aload_n hx hb d_Mo_endTurn_3 rfl (lv_at hl 1 rfl) ?_
      refine va_get (D := D) (ci := 6) (v := .int (nI n)) (C := R_Mo) (T := T_Mo) (N := 24) hx hb hts hin_Mo hown hK hP 0 rfl rfl 1 (by decide) (hts _ wd_705) (fun _ h9 => h9) rfl d_Mo_endTurn_4 ?_
      refine lv_icmp_ge (tgt := 57) hx hb d_Mo_endTurn_7 (by decide) (fun _ => ?_) (fun h0 => absurd (Int32.le_refl _) h0)
      refine lv_iconst (v := 0) hx hb d_Mo_endTurn_57 (by decide) ?_
      refine lv_istore_n (lv' := [(1, .int 0), (0, .ref g0)]) hx hb d_Mo_endTurn_58 rfl hl (by decide) rfl (fun ls hl => ?_)
      refine lv_iconst (v := 0) hx hb d_Mo_endTurn_59 (by decide) ?_
      refine lv_istore_n (lv' := [(2, .int 0), (1, .int 0), (0, .ref g0)]) hx hb d_Mo_endTurn_60 rfl hl (by decide) rfl (fun ls hl => ?_)
      refine lv_iload_n hx hb d_Mo_endTurn_61 rfl (lv_at hl 0 rfl) ?_
      refine lv_iconst (v := 4) hx hb d_Mo_endTurn_62 (by decide) ?_
      refine lv_icmp_ge (tgt := 151) hx hb d_Mo_endTurn_63 (by decide) (fun h0 => absurd h0 (by decide)) (fun _ => ?_)
      refine lv_aload_n hx hb d_Mo_endTurn_66 rfl (lv_at hl 2 rfl) ?_
      refine va_get (D := D) (ci := 6) (v := .int mt) (C := R_Mo) (T := T_Mo) (N := 24) hx hb hts hin_Mo hown hK hP 0 rfl rfl 7 (by decide) (hts _ wd_711) (fun _ h9 => h9) rfl d_Mo_endTurn_67 ?_
      refine lv_iconst (v := 2) hx hb d_Mo_endTurn_70 (by decide) ?_
      refine lv_irem hx hb d_Mo_endTurn_71 (by decide) ?_
      refine lv_if_ne (tgt := 151) hx hb d_Mo_endTurn_72 (by decide) (fun _ => ?_) (fun h0 => absurd h0 hev)
      refine lv_iload_n hx hb d_Mo_endTurn_151 rfl (lv_at hl 1 rfl) ?_
      refine lv_if_eq (tgt := 163) hx hb d_Mo_endTurn_152 (by decide) (fun _ => ?_) (fun h0 => absurd (by decide) h0)
      refine lv_aload_n hx hb d_Mo_endTurn_163 rfl (lv_at hl 2 rfl) ?_
      have hPc := hP.sub (ws' := [(g0, .inr (6, [.int co, .int (nI n), .ref m_sea, .ref m_center, .ref m_home, .ref m_borders, .int mp, .int mt, .ref m_owner, .ref m_units, .ref m_kind, .ref m_toX, .ref m_toY, .ref m_results, .ref m_known, .ref m_reached, .ref m_way, .ref m_aside, .ref m_origin, .ref m_retreats, .ref m_contested, .ref m_moved, .int msh, .ref m_past])), (m_kind, .inl (cI, 12, .inl (fun j => nI (Kd j)))), (m_toX, .inl (cI, 12, .inl (fun j => nI (X j)))), (m_toY, .inl (cI, 12, .inl (fun j => nI (Y j))))]) [0, 5, 6, 7] rfl
      have hDc := hD.sub (ws' := [(g0, .inr (6, [.int co, .int (nI n), .ref m_sea, .ref m_center, .ref m_home, .ref m_borders, .int mp, .int mt, .ref m_owner, .ref m_units, .ref m_kind, .ref m_toX, .ref m_toY, .ref m_results, .ref m_known, .ref m_reached, .ref m_way, .ref m_aside, .ref m_origin, .ref m_retreats, .ref m_contested, .ref m_moved, .int msh, .ref m_past])), (m_kind, .inl (cI, 12, .inl (fun j => nI (Kd j)))), (m_toX, .inl (cI, 12, .inl (fun j => nI (X j)))), (m_toY, .inl (cI, 12, .inl (fun j => nI (Y j))))]) [0, 5, 6, 7] (by decide) rfl
      have hFc := va_free (wc := [(g0, .inr (6, [.int co, .int (nI n), .ref m_sea, .ref m_center, .ref m_home, .ref m_borders, .int mp, .int mt, .ref m_owner, .ref m_units, .ref m_kind, .ref m_toX, .ref m_toY, .ref m_results, .ref m_known, .ref m_reached, .ref m_way, .ref m_aside, .ref m_origin, .ref m_retreats, .ref m_contested, .ref m_moved, .int msh, .ref m_past])), (m_kind, .inl (cI, 12, .inl (fun j => nI (Kd j)))), (m_toX, .inl (cI, 12, .inl (fun j => nI (X j)))), (m_toY, .inl (cI, 12, .inl (fun j => nI (Y j))))]) hD hS hA [0, 5, 6, 7] rfl
      refine va_callv (va_runV (As := []) (rest := []) ⟨hx, hb, hml, hown, hts⟩ (c_Mo_nextTurn l D cI cZ cJ cS aT ceT s.heap.size g0 m_sea m_center m_home m_borders m_owner m_units m_kind m_toX m_toY m_results m_known m_reached m_way m_aside m_origin m_retreats m_contested m_moved m_past co (nI n) mp mt msh (fun j => nI (Kd j)) (fun j => nI (X j)) (fun j => nI (Y j)) ) (cwV 0 hts (tb_4 wd_817 wd_819 wp_40 wd_8 (tb_c wd_820)) rfl rfl rfl ⟨rfl, by decide, by decide, by decide +kernel⟩ ⟨Nat.le_of_ble_eq_true rfl, Nat.le_of_ble_eq_true rfl⟩) (tH_V hK hX (hS.2.1 aT hXl hXn) hPc hDc (q := 0) rfl rfl) rfl rfl hl.1 rfl (lv_room (Nat.le_of_ble_eq_true rfl)) d_Mo_endTurn_164 ⟨Nat.le_of_ble_eq_true rfl, Nat.le_of_ble_eq_true rfl⟩) hS (fun q _ h => hFc q h) hFc (fun u t H1 locs ht hvm h9 hB hz1 hk1 hS => ?_)
      obtain ⟨hP1, hD1⟩ := hB
      rw [ht] at hP1
      obtain ⟨hP, hD⟩ := va_join (wr := [(m_center, .inl (cZ, 12, .inl (fun j => bI (Ce j)))), (m_home, .inl (cI, 12, .inl fh)), (m_owner, .inl (cI, 12, .inl fw)), (m_units, .inl (cI, 12, .inl fu))]) (w1 := [(g0, .inr (6, [.int co, .int (nI n), .ref m_sea, .ref m_center, .ref m_home, .ref m_borders, .int 1, .int (mt + 1), .ref m_owner, .ref m_units, .ref m_kind, .ref m_toX, .ref m_toY, .ref m_results, .ref m_known, .ref m_reached, .ref m_way, .ref m_aside, .ref m_origin, .ref m_retreats, .ref m_contested, .ref m_moved, .int msh, .ref m_past])), (m_kind, .inl (cI, 12, .inl (fun _ => 0))), (m_toX, .inl (cI, 12, .inl (fun _ => 0))), (m_toY, .inl (cI, 12, .inl (fun _ => 0)))]) hP hD [0, 5, 6, 7] [1, 2, 3, 4] rfl rfl (by decide) (by decide) hk1 hFc hP1 hD1
      generalize H1 = H at hP hS ⊢
      have hP : va_P D vwCl [(m_center, .inl (cZ, 12, .inl (fun j => bI (Ce j)))), (m_home, .inl (cI, 12, .inl fh)), (m_owner, .inl (cI, 12, .inl fw)), (m_units, .inl (cI, 12, .inl fu)), (g0, .inr (6, [.int co, .int (nI n), .ref m_sea, .ref m_center, .ref m_home, .ref m_borders, .int 1, .int (mt + 1), .ref m_owner, .ref m_units, .ref m_kind, .ref m_toX, .ref m_toY, .ref m_results, .ref m_known, .ref m_reached, .ref m_way, .ref m_aside, .ref m_origin, .ref m_retreats, .ref m_contested, .ref m_moved, .int msh, .ref m_past])), (m_kind, .inl (cI, 12, .inl (fun _ => 0))), (m_toX, .inl (cI, 12, .inl (fun _ => 0))), (m_toY, .inl (cI, 12, .inl (fun _ => 0)))] H := hP
      have hD : va_D A [(m_center, .inl (cZ, 12, .inl (fun j => bI (Ce j)))), (m_home, .inl (cI, 12, .inl fh)), (m_owner, .inl (cI, 12, .inl fw)), (m_units, .inl (cI, 12, .inl fu)), (g0, .inr (6, [.int co, .int (nI n), .ref m_sea, .ref m_center, .ref m_home, .ref m_borders, .int 1, .int (mt + 1), .ref m_owner, .ref m_units, .ref m_kind, .ref m_toX, .ref m_toY, .ref m_results, .ref m_known, .ref m_reached, .ref m_way, .ref m_aside, .ref m_origin, .ref m_retreats, .ref m_contested, .ref m_moved, .int msh, .ref m_past])), (m_kind, .inl (cI, 12, .inl (fun _ => 0))), (m_toX, .inl (cI, 12, .inl (fun _ => 0))), (m_toY, .inl (cI, 12, .inl (fun _ => 0)))] := hD
      have hP9 := hP.sub (ws' := [(g0, .inr (6, [.int co, .int (nI n), .ref m_sea, .ref m_center, .ref m_home, .ref m_borders, .int 1, .int (mt + 1), .ref m_owner, .ref m_units, .ref m_kind, .ref m_toX, .ref m_toY, .ref m_results, .ref m_known, .ref m_reached, .ref m_way, .ref m_aside, .ref m_origin, .ref m_retreats, .ref m_contested, .ref m_moved, .int msh, .ref m_past])), (m_center, .inl (cZ, 12, .inl (fun j => bI (Ce j)))), (m_home, .inl (cI, 12, .inl fh)), (m_owner, .inl (cI, 12, .inl fw)), (m_units, .inl (cI, 12, .inl fu)), (m_kind, .inl (cI, 12, .inl (fun _ => 0))), (m_toX, .inl (cI, 12, .inl (fun _ => 0))), (m_toY, .inl (cI, 12, .inl (fun _ => 0)))]) [4, 0, 1, 2, 3, 5, 6, 7] rfl
      have hD9 := hD.sub (ws' := [(g0, .inr (6, [.int co, .int (nI n), .ref m_sea, .ref m_center, .ref m_home, .ref m_borders, .int 1, .int (mt + 1), .ref m_owner, .ref m_units, .ref m_kind, .ref m_toX, .ref m_toY, .ref m_results, .ref m_known, .ref m_reached, .ref m_way, .ref m_aside, .ref m_origin, .ref m_retreats, .ref m_contested, .ref m_moved, .int msh, .ref m_past])), (m_center, .inl (cZ, 12, .inl (fun j => bI (Ce j)))), (m_home, .inl (cI, 12, .inl fh)), (m_owner, .inl (cI, 12, .inl fw)), (m_units, .inl (cI, 12, .inl fu)), (m_kind, .inl (cI, 12, .inl (fun _ => 0))), (m_toX, .inl (cI, 12, .inl (fun _ => 0))), (m_toY, .inl (cI, 12, .inl (fun _ => 0)))]) [4, 0, 1, 2, 3, 5, 6, 7] (by decide) rfl
      exact W.vret hx hb hr (fun t ht hW => ⟨⟨(), rfl, trivial, by rw [ht]; exact hP9, hD9⟩, hS.F ht⟩) hS.2.2 d_Mo_endTurn_167
    | succ k ih =>
      intro i ls hi hl
      have hlt : i < n := by omega
      have hlt12 : i < 12 := by omega
      refine lv_iload_n hx hb d_Mo_endTurn_2 rfl (lv_at hl 0 rfl) ?_
      refine lv_aload_n hx hb d_Mo_endTurn_3 rfl (lv_at hl 1 rfl) ?_
      refine va_get (D := D) (ci := 6) (v := .int (nI n)) (C := R_Mo) (T := T_Mo) (N := 24) hx hb hts hin_Mo hown hK hP 0 rfl rfl 1 (by decide) (hts _ wd_705) (fun _ h9 => h9) rfl d_Mo_endTurn_4 ?_
      refine lv_icmp_ge (tgt := 57) hx hb d_Mo_endTurn_7 (by decide) (fun h0 => absurd h0 (nI_ge hlt (by omega))) (fun _ => ?_)
      refine lv_aload_n hx hb d_Mo_endTurn_10 rfl (lv_at hl 1 rfl) ?_
      refine va_get (D := D) (ci := 6) (v := .int mt) (C := R_Mo) (T := T_Mo) (N := 24) hx hb hts hin_Mo hown hK hP 0 rfl rfl 7 (by decide) (hts _ wd_711) (fun _ h9 => h9) rfl d_Mo_endTurn_11 ?_
      refine lv_iconst (v := 2) hx hb d_Mo_endTurn_14 (by decide) ?_
      refine lv_irem hx hb d_Mo_endTurn_15 (by decide) ?_
      refine lv_if_ne (tgt := 51) hx hb d_Mo_endTurn_16 (by decide) (fun _ => ?_) (fun h0 => absurd h0 hev)
      refine lv_iinc (lv' := [(1, .int ((nI i) + 1)), (0, .ref g0)]) hx hb d_Mo_endTurn_51 hl (k := 0) rfl rfl (by decide) rfl (fun ls hl => ?_)
      refine lv_goto (tgt := 2) hx hb d_Mo_endTurn_54 (by decide) ?_
      have e7 : (nI i) + 1 = nI (i + 1) := nI_1 i
      exact ih (i + 1) ls (by omega) (by rw [← e7]; exact lv_sub hl [0, 1] rfl)
  exact loop n 0 ls (Nat.zero_add _) hl

theorem wd_948 : (Cond.code ({ cls := "SheetWarModel", name := "mayBuild", desc := "(II)Z" } : MethodName) prog_8_method_43_code (3 : Nat) (Option.some FieldType.boolean)) ∈ TB := tb_t 948 (by decide +kernel) (by decide +kernel)
theorem wd_945 : (Cond.methodLink "SheetWarModel" (198 : Nat) ({ cls := "SheetWarModel", name := "mayBuild", desc := "(II)Z" } : MethodName)) ∈ TB := tb_t 945 (by decide +kernel) (by decide +kernel)
theorem wd_947 : (Cond.instanceMethod ({ cls := "SheetWarModel", name := "mayBuild", desc := "(II)Z" } : MethodName)) ∈ TB := tb_t 947 (by decide +kernel) (by decide +kernel)
theorem wp_70 : Cond.selects "SheetWarModel" ⟨"SheetWarModel", "mayBuild", "(II)Z"⟩ ⟨"SheetWarModel", "mayBuild", "(II)Z"⟩ ∈ TB := tb_p 70 (by decide +kernel) (by decide +kernel)
set_option maxHeartbeats 4000000 in
set_option maxRecDepth 100000 in
theorem c_Mo_endTurnB (l : Launch) (D : va_G) (cI cZ cJ cS : ClassId) (aT : Nat) (ceT : Cell) (sz : Nat) (g0 m_sea m_center m_home m_borders m_owner m_units m_kind m_toX m_toY m_results m_known m_reached m_way m_aside m_origin m_retreats m_contested m_moved m_past : Nat) (n : Nat) (co mp mt msh : Int32) (Ce : Nat → Bool) (fh : Nat → Int32) (fw : Nat → Int32) (fu : Nat → Int32) (Kd : Nat → Nat) (X : Nat → Nat) (Y : Nat → Nat) (hKd : ∀ j, Kd j < 4) (hX9 : ∀ j, X j < 12) (hY9 : ∀ j, Y j < 12) (hn : n ≤ 12) (hev : mt - mt / 2 * 2 = 0) (hdu : anyB (bdR Ce fh (mxI (tkR Ce fw fu) fw n) fu n) 4 = true) : Met l y_Mo_endTurn w_Mo_endTurn ({ frames := 1, cells := 0, slots := 0, locals := 24 }) (tH D cI cZ cJ cS aT ceT [.ref g0] sz [(g0, .inr (6, [.int co, .int (nI n), .ref m_sea, .ref m_center, .ref m_home, .ref m_borders, .int mp, .int mt, .ref m_owner, .ref m_units, .ref m_kind, .ref m_toX, .ref m_toY, .ref m_results, .ref m_known, .ref m_reached, .ref m_way, .ref m_aside, .ref m_origin, .ref m_retreats, .ref m_contested, .ref m_moved, .int msh, .ref m_past])), (m_center, .inl (cZ, 12, .inl (fun j => bI (Ce j)))), (m_home, .inl (cI, 12, .inl fh)), (m_owner, .inl (cI, 12, .inl fw)), (m_units, .inl (cI, 12, .inl fu)), (m_kind, .inl (cI, 12, .inl (fun j => nI (Kd j)))), (m_toX, .inl (cI, 12, .inl (fun j => nI (X j)))), (m_toY, .inl (cI, 12, .inl (fun j => nI (Y j))))]) (va_Qv (fun _ : Unit => True) (fun _ t => tB D (va_A [(g0, .inr (6, [.int co, .int (nI n), .ref m_sea, .ref m_center, .ref m_home, .ref m_borders, .int mp, .int mt, .ref m_owner, .ref m_units, .ref m_kind, .ref m_toX, .ref m_toY, .ref m_results, .ref m_known, .ref m_reached, .ref m_way, .ref m_aside, .ref m_origin, .ref m_retreats, .ref m_contested, .ref m_moved, .int msh, .ref m_past])), (m_center, .inl (cZ, 12, .inl (fun j => bI (Ce j)))), (m_home, .inl (cI, 12, .inl fh)), (m_owner, .inl (cI, 12, .inl fw)), (m_units, .inl (cI, 12, .inl fu)), (m_kind, .inl (cI, 12, .inl (fun j => nI (Kd j)))), (m_toX, .inl (cI, 12, .inl (fun j => nI (X j)))), (m_toY, .inl (cI, 12, .inl (fun j => nI (Y j))))] sz) [(g0, .inr (6, [.int co, .int (nI n), .ref m_sea, .ref m_center, .ref m_home, .ref m_borders, .int 3, .int mt, .ref m_owner, .ref m_units, .ref m_kind, .ref m_toX, .ref m_toY, .ref m_results, .ref m_known, .ref m_reached, .ref m_way, .ref m_aside, .ref m_origin, .ref m_retreats, .ref m_contested, .ref m_moved, .int msh, .ref m_past])), (m_center, .inl (cZ, 12, .inl (fun j => bI (Ce j)))), (m_home, .inl (cI, 12, .inl fh)), (m_owner, .inl (cI, 12, .inl (mxI (tkR Ce fw fu) fw n))), (m_units, .inl (cI, 12, .inl fu)), (m_kind, .inl (cI, 12, .inl (fun j => nI (Kd j)))), (m_toX, .inl (cI, 12, .inl (fun j => nI (X j)))), (m_toY, .inl (cI, 12, .inl (fun j => nI (Y j))))] t) (va_A [(g0, .inr (6, [.int co, .int (nI n), .ref m_sea, .ref m_center, .ref m_home, .ref m_borders, .int mp, .int mt, .ref m_owner, .ref m_units, .ref m_kind, .ref m_toX, .ref m_toY, .ref m_results, .ref m_known, .ref m_reached, .ref m_way, .ref m_aside, .ref m_origin, .ref m_retreats, .ref m_contested, .ref m_moved, .int msh, .ref m_past])), (m_center, .inl (cZ, 12, .inl (fun j => bI (Ce j)))), (m_home, .inl (cI, 12, .inl fh)), (m_owner, .inl (cI, 12, .inl fw)), (m_units, .inl (cI, 12, .inl fu)), (m_kind, .inl (cI, 12, .inl (fun j => nI (Kd j)))), (m_toX, .inl (cI, 12, .inl (fun j => nI (X j)))), (m_toY, .inl (cI, 12, .inl (fun j => nI (Y j))))] sz)) 0 0 (va_A [(g0, .inr (6, [.int co, .int (nI n), .ref m_sea, .ref m_center, .ref m_home, .ref m_borders, .int mp, .int mt, .ref m_owner, .ref m_units, .ref m_kind, .ref m_toX, .ref m_toY, .ref m_results, .ref m_known, .ref m_reached, .ref m_way, .ref m_aside, .ref m_origin, .ref m_retreats, .ref m_contested, .ref m_moved, .int msh, .ref m_past])), (m_center, .inl (cZ, 12, .inl (fun j => bI (Ce j)))), (m_home, .inl (cI, 12, .inl fh)), (m_owner, .inl (cI, 12, .inl fw)), (m_units, .inl (cI, 12, .inl fu)), (m_kind, .inl (cI, 12, .inl (fun j => nI (Kd j)))), (m_toX, .inl (cI, 12, .inl (fun j => nI (X j)))), (m_toY, .inl (cI, 12, .inl (fun j => nI (Y j))))] sz) := by
  refine Met.ofW (cc := b_Mo_endTurn) (maxL := 5) (ret := none) (by decide) rfl ?_
  intro p e s m args below meth c s₁ B hml hv
  obtain ⟨rfl, hsz, hP, hK, hD0, hX⟩ := hv
  have hx := B.exec
  have hb := B.bytes
  have hr := B.returns
  have hts0 := atoms_spec (ws := w_Mo_endTurn) B.pre
  have hts : ∀ w ∈ TB, w.before _ s = true := fun w h => hts0 w (List.mem_cons_of_mem _ h)
  have hown : s.vm.findClass R_Mo = some m.cls := findClass_of_methodNamed B.named
  have hlocks := B.notSynchronized
  subst hsz
  have hXl := tx_lt hX
  have hXn := tx_far hP hX
  have hD := hD0.self (sz := s.heap.size)
  generalize hAe : va_A [(g0, .inr (6, [.int co, .int (nI n), .ref m_sea, .ref m_center, .ref m_home, .ref m_borders, .int mp, .int mt, .ref m_owner, .ref m_units, .ref m_kind, .ref m_toX, .ref m_toY, .ref m_results, .ref m_known, .ref m_reached, .ref m_way, .ref m_aside, .ref m_origin, .ref m_retreats, .ref m_contested, .ref m_moved, .int msh, .ref m_past])), (m_center, .inl (cZ, 12, .inl (fun j => bI (Ce j)))), (m_home, .inl (cI, 12, .inl fh)), (m_owner, .inl (cI, 12, .inl fw)), (m_units, .inl (cI, 12, .inl fu)), (m_kind, .inl (cI, 12, .inl (fun j => nI (Kd j)))), (m_toX, .inl (cI, 12, .inl (fun j => nI (X j)))), (m_toY, .inl (cI, 12, .inl (fun j => nI (Y j))))] s.heap.size = A at hD hXn ⊢
  have hA : ∀ q : Nat, s.heap.size ≤ q → A q := fun q h => by rw [← hAe]; exact Or.inr h
  have hS : va_S A s.heap s.heap [] := va_S.rf
  have hXH : s.heap[aT]? = s.heap[aT]? := rfl
  have hl := lv_entry ([.ref g0]) (n := 5) (Nat.le_of_ble_eq_true rfl)
  rw [lg_entry_eq]
  generalize (lg_sl ([.ref g0]) ++ List.replicate (5 - (lg_sl ([.ref g0])).length) Slot.unset).toArray = ls at hl ⊢
  have hl : lv_has ls 5 [(0, .ref g0)] := hl
  refine lv_iconst (v := 0) hx hb d_Mo_endTurn_0 (by decide) ?_
  refine lv_istore_n (lv' := [(1, .int 0), (0, .ref g0)]) hx hb d_Mo_endTurn_1 rfl hl (by decide) rfl (fun ls hl => ?_)
  have loop : ∀ (k i : Nat) (ls : Array Slot) (H : Heap) (locs : List Loc), i + k = n → lv_has ls 5 [(1, .int (nI i)), (0, .ref g0)] → va_P D vwCl [(g0, .inr (6, [.int co, .int (nI n), .ref m_sea, .ref m_center, .ref m_home, .ref m_borders, .int mp, .int mt, .ref m_owner, .ref m_units, .ref m_kind, .ref m_toX, .ref m_toY, .ref m_results, .ref m_known, .ref m_reached, .ref m_way, .ref m_aside, .ref m_origin, .ref m_retreats, .ref m_contested, .ref m_moved, .int msh, .ref m_past])), (m_center, .inl (cZ, 12, .inl (fun j => bI (Ce j)))), (m_home, .inl (cI, 12, .inl fh)), (m_owner, .inl (cI, 12, .inl (mxI (tkR Ce fw fu) fw i))), (m_units, .inl (cI, 12, .inl fu)), (m_kind, .inl (cI, 12, .inl (fun j => nI (Kd j)))), (m_toX, .inl (cI, 12, .inl (fun j => nI (X j)))), (m_toY, .inl (cI, 12, .inl (fun j => nI (Y j))))] H → va_D A [(g0, .inr (6, [.int co, .int (nI n), .ref m_sea, .ref m_center, .ref m_home, .ref m_borders, .int mp, .int mt, .ref m_owner, .ref m_units, .ref m_kind, .ref m_toX, .ref m_toY, .ref m_results, .ref m_known, .ref m_reached, .ref m_way, .ref m_aside, .ref m_origin, .ref m_retreats, .ref m_contested, .ref m_moved, .int msh, .ref m_past])), (m_center, .inl (cZ, 12, .inl (fun j => bI (Ce j)))), (m_home, .inl (cI, 12, .inl fh)), (m_owner, .inl (cI, 12, .inl (mxI (tkR Ce fw fu) fw i))), (m_units, .inl (cI, 12, .inl fu)), (m_kind, .inl (cI, 12, .inl (fun j => nI (Kd j)))), (m_toX, .inl (cI, 12, .inl (fun j => nI (X j)))), (m_toY, .inl (cI, 12, .inl (fun j => nI (Y j))))] → va_S A s.heap H locs → W p l e (headSpec w_Mo_endTurn ({ frames := 1, cells := 0, slots := 0, locals := 24 })).room s m ([.ref g0]).toArray below meth c H locs 0 0 (MQ below (va_Qv (fun _ : Unit => True) (fun _ t => tB D A [(g0, .inr (6, [.int co, .int (nI n), .ref m_sea, .ref m_center, .ref m_home, .ref m_borders, .int 3, .int mt, .ref m_owner, .ref m_units, .ref m_kind, .ref m_toX, .ref m_toY, .ref m_results, .ref m_known, .ref m_reached, .ref m_way, .ref m_aside, .ref m_origin, .ref m_retreats, .ref m_contested, .ref m_moved, .int msh, .ref m_past])), (m_center, .inl (cZ, 12, .inl (fun j => bI (Ce j)))), (m_home, .inl (cI, 12, .inl fh)), (m_owner, .inl (cI, 12, .inl (mxI (tkR Ce fw fu) fw n))), (m_units, .inl (cI, 12, .inl fu)), (m_kind, .inl (cI, 12, .inl (fun j => nI (Kd j)))), (m_toX, .inl (cI, 12, .inl (fun j => nI (X j)))), (m_toY, .inl (cI, 12, .inl (fun j => nI (Y j))))] t) A) ([.ref g0]).toArray s 0 0 A) (F0 m 2 ls []) := by
    intro k
    induction k with
    | zero =>
      intro i ls H locs hi hl hP hD hS
      have hie : i = n := by omega
      rw [hie] at hl hP hD
      refine lv_iload_n hx hb d_Mo_endTurn_2 rfl (lv_at hl 0 rfl) ?_
      refine lv_aload_n hx hb d_Mo_endTurn_3 rfl (lv_at hl 1 rfl) ?_
      refine va_get (D := D) (ci := 6) (v := .int (nI n)) (C := R_Mo) (T := T_Mo) (N := 24) hx hb hts hin_Mo hown hK hP 0 rfl rfl 1 (by decide) (hts _ wd_705) (fun _ h9 => h9) rfl d_Mo_endTurn_4 ?_
      refine lv_icmp_ge (tgt := 57) hx hb d_Mo_endTurn_7 (by decide) (fun _ => ?_) (fun h0 => absurd (Int32.le_refl _) h0)
      refine lv_iconst (v := 0) hx hb d_Mo_endTurn_57 (by decide) ?_
      refine lv_istore_n (lv' := [(1, .int 0), (0, .ref g0)]) hx hb d_Mo_endTurn_58 rfl hl (by decide) rfl (fun ls hl => ?_)
      refine lv_iconst (v := 0) hx hb d_Mo_endTurn_59 (by decide) ?_
      refine lv_istore_n (lv' := [(2, .int 0), (1, .int 0), (0, .ref g0)]) hx hb d_Mo_endTurn_60 rfl hl (by decide) rfl (fun ls hl => ?_)
      have loop : ∀ (k i : Nat) (ls : Array Slot), i + k = 4 → lv_has ls 5 [(2, .int (nI i)), (1, .int (bI (anyB (bdR Ce fh (mxI (tkR Ce fw fu) fw n) fu n) i))), (0, .ref g0)] → W p l e (headSpec w_Mo_endTurn ({ frames := 1, cells := 0, slots := 0, locals := 24 })).room s m ([.ref g0]).toArray below meth c H locs 0 0 (MQ below (va_Qv (fun _ : Unit => True) (fun _ t => tB D A [(g0, .inr (6, [.int co, .int (nI n), .ref m_sea, .ref m_center, .ref m_home, .ref m_borders, .int 3, .int mt, .ref m_owner, .ref m_units, .ref m_kind, .ref m_toX, .ref m_toY, .ref m_results, .ref m_known, .ref m_reached, .ref m_way, .ref m_aside, .ref m_origin, .ref m_retreats, .ref m_contested, .ref m_moved, .int msh, .ref m_past])), (m_center, .inl (cZ, 12, .inl (fun j => bI (Ce j)))), (m_home, .inl (cI, 12, .inl fh)), (m_owner, .inl (cI, 12, .inl (mxI (tkR Ce fw fu) fw n))), (m_units, .inl (cI, 12, .inl fu)), (m_kind, .inl (cI, 12, .inl (fun j => nI (Kd j)))), (m_toX, .inl (cI, 12, .inl (fun j => nI (X j)))), (m_toY, .inl (cI, 12, .inl (fun j => nI (Y j))))] t) A) ([.ref g0]).toArray s 0 0 A) (F0 m 61 ls []) := by
        intro k
        induction k with
        | zero =>
          intro i ls hi hl
          have hie : i = 4 := by omega
          rw [hie] at hl
          refine lv_iload_n hx hb d_Mo_endTurn_61 rfl (lv_at hl 0 rfl) ?_
          refine lv_iconst (v := 4) hx hb d_Mo_endTurn_62 (by decide) ?_
          refine lv_icmp_ge (tgt := 151) hx hb d_Mo_endTurn_63 (by decide) (fun _ => ?_) (fun h0 => absurd (by decide) h0)
          refine lv_iload_n hx hb d_Mo_endTurn_151 rfl (lv_at hl 1 rfl) ?_
          refine tr_top (bI_t hdu) ?_
          refine lv_if_eq (tgt := 163) hx hb d_Mo_endTurn_152 (by decide) (fun h0 => absurd h0 (by decide)) (fun _ => ?_)
          refine lv_aload_n hx hb d_Mo_endTurn_155 rfl (lv_at hl 2 rfl) ?_
          refine lv_iconst (v := 3) hx hb d_Mo_endTurn_156 (by decide) ?_
          refine va_put (D := D) (ci := 6) (v := .int 3) (ty := .int) (C := R_Mo) (T := T_Mo) (N := 24) hx hb hts hin_Mo ty_Mo tyok_Mo nm_Mo hown hK hP hD hS 0 rfl rfl 6 (by decide) (hts _ wd_710) (fun _ h9 => h9) rfl (by decide +kernel) rfl rfl (Nat.le_of_ble_eq_true rfl) d_Mo_endTurn_157 (fun H locs hP hD hS => ?_)
          have hP : va_P D vwCl [(g0, .inr (6, [.int co, .int (nI n), .ref m_sea, .ref m_center, .ref m_home, .ref m_borders, .int 3, .int mt, .ref m_owner, .ref m_units, .ref m_kind, .ref m_toX, .ref m_toY, .ref m_results, .ref m_known, .ref m_reached, .ref m_way, .ref m_aside, .ref m_origin, .ref m_retreats, .ref m_contested, .ref m_moved, .int msh, .ref m_past])), (m_center, .inl (cZ, 12, .inl (fun j => bI (Ce j)))), (m_home, .inl (cI, 12, .inl fh)), (m_owner, .inl (cI, 12, .inl (mxI (tkR Ce fw fu) fw n))), (m_units, .inl (cI, 12, .inl fu)), (m_kind, .inl (cI, 12, .inl (fun j => nI (Kd j)))), (m_toX, .inl (cI, 12, .inl (fun j => nI (X j)))), (m_toY, .inl (cI, 12, .inl (fun j => nI (Y j))))] H := hP
          have hD : va_D A [(g0, .inr (6, [.int co, .int (nI n), .ref m_sea, .ref m_center, .ref m_home, .ref m_borders, .int 3, .int mt, .ref m_owner, .ref m_units, .ref m_kind, .ref m_toX, .ref m_toY, .ref m_results, .ref m_known, .ref m_reached, .ref m_way, .ref m_aside, .ref m_origin, .ref m_retreats, .ref m_contested, .ref m_moved, .int msh, .ref m_past])), (m_center, .inl (cZ, 12, .inl (fun j => bI (Ce j)))), (m_home, .inl (cI, 12, .inl fh)), (m_owner, .inl (cI, 12, .inl (mxI (tkR Ce fw fu) fw n))), (m_units, .inl (cI, 12, .inl fu)), (m_kind, .inl (cI, 12, .inl (fun j => nI (Kd j)))), (m_toX, .inl (cI, 12, .inl (fun j => nI (X j)))), (m_toY, .inl (cI, 12, .inl (fun j => nI (Y j))))] := hD
          refine lv_goto (tgt := 167) hx hb d_Mo_endTurn_160 (by decide) ?_
          have hP9 := hP.sub (ws' := [(g0, .inr (6, [.int co, .int (nI n), .ref m_sea, .ref m_center, .ref m_home, .ref m_borders, .int 3, .int mt, .ref m_owner, .ref m_units, .ref m_kind, .ref m_toX, .ref m_toY, .ref m_results, .ref m_known, .ref m_reached, .ref m_way, .ref m_aside, .ref m_origin, .ref m_retreats, .ref m_contested, .ref m_moved, .int msh, .ref m_past])), (m_center, .inl (cZ, 12, .inl (fun j => bI (Ce j)))), (m_home, .inl (cI, 12, .inl fh)), (m_owner, .inl (cI, 12, .inl (mxI (tkR Ce fw fu) fw n))), (m_units, .inl (cI, 12, .inl fu)), (m_kind, .inl (cI, 12, .inl (fun j => nI (Kd j)))), (m_toX, .inl (cI, 12, .inl (fun j => nI (X j)))), (m_toY, .inl (cI, 12, .inl (fun j => nI (Y j))))]) [0, 1, 2, 3, 4, 5, 6, 7] rfl
          have hD9 := hD.sub (ws' := [(g0, .inr (6, [.int co, .int (nI n), .ref m_sea, .ref m_center, .ref m_home, .ref m_borders, .int 3, .int mt, .ref m_owner, .ref m_units, .ref m_kind, .ref m_toX, .ref m_toY, .ref m_results, .ref m_known, .ref m_reached, .ref m_way, .ref m_aside, .ref m_origin, .ref m_retreats, .ref m_contested, .ref m_moved, .int msh, .ref m_past])), (m_center, .inl (cZ, 12, .inl (fun j => bI (Ce j)))), (m_home, .inl (cI, 12, .inl fh)), (m_owner, .inl (cI, 12, .inl (mxI (tkR Ce fw fu) fw n))), (m_units, .inl (cI, 12, .inl fu)), (m_kind, .inl (cI, 12, .inl (fun j => nI (Kd j)))), (m_toX, .inl (cI, 12, .inl (fun j => nI (X j)))), (m_toY, .inl (cI, 12, .inl (fun j => nI (Y j))))]) [0, 1, 2, 3, 4, 5, 6, 7] (by decide) rfl
          exact W.vret hx hb hr (fun t ht hW => ⟨⟨(), rfl, trivial, by rw [ht]; exact hP9, hD9⟩, hS.F ht⟩) hS.2.2 d_Mo_endTurn_167
        | succ k ih =>
          intro i ls hi hl
          have hlt : i < 4 := by omega
          have hlt12 : i < 12 := by omega
          refine lv_iload_n hx hb d_Mo_endTurn_61 rfl (lv_at hl 0 rfl) ?_
          refine lv_iconst (v := 4) hx hb d_Mo_endTurn_62 (by decide) ?_
          refine lv_icmp_ge (tgt := 151) hx hb d_Mo_endTurn_63 (by decide) (fun h0 => absurd h0 (nI_ge hlt (by decide))) (fun _ => ?_)
          refine lv_aload_n hx hb d_Mo_endTurn_66 rfl (lv_at hl 2 rfl) ?_
          refine va_get (D := D) (ci := 6) (v := .int mt) (C := R_Mo) (T := T_Mo) (N := 24) hx hb hts hin_Mo hown hK hP 0 rfl rfl 7 (by decide) (hts _ wd_711) (fun _ h9 => h9) rfl d_Mo_endTurn_67 ?_
          refine lv_iconst (v := 2) hx hb d_Mo_endTurn_70 (by decide) ?_
          refine lv_irem hx hb d_Mo_endTurn_71 (by decide) ?_
          refine lv_if_ne (tgt := 151) hx hb d_Mo_endTurn_72 (by decide) (fun h0 => absurd hev h0) (fun _ => ?_)
          refine lv_aload_n hx hb d_Mo_endTurn_75 rfl (lv_at hl 2 rfl) ?_
          refine lv_iload_n hx hb d_Mo_endTurn_76 rfl (lv_at hl 0 rfl) ?_
          refine lv_iconst (v := 0) hx hb d_Mo_endTurn_77 (by decide) ?_
          have hPc := hP.sub (ws' := [(g0, .inr (6, [.int co, .int (nI n), .ref m_sea, .ref m_center, .ref m_home, .ref m_borders, .int mp, .int mt, .ref m_owner, .ref m_units, .ref m_kind, .ref m_toX, .ref m_toY, .ref m_results, .ref m_known, .ref m_reached, .ref m_way, .ref m_aside, .ref m_origin, .ref m_retreats, .ref m_contested, .ref m_moved, .int msh, .ref m_past])), (m_center, .inl (cZ, 12, .inl (fun j => bI (Ce j)))), (m_owner, .inl (cI, 12, .inl (mxI (tkR Ce fw fu) fw n))), (m_units, .inl (cI, 12, .inl fu))]) [0, 1, 3, 4] rfl
          refine vp_callSi (va_Run.run (va_runV (As := [.int (nI i), .int 0]) (rest := []) ⟨hx, hb, hml, hown, hts⟩ (c_Mo_counted l D cI cZ cJ cS aT ceT  g0 m_sea m_center m_home m_borders m_owner m_units m_kind m_toX m_toY m_results m_known m_reached m_way m_aside m_origin m_retreats m_contested m_moved m_past n co mp mt msh Ce (mxI (tkR Ce fw fu) fw n) fu (nI i) false hn) (cwV 2 hts (tb_4 wd_941 wd_943 wp_69 wd_8 (tb_c wd_944)) rfl rfl rfl ⟨rfl, by decide, by decide, by decide +kernel⟩ ⟨Nat.le_of_ble_eq_true rfl, Nat.le_of_ble_eq_true rfl⟩) (tP_V hK hX (hS.2.1 aT hXl hXn) hPc (q := 0) rfl rfl) rfl rfl hl.1 rfl (lv_room (Nat.le_of_ble_eq_true rfl)) d_Mo_endTurn_78 ⟨Nat.le_of_ble_eq_true rfl, Nat.le_of_ble_eq_true rfl⟩)) (fun r7 hr9 => ?_)
          rw [hr9]
          refine lv_aload_n hx hb d_Mo_endTurn_81 rfl (lv_at hl 2 rfl) ?_
          refine lv_iload_n hx hb d_Mo_endTurn_82 rfl (lv_at hl 0 rfl) ?_
          refine lv_iconst (v := 1) hx hb d_Mo_endTurn_83 (by decide) ?_
          have hPc := hP.sub (ws' := [(g0, .inr (6, [.int co, .int (nI n), .ref m_sea, .ref m_center, .ref m_home, .ref m_borders, .int mp, .int mt, .ref m_owner, .ref m_units, .ref m_kind, .ref m_toX, .ref m_toY, .ref m_results, .ref m_known, .ref m_reached, .ref m_way, .ref m_aside, .ref m_origin, .ref m_retreats, .ref m_contested, .ref m_moved, .int msh, .ref m_past])), (m_center, .inl (cZ, 12, .inl (fun j => bI (Ce j)))), (m_owner, .inl (cI, 12, .inl (mxI (tkR Ce fw fu) fw n))), (m_units, .inl (cI, 12, .inl fu))]) [0, 1, 3, 4] rfl
          refine vp_callSi (va_Run.run (va_runV (As := [.int (nI i), .int 1]) (rest := [.int (nI (numB (fun b => if false = true then !decide (fu b < 0) && decide (fu b / 2 = (nI i)) else Ce b && decide ((mxI (tkR Ce fw fu) fw n) b = (nI i))) n))]) ⟨hx, hb, hml, hown, hts⟩ (c_Mo_counted l D cI cZ cJ cS aT ceT  g0 m_sea m_center m_home m_borders m_owner m_units m_kind m_toX m_toY m_results m_known m_reached m_way m_aside m_origin m_retreats m_contested m_moved m_past n co mp mt msh Ce (mxI (tkR Ce fw fu) fw n) fu (nI i) true hn) (cwV 2 hts (tb_4 wd_941 wd_943 wp_69 wd_8 (tb_c wd_944)) rfl rfl rfl ⟨rfl, by decide, by decide, by decide +kernel⟩ ⟨Nat.le_of_ble_eq_true rfl, Nat.le_of_ble_eq_true rfl⟩) (tP_V hK hX (hS.2.1 aT hXl hXn) hPc (q := 0) rfl rfl) rfl rfl hl.1 rfl (lv_room (Nat.le_of_ble_eq_true rfl)) d_Mo_endTurn_84 ⟨Nat.le_of_ble_eq_true rfl, Nat.le_of_ble_eq_true rfl⟩)) (fun r8 hr9 => ?_)
          rw [hr9]
          refine lv_isub hx hb d_Mo_endTurn_87 ?_
          refine tr_top (y := mMs Ce (mxI (tkR Ce fw fu) fw n) fu n (nI i)) rfl ?_
          refine lv_istore_n (lv' := [(3, .int (mMs Ce (mxI (tkR Ce fw fu) fw n) fu n (nI i))), (2, .int (nI i)), (1, .int (bI (anyB (bdR Ce fh (mxI (tkR Ce fw fu) fw n) fu n) i))), (0, .ref g0)]) hx hb d_Mo_endTurn_88 rfl hl (by decide) rfl (fun ls hl => ?_)
          refine lv_iload_n hx hb d_Mo_endTurn_89 rfl (lv_at hl 2 rfl) ?_
          rcases bI_c (anyB (bdR Ce fh (mxI (tkR Ce fw fu) fw n) fu n) i) with ⟨hb10, e9⟩ | ⟨hb10, e9⟩
          · refine tr_top e9 ?_
            refine lv_if_ne (tgt := 97) hx hb d_Mo_endTurn_90 (by decide) (fun _ => ?_) (fun h0 => absurd h0 (by decide))
            refine lv_iconst (v := 1) hx hb d_Mo_endTurn_97 (by decide) ?_
            refine lv_goto (tgt := 102) hx hb d_Mo_endTurn_98 (by decide) ?_
            refine lv_istore_n (lv' := [(1, .int 1), (3, .int (mMs Ce (mxI (tkR Ce fw fu) fw n) fu n (nI i))), (2, .int (nI i)), (0, .ref g0)]) hx hb d_Mo_endTurn_102 rfl hl (by decide) rfl (fun ls hl => ?_)
            refine lv_iconst (v := 0) hx hb d_Mo_endTurn_103 (by decide) ?_
            refine lv_istore (lv' := [(4, .int 0), (1, .int 1), (3, .int (mMs Ce (mxI (tkR Ce fw fu) fw n) fu n (nI i))), (2, .int (nI i)), (0, .ref g0)]) hx hb d_Mo_endTurn_104 hl (by decide) rfl (fun ls hl => ?_)
            have nloop : ∀ (k9 i9 : Nat) (ls : Array Slot), i9 + k9 = n → lv_has ls 5 [(4, .int (nI i9)), (1, .int 1), (3, .int (mMs Ce (mxI (tkR Ce fw fu) fw n) fu n (nI i))), (2, .int (nI i)), (0, .ref g0)] → W p l e (headSpec w_Mo_endTurn ({ frames := 1, cells := 0, slots := 0, locals := 24 })).room s m ([.ref g0]).toArray below meth c H locs 0 0 (MQ below (va_Qv (fun _ : Unit => True) (fun _ t => tB D A [(g0, .inr (6, [.int co, .int (nI n), .ref m_sea, .ref m_center, .ref m_home, .ref m_borders, .int 3, .int mt, .ref m_owner, .ref m_units, .ref m_kind, .ref m_toX, .ref m_toY, .ref m_results, .ref m_known, .ref m_reached, .ref m_way, .ref m_aside, .ref m_origin, .ref m_retreats, .ref m_contested, .ref m_moved, .int msh, .ref m_past])), (m_center, .inl (cZ, 12, .inl (fun j => bI (Ce j)))), (m_home, .inl (cI, 12, .inl fh)), (m_owner, .inl (cI, 12, .inl (mxI (tkR Ce fw fu) fw n))), (m_units, .inl (cI, 12, .inl fu)), (m_kind, .inl (cI, 12, .inl (fun j => nI (Kd j)))), (m_toX, .inl (cI, 12, .inl (fun j => nI (X j)))), (m_toY, .inl (cI, 12, .inl (fun j => nI (Y j))))] t) A) ([.ref g0]).toArray s 0 0 A) (F0 m 106 ls []) := by
              intro k9
              induction k9 with
              | zero =>
                intro i9 ls hi9 hl
                have hie9 : i9 = n := by omega
                rw [hie9] at hl
                refine lv_iload hx hb d_Mo_endTurn_106 (lv_at hl 0 rfl) ?_
                refine lv_aload_n hx hb d_Mo_endTurn_108 rfl (lv_at hl 4 rfl) ?_
                refine va_get (D := D) (ci := 6) (v := .int (nI n)) (C := R_Mo) (T := T_Mo) (N := 24) hx hb hts hin_Mo hown hK hP 0 rfl rfl 1 (by decide) (hts _ wd_705) (fun _ h9 => h9) rfl d_Mo_endTurn_109 ?_
                refine lv_icmp_ge (tgt := 145) hx hb d_Mo_endTurn_112 (by decide) (fun _ => ?_) (fun h0 => absurd (Int32.le_refl _) h0)
                refine lv_iinc (lv' := [(2, .int ((nI i) + 1)), (4, .int (nI n)), (1, .int 1), (3, .int (mMs Ce (mxI (tkR Ce fw fu) fw n) fu n (nI i))), (0, .ref g0)]) hx hb d_Mo_endTurn_145 hl (k := 3) rfl rfl (by decide) rfl (fun ls hl => ?_)
                refine lv_goto (tgt := 61) hx hb d_Mo_endTurn_148 (by decide) ?_
                have e13 : (nI i) + 1 = nI (i + 1) := nI_1 i
                have e14 : 1 = bI (anyB (bdR Ce fh (mxI (tkR Ce fw fu) fw n) fu n) (i + 1)) := (bI_t (show (anyB (bdR Ce fh (mxI (tkR Ce fw fu) fw n) fu n) i || bdR Ce fh (mxI (tkR Ce fw fu) fw n) fu n i) = true by simp [bdR, hb10])).symm
                exact ih (i + 1) ls (by omega) (by rw [← e13, ← e14]; exact lv_sub hl [0, 2, 4] rfl)
              | succ k9 ih9 =>
                intro i9 ls hi9 hl
                have hlt9 : i9 < n := by omega
                have hlt912 : i9 < 12 := by omega
                refine lv_iload hx hb d_Mo_endTurn_106 (lv_at hl 0 rfl) ?_
                refine lv_aload_n hx hb d_Mo_endTurn_108 rfl (lv_at hl 4 rfl) ?_
                refine va_get (D := D) (ci := 6) (v := .int (nI n)) (C := R_Mo) (T := T_Mo) (N := 24) hx hb hts hin_Mo hown hK hP 0 rfl rfl 1 (by decide) (hts _ wd_705) (fun _ h9 => h9) rfl d_Mo_endTurn_109 ?_
                refine lv_icmp_ge (tgt := 145) hx hb d_Mo_endTurn_112 (by decide) (fun h0 => absurd h0 (nI_ge hlt9 (by omega))) (fun _ => ?_)
                refine lv_iload_n hx hb d_Mo_endTurn_115 rfl (lv_at hl 1 rfl) ?_
                refine lv_if_ne (tgt := 133) hx hb d_Mo_endTurn_116 (by decide) (fun _ => ?_) (fun h0 => absurd h0 (by decide))
                refine lv_iconst (v := 1) hx hb d_Mo_endTurn_133 (by decide) ?_
                refine lv_goto (tgt := 138) hx hb d_Mo_endTurn_134 (by decide) ?_
                refine lv_istore_n (lv' := [(1, .int 1), (4, .int (nI i9)), (3, .int (mMs Ce (mxI (tkR Ce fw fu) fw n) fu n (nI i))), (2, .int (nI i)), (0, .ref g0)]) hx hb d_Mo_endTurn_138 rfl hl (by decide) rfl (fun ls hl => ?_)
                refine lv_iinc (lv' := [(4, .int ((nI i9) + 1)), (1, .int 1), (3, .int (mMs Ce (mxI (tkR Ce fw fu) fw n) fu n (nI i))), (2, .int (nI i)), (0, .ref g0)]) hx hb d_Mo_endTurn_139 hl (k := 1) rfl rfl (by decide) rfl (fun ls hl => ?_)
                refine lv_goto (tgt := 106) hx hb d_Mo_endTurn_142 (by decide) ?_
                have e17 : (nI i9) + 1 = nI (i9 + 1) := nI_1 i9
                exact ih9 (i9 + 1) ls (by omega) (by rw [← e17]; exact lv_sub hl [0, 1, 2, 3, 4] rfl)
            exact nloop n 0 ls (Nat.zero_add _) hl
          · refine tr_top e9 ?_
            refine lv_if_ne (tgt := 97) hx hb d_Mo_endTurn_90 (by decide) (fun h0 => absurd (by decide) h0) (fun _ => ?_)
            refine lv_iload_n hx hb d_Mo_endTurn_93 rfl (lv_at hl 0 rfl) ?_
            refine lv_if_ge (tgt := 101) hx hb d_Mo_endTurn_94 (by decide) (fun hc19 => ?_) (fun hc19 => ?_)
            · -- 94 taken
              have hc19 : ¬ (mMs Ce (mxI (tkR Ce fw fu) fw n) fu n (nI i)) < 0 := Int32.not_lt.mpr hc19
              refine lv_iconst (v := 0) hx hb d_Mo_endTurn_101 (by decide) ?_
              refine lv_istore_n (lv' := [(1, .int 0), (3, .int (mMs Ce (mxI (tkR Ce fw fu) fw n) fu n (nI i))), (2, .int (nI i)), (0, .ref g0)]) hx hb d_Mo_endTurn_102 rfl hl (by decide) rfl (fun ls hl => ?_)
              refine lv_iconst (v := 0) hx hb d_Mo_endTurn_103 (by decide) ?_
              refine lv_istore (lv' := [(4, .int 0), (1, .int 0), (3, .int (mMs Ce (mxI (tkR Ce fw fu) fw n) fu n (nI i))), (2, .int (nI i)), (0, .ref g0)]) hx hb d_Mo_endTurn_104 hl (by decide) rfl (fun ls hl => ?_)
              have nloop : ∀ (k9 i9 : Nat) (ls : Array Slot), i9 + k9 = n → lv_has ls 5 [(4, .int (nI i9)), (1, .int (bI (anyB (mbR fh (mxI (tkR Ce fw fu) fw n) fu (nI i)) i9 && !decide (mMs Ce (mxI (tkR Ce fw fu) fw n) fu n (nI i) ≤ 0)))), (3, .int (mMs Ce (mxI (tkR Ce fw fu) fw n) fu n (nI i))), (2, .int (nI i)), (0, .ref g0)] → W p l e (headSpec w_Mo_endTurn ({ frames := 1, cells := 0, slots := 0, locals := 24 })).room s m ([.ref g0]).toArray below meth c H locs 0 0 (MQ below (va_Qv (fun _ : Unit => True) (fun _ t => tB D A [(g0, .inr (6, [.int co, .int (nI n), .ref m_sea, .ref m_center, .ref m_home, .ref m_borders, .int 3, .int mt, .ref m_owner, .ref m_units, .ref m_kind, .ref m_toX, .ref m_toY, .ref m_results, .ref m_known, .ref m_reached, .ref m_way, .ref m_aside, .ref m_origin, .ref m_retreats, .ref m_contested, .ref m_moved, .int msh, .ref m_past])), (m_center, .inl (cZ, 12, .inl (fun j => bI (Ce j)))), (m_home, .inl (cI, 12, .inl fh)), (m_owner, .inl (cI, 12, .inl (mxI (tkR Ce fw fu) fw n))), (m_units, .inl (cI, 12, .inl fu)), (m_kind, .inl (cI, 12, .inl (fun j => nI (Kd j)))), (m_toX, .inl (cI, 12, .inl (fun j => nI (X j)))), (m_toY, .inl (cI, 12, .inl (fun j => nI (Y j))))] t) A) ([.ref g0]).toArray s 0 0 A) (F0 m 106 ls []) := by
                intro k9
                induction k9 with
                | zero =>
                  intro i9 ls hi9 hl
                  have hie9 : i9 = n := by omega
                  rw [hie9] at hl
                  refine lv_iload hx hb d_Mo_endTurn_106 (lv_at hl 0 rfl) ?_
                  refine lv_aload_n hx hb d_Mo_endTurn_108 rfl (lv_at hl 4 rfl) ?_
                  refine va_get (D := D) (ci := 6) (v := .int (nI n)) (C := R_Mo) (T := T_Mo) (N := 24) hx hb hts hin_Mo hown hK hP 0 rfl rfl 1 (by decide) (hts _ wd_705) (fun _ h9 => h9) rfl d_Mo_endTurn_109 ?_
                  refine lv_icmp_ge (tgt := 145) hx hb d_Mo_endTurn_112 (by decide) (fun _ => ?_) (fun h0 => absurd (Int32.le_refl _) h0)
                  refine lv_iinc (lv' := [(2, .int ((nI i) + 1)), (4, .int (nI n)), (1, .int (bI (anyB (mbR fh (mxI (tkR Ce fw fu) fw n) fu (nI i)) n && !decide (mMs Ce (mxI (tkR Ce fw fu) fw n) fu n (nI i) ≤ 0)))), (3, .int (mMs Ce (mxI (tkR Ce fw fu) fw n) fu n (nI i))), (0, .ref g0)]) hx hb d_Mo_endTurn_145 hl (k := 3) rfl rfl (by decide) rfl (fun ls hl => ?_)
                  refine lv_goto (tgt := 61) hx hb d_Mo_endTurn_148 (by decide) ?_
                  have e21 : (nI i) + 1 = nI (i + 1) := nI_1 i
                  have e22 : bI (anyB (mbR fh (mxI (tkR Ce fw fu) fw n) fu (nI i)) n && !decide (mMs Ce (mxI (tkR Ce fw fu) fw n) fu n (nI i) ≤ 0)) = bI (anyB (bdR Ce fh (mxI (tkR Ce fw fu) fw n) fu n) (i + 1)) := bI_eq (show (anyB (mbR fh (mxI (tkR Ce fw fu) fw n) fu (nI i)) n && !decide (mMs Ce (mxI (tkR Ce fw fu) fw n) fu n (nI i) ≤ 0)) = (anyB (bdR Ce fh (mxI (tkR Ce fw fu) fw n) fu n) i || bdR Ce fh (mxI (tkR Ce fw fu) fw n) fu n i) by simp [bdR, hb10, hc19] <;> rfl)
                  exact ih (i + 1) ls (by omega) (by rw [← e21, ← e22]; exact lv_sub hl [0, 2, 4] rfl)
                | succ k9 ih9 =>
                  intro i9 ls hi9 hl
                  have hlt9 : i9 < n := by omega
                  have hlt912 : i9 < 12 := by omega
                  refine lv_iload hx hb d_Mo_endTurn_106 (lv_at hl 0 rfl) ?_
                  refine lv_aload_n hx hb d_Mo_endTurn_108 rfl (lv_at hl 4 rfl) ?_
                  refine va_get (D := D) (ci := 6) (v := .int (nI n)) (C := R_Mo) (T := T_Mo) (N := 24) hx hb hts hin_Mo hown hK hP 0 rfl rfl 1 (by decide) (hts _ wd_705) (fun _ h9 => h9) rfl d_Mo_endTurn_109 ?_
                  refine lv_icmp_ge (tgt := 145) hx hb d_Mo_endTurn_112 (by decide) (fun h0 => absurd h0 (nI_ge hlt9 (by omega))) (fun _ => ?_)
                  refine lv_iload_n hx hb d_Mo_endTurn_115 rfl (lv_at hl 1 rfl) ?_
                  rcases bI_c (anyB (mbR fh (mxI (tkR Ce fw fu) fw n) fu (nI i)) i9 && !decide (mMs Ce (mxI (tkR Ce fw fu) fw n) fu n (nI i) ≤ 0)) with ⟨hb25, e9⟩ | ⟨hb25, e9⟩
                  · refine tr_top e9 ?_
                    refine lv_if_ne (tgt := 133) hx hb d_Mo_endTurn_116 (by decide) (fun _ => ?_) (fun h0 => absurd h0 (by decide))
                    refine lv_iconst (v := 1) hx hb d_Mo_endTurn_133 (by decide) ?_
                    refine lv_goto (tgt := 138) hx hb d_Mo_endTurn_134 (by decide) ?_
                    refine lv_istore_n (lv' := [(1, .int 1), (4, .int (nI i9)), (3, .int (mMs Ce (mxI (tkR Ce fw fu) fw n) fu n (nI i))), (2, .int (nI i)), (0, .ref g0)]) hx hb d_Mo_endTurn_138 rfl hl (by decide) rfl (fun ls hl => ?_)
                    refine lv_iinc (lv' := [(4, .int ((nI i9) + 1)), (1, .int 1), (3, .int (mMs Ce (mxI (tkR Ce fw fu) fw n) fu n (nI i))), (2, .int (nI i)), (0, .ref g0)]) hx hb d_Mo_endTurn_139 hl (k := 1) rfl rfl (by decide) rfl (fun ls hl => ?_)
                    refine lv_goto (tgt := 106) hx hb d_Mo_endTurn_142 (by decide) ?_
                    have e27 : (nI i9) + 1 = nI (i9 + 1) := nI_1 i9
                    have e28 : 1 = bI (anyB (mbR fh (mxI (tkR Ce fw fu) fw n) fu (nI i)) (i9 + 1) && !decide (mMs Ce (mxI (tkR Ce fw fu) fw n) fu n (nI i) ≤ 0)) := (bI_t (show ((anyB (mbR fh (mxI (tkR Ce fw fu) fw n) fu (nI i)) i9 || mbR fh (mxI (tkR Ce fw fu) fw n) fu (nI i) i9) && !decide (mMs Ce (mxI (tkR Ce fw fu) fw n) fu n (nI i) ≤ 0)) = true by (first | (simp [mbR, hb10, hc19, hb25]; done) | (have h9 := hb25; revert h9; cases anyB (mbR fh (mxI (tkR Ce fw fu) fw n) fu (nI i)) i9 <;> cases decide (mMs Ce (mxI (tkR Ce fw fu) fw n) fu n (nI i) ≤ 0) <;> simp [mbR, hb10, hc19])))).symm
                    exact ih9 (i9 + 1) ls (by omega) (by rw [← e27, ← e28]; exact lv_sub hl [0, 1, 2, 3, 4] rfl)
                  · refine tr_top e9 ?_
                    refine lv_if_ne (tgt := 133) hx hb d_Mo_endTurn_116 (by decide) (fun h0 => absurd (by decide) h0) (fun _ => ?_)
                    refine lv_iload_n hx hb d_Mo_endTurn_119 rfl (lv_at hl 2 rfl) ?_
                    refine lv_if_le (tgt := 137) hx hb d_Mo_endTurn_120 (by decide) (fun hc30 => ?_) (fun hc30 => ?_)
                    · -- 120 taken
                      refine lv_iconst (v := 0) hx hb d_Mo_endTurn_137 (by decide) ?_
                      refine lv_istore_n (lv' := [(1, .int 0), (4, .int (nI i9)), (3, .int (mMs Ce (mxI (tkR Ce fw fu) fw n) fu n (nI i))), (2, .int (nI i)), (0, .ref g0)]) hx hb d_Mo_endTurn_138 rfl hl (by decide) rfl (fun ls hl => ?_)
                      refine lv_iinc (lv' := [(4, .int ((nI i9) + 1)), (1, .int 0), (3, .int (mMs Ce (mxI (tkR Ce fw fu) fw n) fu n (nI i))), (2, .int (nI i)), (0, .ref g0)]) hx hb d_Mo_endTurn_139 hl (k := 1) rfl rfl (by decide) rfl (fun ls hl => ?_)
                      refine lv_goto (tgt := 106) hx hb d_Mo_endTurn_142 (by decide) ?_
                      have e31 : (nI i9) + 1 = nI (i9 + 1) := nI_1 i9
                      have e32 : 0 = bI (anyB (mbR fh (mxI (tkR Ce fw fu) fw n) fu (nI i)) (i9 + 1) && !decide (mMs Ce (mxI (tkR Ce fw fu) fw n) fu n (nI i) ≤ 0)) := (bI_f (show ((anyB (mbR fh (mxI (tkR Ce fw fu) fw n) fu (nI i)) i9 || mbR fh (mxI (tkR Ce fw fu) fw n) fu (nI i) i9) && !decide (mMs Ce (mxI (tkR Ce fw fu) fw n) fu n (nI i) ≤ 0)) = false by (first | (simp [mbR, hb10, hc19, hb25, hc30]; done) | (have h9 := hb25; revert h9; cases anyB (mbR fh (mxI (tkR Ce fw fu) fw n) fu (nI i)) i9 <;> cases decide (mMs Ce (mxI (tkR Ce fw fu) fw n) fu n (nI i) ≤ 0) <;> simp [mbR, hb10, hc19, hc30])))).symm
                      exact ih9 (i9 + 1) ls (by omega) (by rw [← e31, ← e32]; exact lv_sub hl [0, 1, 2, 3, 4] rfl)
                    · -- 120 not taken
                      refine lv_aload_n hx hb d_Mo_endTurn_123 rfl (lv_at hl 4 rfl) ?_
                      refine lv_iload_n hx hb d_Mo_endTurn_124 rfl (lv_at hl 3 rfl) ?_
                      refine lv_iload hx hb d_Mo_endTurn_125 (lv_at hl 0 rfl) ?_
                      have hPc := hP.sub (ws' := [(g0, .inr (6, [.int co, .int (nI n), .ref m_sea, .ref m_center, .ref m_home, .ref m_borders, .int mp, .int mt, .ref m_owner, .ref m_units, .ref m_kind, .ref m_toX, .ref m_toY, .ref m_results, .ref m_known, .ref m_reached, .ref m_way, .ref m_aside, .ref m_origin, .ref m_retreats, .ref m_contested, .ref m_moved, .int msh, .ref m_past])), (m_home, .inl (cI, 12, .inl fh)), (m_owner, .inl (cI, 12, .inl (mxI (tkR Ce fw fu) fw n))), (m_units, .inl (cI, 12, .inl fu))]) [0, 2, 3, 4] rfl
                      refine vp_callSi (va_Run.run (va_runV (As := [.int (nI i), .int (nI i9)]) (rest := []) ⟨hx, hb, hml, hown, hts⟩ (c_Mo_mayBuild l D cI cZ cJ cS aT ceT  g0 m_sea m_center m_home m_borders m_owner m_units m_kind m_toX m_toY m_results m_known m_reached m_way m_aside m_origin m_retreats m_contested m_moved m_past n co mp mt msh fh (mxI (tkR Ce fw fu) fw n) fu i9 (nI i) hlt912) (cwV 2 hts (tb_4 wd_945 wd_947 wp_70 wd_8 (tb_c wd_948)) rfl rfl rfl ⟨rfl, by decide, by decide, by decide +kernel⟩ ⟨Nat.le_of_ble_eq_true rfl, Nat.le_of_ble_eq_true rfl⟩) (tP_V hK hX (hS.2.1 aT hXl hXn) hPc (q := 0) rfl rfl) rfl rfl hl.1 rfl (lv_room (Nat.le_of_ble_eq_true rfl)) d_Mo_endTurn_127 ⟨Nat.le_of_ble_eq_true rfl, Nat.le_of_ble_eq_true rfl⟩)) (fun r33 hr9 => ?_)
                      rw [hr9]
                      rcases bI_c (decide (fh i9 = (nI i)) && decide ((mxI (tkR Ce fw fu) fw n) i9 = (nI i)) && decide (fu i9 < 0)) with ⟨hb35, e9⟩ | ⟨hb35, e9⟩
                      · refine tr_top e9 ?_
                        refine lv_if_eq (tgt := 137) hx hb d_Mo_endTurn_130 (by decide) (fun h0 => absurd h0 (by decide)) (fun _ => ?_)
                        refine lv_iconst (v := 1) hx hb d_Mo_endTurn_133 (by decide) ?_
                        refine lv_goto (tgt := 138) hx hb d_Mo_endTurn_134 (by decide) ?_
                        refine lv_istore_n (lv' := [(1, .int 1), (4, .int (nI i9)), (3, .int (mMs Ce (mxI (tkR Ce fw fu) fw n) fu n (nI i))), (2, .int (nI i)), (0, .ref g0)]) hx hb d_Mo_endTurn_138 rfl hl (by decide) rfl (fun ls hl => ?_)
                        refine lv_iinc (lv' := [(4, .int ((nI i9) + 1)), (1, .int 1), (3, .int (mMs Ce (mxI (tkR Ce fw fu) fw n) fu n (nI i))), (2, .int (nI i)), (0, .ref g0)]) hx hb d_Mo_endTurn_139 hl (k := 1) rfl rfl (by decide) rfl (fun ls hl => ?_)
                        refine lv_goto (tgt := 106) hx hb d_Mo_endTurn_142 (by decide) ?_
                        have e37 : (nI i9) + 1 = nI (i9 + 1) := nI_1 i9
                        have e38 : 1 = bI (anyB (mbR fh (mxI (tkR Ce fw fu) fw n) fu (nI i)) (i9 + 1) && !decide (mMs Ce (mxI (tkR Ce fw fu) fw n) fu n (nI i) ≤ 0)) := (bI_t (show ((anyB (mbR fh (mxI (tkR Ce fw fu) fw n) fu (nI i)) i9 || mbR fh (mxI (tkR Ce fw fu) fw n) fu (nI i) i9) && !decide (mMs Ce (mxI (tkR Ce fw fu) fw n) fu n (nI i) ≤ 0)) = true by (first | (simp [mbR, hb10, hc19, hb25, hc30, hb35]; done) | (have h9 := hb25; revert h9; cases anyB (mbR fh (mxI (tkR Ce fw fu) fw n) fu (nI i)) i9 <;> cases decide (mMs Ce (mxI (tkR Ce fw fu) fw n) fu n (nI i) ≤ 0) <;> simp [mbR, hb10, hc19, hc30, hb35])))).symm
                        exact ih9 (i9 + 1) ls (by omega) (by rw [← e37, ← e38]; exact lv_sub hl [0, 1, 2, 3, 4] rfl)
                      · refine tr_top e9 ?_
                        refine lv_if_eq (tgt := 137) hx hb d_Mo_endTurn_130 (by decide) (fun _ => ?_) (fun h0 => absurd (by decide) h0)
                        refine lv_iconst (v := 0) hx hb d_Mo_endTurn_137 (by decide) ?_
                        refine lv_istore_n (lv' := [(1, .int 0), (4, .int (nI i9)), (3, .int (mMs Ce (mxI (tkR Ce fw fu) fw n) fu n (nI i))), (2, .int (nI i)), (0, .ref g0)]) hx hb d_Mo_endTurn_138 rfl hl (by decide) rfl (fun ls hl => ?_)
                        refine lv_iinc (lv' := [(4, .int ((nI i9) + 1)), (1, .int 0), (3, .int (mMs Ce (mxI (tkR Ce fw fu) fw n) fu n (nI i))), (2, .int (nI i)), (0, .ref g0)]) hx hb d_Mo_endTurn_139 hl (k := 1) rfl rfl (by decide) rfl (fun ls hl => ?_)
                        refine lv_goto (tgt := 106) hx hb d_Mo_endTurn_142 (by decide) ?_
                        have e40 : (nI i9) + 1 = nI (i9 + 1) := nI_1 i9
                        have e41 : 0 = bI (anyB (mbR fh (mxI (tkR Ce fw fu) fw n) fu (nI i)) (i9 + 1) && !decide (mMs Ce (mxI (tkR Ce fw fu) fw n) fu n (nI i) ≤ 0)) := (bI_f (show ((anyB (mbR fh (mxI (tkR Ce fw fu) fw n) fu (nI i)) i9 || mbR fh (mxI (tkR Ce fw fu) fw n) fu (nI i) i9) && !decide (mMs Ce (mxI (tkR Ce fw fu) fw n) fu n (nI i) ≤ 0)) = false by (first | (simp [mbR, hb10, hc19, hb25, hc30, hb35]; done) | (have h9 := hb25; revert h9; cases anyB (mbR fh (mxI (tkR Ce fw fu) fw n) fu (nI i)) i9 <;> cases decide (mMs Ce (mxI (tkR Ce fw fu) fw n) fu n (nI i) ≤ 0) <;> simp [mbR, hb10, hc19, hc30, hb35])))).symm
                        exact ih9 (i9 + 1) ls (by omega) (by rw [← e40, ← e41]; exact lv_sub hl [0, 1, 2, 3, 4] rfl)
              exact nloop n 0 ls (Nat.zero_add _) hl
            · -- 94 not taken
              have hc19 : (mMs Ce (mxI (tkR Ce fw fu) fw n) fu n (nI i)) < 0 := Int32.not_le.mp hc19
              refine lv_iconst (v := 1) hx hb d_Mo_endTurn_97 (by decide) ?_
              refine lv_goto (tgt := 102) hx hb d_Mo_endTurn_98 (by decide) ?_
              refine lv_istore_n (lv' := [(1, .int 1), (3, .int (mMs Ce (mxI (tkR Ce fw fu) fw n) fu n (nI i))), (2, .int (nI i)), (0, .ref g0)]) hx hb d_Mo_endTurn_102 rfl hl (by decide) rfl (fun ls hl => ?_)
              refine lv_iconst (v := 0) hx hb d_Mo_endTurn_103 (by decide) ?_
              refine lv_istore (lv' := [(4, .int 0), (1, .int 1), (3, .int (mMs Ce (mxI (tkR Ce fw fu) fw n) fu n (nI i))), (2, .int (nI i)), (0, .ref g0)]) hx hb d_Mo_endTurn_104 hl (by decide) rfl (fun ls hl => ?_)
              have nloop : ∀ (k9 i9 : Nat) (ls : Array Slot), i9 + k9 = n → lv_has ls 5 [(4, .int (nI i9)), (1, .int 1), (3, .int (mMs Ce (mxI (tkR Ce fw fu) fw n) fu n (nI i))), (2, .int (nI i)), (0, .ref g0)] → W p l e (headSpec w_Mo_endTurn ({ frames := 1, cells := 0, slots := 0, locals := 24 })).room s m ([.ref g0]).toArray below meth c H locs 0 0 (MQ below (va_Qv (fun _ : Unit => True) (fun _ t => tB D A [(g0, .inr (6, [.int co, .int (nI n), .ref m_sea, .ref m_center, .ref m_home, .ref m_borders, .int 3, .int mt, .ref m_owner, .ref m_units, .ref m_kind, .ref m_toX, .ref m_toY, .ref m_results, .ref m_known, .ref m_reached, .ref m_way, .ref m_aside, .ref m_origin, .ref m_retreats, .ref m_contested, .ref m_moved, .int msh, .ref m_past])), (m_center, .inl (cZ, 12, .inl (fun j => bI (Ce j)))), (m_home, .inl (cI, 12, .inl fh)), (m_owner, .inl (cI, 12, .inl (mxI (tkR Ce fw fu) fw n))), (m_units, .inl (cI, 12, .inl fu)), (m_kind, .inl (cI, 12, .inl (fun j => nI (Kd j)))), (m_toX, .inl (cI, 12, .inl (fun j => nI (X j)))), (m_toY, .inl (cI, 12, .inl (fun j => nI (Y j))))] t) A) ([.ref g0]).toArray s 0 0 A) (F0 m 106 ls []) := by
                intro k9
                induction k9 with
                | zero =>
                  intro i9 ls hi9 hl
                  have hie9 : i9 = n := by omega
                  rw [hie9] at hl
                  refine lv_iload hx hb d_Mo_endTurn_106 (lv_at hl 0 rfl) ?_
                  refine lv_aload_n hx hb d_Mo_endTurn_108 rfl (lv_at hl 4 rfl) ?_
                  refine va_get (D := D) (ci := 6) (v := .int (nI n)) (C := R_Mo) (T := T_Mo) (N := 24) hx hb hts hin_Mo hown hK hP 0 rfl rfl 1 (by decide) (hts _ wd_705) (fun _ h9 => h9) rfl d_Mo_endTurn_109 ?_
                  refine lv_icmp_ge (tgt := 145) hx hb d_Mo_endTurn_112 (by decide) (fun _ => ?_) (fun h0 => absurd (Int32.le_refl _) h0)
                  refine lv_iinc (lv' := [(2, .int ((nI i) + 1)), (4, .int (nI n)), (1, .int 1), (3, .int (mMs Ce (mxI (tkR Ce fw fu) fw n) fu n (nI i))), (0, .ref g0)]) hx hb d_Mo_endTurn_145 hl (k := 3) rfl rfl (by decide) rfl (fun ls hl => ?_)
                  refine lv_goto (tgt := 61) hx hb d_Mo_endTurn_148 (by decide) ?_
                  have e43 : (nI i) + 1 = nI (i + 1) := nI_1 i
                  have e44 : 1 = bI (anyB (bdR Ce fh (mxI (tkR Ce fw fu) fw n) fu n) (i + 1)) := (bI_t (show (anyB (bdR Ce fh (mxI (tkR Ce fw fu) fw n) fu n) i || bdR Ce fh (mxI (tkR Ce fw fu) fw n) fu n i) = true by simp [bdR, hb10, hc19])).symm
                  exact ih (i + 1) ls (by omega) (by rw [← e43, ← e44]; exact lv_sub hl [0, 2, 4] rfl)
                | succ k9 ih9 =>
                  intro i9 ls hi9 hl
                  have hlt9 : i9 < n := by omega
                  have hlt912 : i9 < 12 := by omega
                  refine lv_iload hx hb d_Mo_endTurn_106 (lv_at hl 0 rfl) ?_
                  refine lv_aload_n hx hb d_Mo_endTurn_108 rfl (lv_at hl 4 rfl) ?_
                  refine va_get (D := D) (ci := 6) (v := .int (nI n)) (C := R_Mo) (T := T_Mo) (N := 24) hx hb hts hin_Mo hown hK hP 0 rfl rfl 1 (by decide) (hts _ wd_705) (fun _ h9 => h9) rfl d_Mo_endTurn_109 ?_
                  refine lv_icmp_ge (tgt := 145) hx hb d_Mo_endTurn_112 (by decide) (fun h0 => absurd h0 (nI_ge hlt9 (by omega))) (fun _ => ?_)
                  refine lv_iload_n hx hb d_Mo_endTurn_115 rfl (lv_at hl 1 rfl) ?_
                  refine lv_if_ne (tgt := 133) hx hb d_Mo_endTurn_116 (by decide) (fun _ => ?_) (fun h0 => absurd h0 (by decide))
                  refine lv_iconst (v := 1) hx hb d_Mo_endTurn_133 (by decide) ?_
                  refine lv_goto (tgt := 138) hx hb d_Mo_endTurn_134 (by decide) ?_
                  refine lv_istore_n (lv' := [(1, .int 1), (4, .int (nI i9)), (3, .int (mMs Ce (mxI (tkR Ce fw fu) fw n) fu n (nI i))), (2, .int (nI i)), (0, .ref g0)]) hx hb d_Mo_endTurn_138 rfl hl (by decide) rfl (fun ls hl => ?_)
                  refine lv_iinc (lv' := [(4, .int ((nI i9) + 1)), (1, .int 1), (3, .int (mMs Ce (mxI (tkR Ce fw fu) fw n) fu n (nI i))), (2, .int (nI i)), (0, .ref g0)]) hx hb d_Mo_endTurn_139 hl (k := 1) rfl rfl (by decide) rfl (fun ls hl => ?_)
                  refine lv_goto (tgt := 106) hx hb d_Mo_endTurn_142 (by decide) ?_
                  have e47 : (nI i9) + 1 = nI (i9 + 1) := nI_1 i9
                  exact ih9 (i9 + 1) ls (by omega) (by rw [← e47]; exact lv_sub hl [0, 1, 2, 3, 4] rfl)
              exact nloop n 0 ls (Nat.zero_add _) hl
      exact loop 4 0 ls (Nat.zero_add _) hl
    | succ k ih =>
      intro i ls H locs hi hl hP hD hS
      have hlt : i < n := by omega
      have hlt12 : i < 12 := by omega
      refine lv_iload_n hx hb d_Mo_endTurn_2 rfl (lv_at hl 0 rfl) ?_
      refine lv_aload_n hx hb d_Mo_endTurn_3 rfl (lv_at hl 1 rfl) ?_
      refine va_get (D := D) (ci := 6) (v := .int (nI n)) (C := R_Mo) (T := T_Mo) (N := 24) hx hb hts hin_Mo hown hK hP 0 rfl rfl 1 (by decide) (hts _ wd_705) (fun _ h9 => h9) rfl d_Mo_endTurn_4 ?_
      refine lv_icmp_ge (tgt := 57) hx hb d_Mo_endTurn_7 (by decide) (fun h0 => absurd h0 (nI_ge hlt (by omega))) (fun _ => ?_)
      refine lv_aload_n hx hb d_Mo_endTurn_10 rfl (lv_at hl 1 rfl) ?_
      refine va_get (D := D) (ci := 6) (v := .int mt) (C := R_Mo) (T := T_Mo) (N := 24) hx hb hts hin_Mo hown hK hP 0 rfl rfl 7 (by decide) (hts _ wd_711) (fun _ h9 => h9) rfl d_Mo_endTurn_11 ?_
      refine lv_iconst (v := 2) hx hb d_Mo_endTurn_14 (by decide) ?_
      refine lv_irem hx hb d_Mo_endTurn_15 (by decide) ?_
      refine lv_if_ne (tgt := 51) hx hb d_Mo_endTurn_16 (by decide) (fun h0 => absurd hev h0) (fun _ => ?_)
      refine lv_aload_n hx hb d_Mo_endTurn_19 rfl (lv_at hl 1 rfl) ?_
      refine va_get (D := D) (ci := 6) (v := .ref m_center) (C := R_Mo) (T := T_Mo) (N := 24) hx hb hts hin_Mo hown hK hP 0 rfl rfl 3 (by decide) (hts _ wd_707) (fun _ h9 => h9) rfl d_Mo_endTurn_20 ?_
      refine lv_iload_n hx hb d_Mo_endTurn_23 rfl (lv_at hl 0 rfl) ?_
      refine tr_zald (v := bI (Ce i)) hx hb hK hP 1 1 rfl rfl i hlt12 (by decide) rfl d_Mo_endTurn_24 ?_
      rcases bI_c (Ce i) with ⟨hb51, e9⟩ | ⟨hb51, e9⟩
      · refine tr_top e9 ?_
        refine lv_if_eq (tgt := 51) hx hb d_Mo_endTurn_25 (by decide) (fun h0 => absurd h0 (by decide)) (fun _ => ?_)
        refine lv_aload_n hx hb d_Mo_endTurn_28 rfl (lv_at hl 1 rfl) ?_
        refine va_get (D := D) (ci := 6) (v := .ref m_units) (C := R_Mo) (T := T_Mo) (N := 24) hx hb hts hin_Mo hown hK hP 0 rfl rfl 9 (by decide) (hts _ wd_713) (fun _ h9 => h9) rfl d_Mo_endTurn_29 ?_
        refine lv_iload_n hx hb d_Mo_endTurn_32 rfl (lv_at hl 0 rfl) ?_
        refine tr_iald (v := fu i) hx hb hK hP 4 0 rfl rfl i hlt12 (by decide) rfl d_Mo_endTurn_33 ?_
        refine lv_if_lt (tgt := 51) hx hb d_Mo_endTurn_34 (by decide) (fun hc53 => ?_) (fun hc53 => ?_)
        · -- 34 taken
          refine lv_iinc (lv' := [(1, .int ((nI i) + 1)), (0, .ref g0)]) hx hb d_Mo_endTurn_51 hl (k := 0) rfl rfl (by decide) rfl (fun ls hl => ?_)
          refine lv_goto (tgt := 2) hx hb d_Mo_endTurn_54 (by decide) ?_
          have e54 : (nI i) + 1 = nI (i + 1) := nI_1 i
          have eo55 : (mxI (tkR Ce fw fu) fw i) = (mxI (tkR Ce fw fu) fw (i + 1)) := mxI_k (by simp [tkR, hb51, hc53])
          exact ih (i + 1) ls H locs (by omega) (by rw [← e54]; exact lv_sub hl [0, 1] rfl) (by rw [← eo55]; exact hP) (by rw [← eo55]; exact hD) hS
        · -- 34 not taken
          refine lv_aload_n hx hb d_Mo_endTurn_37 rfl (lv_at hl 1 rfl) ?_
          refine va_get (D := D) (ci := 6) (v := .ref m_owner) (C := R_Mo) (T := T_Mo) (N := 24) hx hb hts hin_Mo hown hK hP 0 rfl rfl 8 (by decide) (hts _ wd_712) (fun _ h9 => h9) rfl d_Mo_endTurn_38 ?_
          refine lv_iload_n hx hb d_Mo_endTurn_41 rfl (lv_at hl 0 rfl) ?_
          refine lv_aload_n hx hb d_Mo_endTurn_42 rfl (lv_at hl 1 rfl) ?_
          refine va_get (D := D) (ci := 6) (v := .ref m_units) (C := R_Mo) (T := T_Mo) (N := 24) hx hb hts hin_Mo hown hK hP 0 rfl rfl 9 (by decide) (hts _ wd_713) (fun _ h9 => h9) rfl d_Mo_endTurn_43 ?_
          refine lv_iload_n hx hb d_Mo_endTurn_46 rfl (lv_at hl 0 rfl) ?_
          refine tr_iald (v := fu i) hx hb hK hP 4 0 rfl rfl i hlt12 (by decide) rfl d_Mo_endTurn_47 ?_
          refine lv_iconst (v := 2) hx hb d_Mo_endTurn_48 (by decide) ?_
          refine lv_idiv hx hb d_Mo_endTurn_49 (by decide) ?_
          refine tr_iast (g := upd (mxI (tkR Ce fw fu) fw i) i ((fu i) / 2)) hx hb hK hP hD hS 3 0 rfl rfl i hlt12 (by decide) rfl d_Mo_endTurn_50 (fun H locs hP hD hS => ?_)
          have hP : va_P D vwCl [(g0, .inr (6, [.int co, .int (nI n), .ref m_sea, .ref m_center, .ref m_home, .ref m_borders, .int mp, .int mt, .ref m_owner, .ref m_units, .ref m_kind, .ref m_toX, .ref m_toY, .ref m_results, .ref m_known, .ref m_reached, .ref m_way, .ref m_aside, .ref m_origin, .ref m_retreats, .ref m_contested, .ref m_moved, .int msh, .ref m_past])), (m_center, .inl (cZ, 12, .inl (fun j => bI (Ce j)))), (m_home, .inl (cI, 12, .inl fh)), (m_owner, .inl (cI, 12, .inl (upd (mxI (tkR Ce fw fu) fw i) i ((fu i) / 2)))), (m_units, .inl (cI, 12, .inl fu)), (m_kind, .inl (cI, 12, .inl (fun j => nI (Kd j)))), (m_toX, .inl (cI, 12, .inl (fun j => nI (X j)))), (m_toY, .inl (cI, 12, .inl (fun j => nI (Y j))))] H := hP
          have hD : va_D A [(g0, .inr (6, [.int co, .int (nI n), .ref m_sea, .ref m_center, .ref m_home, .ref m_borders, .int mp, .int mt, .ref m_owner, .ref m_units, .ref m_kind, .ref m_toX, .ref m_toY, .ref m_results, .ref m_known, .ref m_reached, .ref m_way, .ref m_aside, .ref m_origin, .ref m_retreats, .ref m_contested, .ref m_moved, .int msh, .ref m_past])), (m_center, .inl (cZ, 12, .inl (fun j => bI (Ce j)))), (m_home, .inl (cI, 12, .inl fh)), (m_owner, .inl (cI, 12, .inl (upd (mxI (tkR Ce fw fu) fw i) i ((fu i) / 2)))), (m_units, .inl (cI, 12, .inl fu)), (m_kind, .inl (cI, 12, .inl (fun j => nI (Kd j)))), (m_toX, .inl (cI, 12, .inl (fun j => nI (X j)))), (m_toY, .inl (cI, 12, .inl (fun j => nI (Y j))))] := hD
          refine lv_iinc (lv' := [(1, .int ((nI i) + 1)), (0, .ref g0)]) hx hb d_Mo_endTurn_51 hl (k := 0) rfl rfl (by decide) rfl (fun ls hl => ?_)
          refine lv_goto (tgt := 2) hx hb d_Mo_endTurn_54 (by decide) ?_
          have e56 : (nI i) + 1 = nI (i + 1) := nI_1 i
          have eo57 : (upd (mxI (tkR Ce fw fu) fw i) i ((fu i) / 2)) = (mxI (tkR Ce fw fu) fw (i + 1)) := mxI_s (by simp [tkR, mxI_at, hb51, hc53])
          exact ih (i + 1) ls H locs (by omega) (by rw [← e56]; exact lv_sub hl [0, 1] rfl) (by rw [← eo57]; exact hP) (by rw [← eo57]; exact hD) hS
      · refine tr_top e9 ?_
        refine lv_if_eq (tgt := 51) hx hb d_Mo_endTurn_25 (by decide) (fun _ => ?_) (fun h0 => absurd (by decide) h0)
        refine lv_iinc (lv' := [(1, .int ((nI i) + 1)), (0, .ref g0)]) hx hb d_Mo_endTurn_51 hl (k := 0) rfl rfl (by decide) rfl (fun ls hl => ?_)
        refine lv_goto (tgt := 2) hx hb d_Mo_endTurn_54 (by decide) ?_
        have e59 : (nI i) + 1 = nI (i + 1) := nI_1 i
        have eo60 : (mxI (tkR Ce fw fu) fw i) = (mxI (tkR Ce fw fu) fw (i + 1)) := mxI_k (by simp [tkR, hb51])
        exact ih (i + 1) ls H locs (by omega) (by rw [← e59]; exact lv_sub hl [0, 1] rfl) (by rw [← eo60]; exact hP) (by rw [← eo60]; exact hD) hS
  have ei61 : (mxI (tkR Ce fw fu) fw 0) = (fw) := mxI_0 _ _
  exact loop n 0 ls _ _ (Nat.zero_add _) hl (by rw [ei61]; exact hP) (by rw [ei61]; exact hD) hS


set_option maxHeartbeats 4000000 in
set_option maxRecDepth 100000 in
theorem c_Mo_endTurnN (l : Launch) (D : va_G) (cI cZ cJ cS : ClassId) (aT : Nat) (ceT : Cell) (sz : Nat) (g0 m_sea m_center m_home m_borders m_owner m_units m_kind m_toX m_toY m_results m_known m_reached m_way m_aside m_origin m_retreats m_contested m_moved m_past : Nat) (n : Nat) (co mp mt msh : Int32) (Ce : Nat → Bool) (fh : Nat → Int32) (fw : Nat → Int32) (fu : Nat → Int32) (Kd : Nat → Nat) (X : Nat → Nat) (Y : Nat → Nat) (hKd : ∀ j, Kd j < 4) (hX9 : ∀ j, X j < 12) (hY9 : ∀ j, Y j < 12) (hn : n ≤ 12) (hev : mt - mt / 2 * 2 = 0) (hdu : anyB (bdR Ce fh (mxI (tkR Ce fw fu) fw n) fu n) 4 = false) : Met l y_Mo_endTurn w_Mo_endTurn ({ frames := 1, cells := 0, slots := 0, locals := 24 }) (tH D cI cZ cJ cS aT ceT [.ref g0] sz [(g0, .inr (6, [.int co, .int (nI n), .ref m_sea, .ref m_center, .ref m_home, .ref m_borders, .int mp, .int mt, .ref m_owner, .ref m_units, .ref m_kind, .ref m_toX, .ref m_toY, .ref m_results, .ref m_known, .ref m_reached, .ref m_way, .ref m_aside, .ref m_origin, .ref m_retreats, .ref m_contested, .ref m_moved, .int msh, .ref m_past])), (m_center, .inl (cZ, 12, .inl (fun j => bI (Ce j)))), (m_home, .inl (cI, 12, .inl fh)), (m_owner, .inl (cI, 12, .inl fw)), (m_units, .inl (cI, 12, .inl fu)), (m_kind, .inl (cI, 12, .inl (fun j => nI (Kd j)))), (m_toX, .inl (cI, 12, .inl (fun j => nI (X j)))), (m_toY, .inl (cI, 12, .inl (fun j => nI (Y j))))]) (va_Qv (fun _ : Unit => True) (fun _ t => tB D (va_A [(g0, .inr (6, [.int co, .int (nI n), .ref m_sea, .ref m_center, .ref m_home, .ref m_borders, .int mp, .int mt, .ref m_owner, .ref m_units, .ref m_kind, .ref m_toX, .ref m_toY, .ref m_results, .ref m_known, .ref m_reached, .ref m_way, .ref m_aside, .ref m_origin, .ref m_retreats, .ref m_contested, .ref m_moved, .int msh, .ref m_past])), (m_center, .inl (cZ, 12, .inl (fun j => bI (Ce j)))), (m_home, .inl (cI, 12, .inl fh)), (m_owner, .inl (cI, 12, .inl fw)), (m_units, .inl (cI, 12, .inl fu)), (m_kind, .inl (cI, 12, .inl (fun j => nI (Kd j)))), (m_toX, .inl (cI, 12, .inl (fun j => nI (X j)))), (m_toY, .inl (cI, 12, .inl (fun j => nI (Y j))))] sz) [(g0, .inr (6, [.int co, .int (nI n), .ref m_sea, .ref m_center, .ref m_home, .ref m_borders, .int 1, .int (mt + 1), .ref m_owner, .ref m_units, .ref m_kind, .ref m_toX, .ref m_toY, .ref m_results, .ref m_known, .ref m_reached, .ref m_way, .ref m_aside, .ref m_origin, .ref m_retreats, .ref m_contested, .ref m_moved, .int msh, .ref m_past])), (m_center, .inl (cZ, 12, .inl (fun j => bI (Ce j)))), (m_home, .inl (cI, 12, .inl fh)), (m_owner, .inl (cI, 12, .inl (mxI (tkR Ce fw fu) fw n))), (m_units, .inl (cI, 12, .inl fu)), (m_kind, .inl (cI, 12, .inl (fun _ => 0))), (m_toX, .inl (cI, 12, .inl (fun _ => 0))), (m_toY, .inl (cI, 12, .inl (fun _ => 0)))] t) (va_A [(g0, .inr (6, [.int co, .int (nI n), .ref m_sea, .ref m_center, .ref m_home, .ref m_borders, .int mp, .int mt, .ref m_owner, .ref m_units, .ref m_kind, .ref m_toX, .ref m_toY, .ref m_results, .ref m_known, .ref m_reached, .ref m_way, .ref m_aside, .ref m_origin, .ref m_retreats, .ref m_contested, .ref m_moved, .int msh, .ref m_past])), (m_center, .inl (cZ, 12, .inl (fun j => bI (Ce j)))), (m_home, .inl (cI, 12, .inl fh)), (m_owner, .inl (cI, 12, .inl fw)), (m_units, .inl (cI, 12, .inl fu)), (m_kind, .inl (cI, 12, .inl (fun j => nI (Kd j)))), (m_toX, .inl (cI, 12, .inl (fun j => nI (X j)))), (m_toY, .inl (cI, 12, .inl (fun j => nI (Y j))))] sz)) 0 0 (va_A [(g0, .inr (6, [.int co, .int (nI n), .ref m_sea, .ref m_center, .ref m_home, .ref m_borders, .int mp, .int mt, .ref m_owner, .ref m_units, .ref m_kind, .ref m_toX, .ref m_toY, .ref m_results, .ref m_known, .ref m_reached, .ref m_way, .ref m_aside, .ref m_origin, .ref m_retreats, .ref m_contested, .ref m_moved, .int msh, .ref m_past])), (m_center, .inl (cZ, 12, .inl (fun j => bI (Ce j)))), (m_home, .inl (cI, 12, .inl fh)), (m_owner, .inl (cI, 12, .inl fw)), (m_units, .inl (cI, 12, .inl fu)), (m_kind, .inl (cI, 12, .inl (fun j => nI (Kd j)))), (m_toX, .inl (cI, 12, .inl (fun j => nI (X j)))), (m_toY, .inl (cI, 12, .inl (fun j => nI (Y j))))] sz) := by
  refine Met.ofW (cc := b_Mo_endTurn) (maxL := 5) (ret := none) (by decide) rfl ?_
  intro p e s m args below meth c s₁ B hml hv
  obtain ⟨rfl, hsz, hP, hK, hD0, hX⟩ := hv
  have hx := B.exec
  have hb := B.bytes
  have hr := B.returns
  have hts0 := atoms_spec (ws := w_Mo_endTurn) B.pre
  have hts : ∀ w ∈ TB, w.before _ s = true := fun w h => hts0 w (List.mem_cons_of_mem _ h)
  have hown : s.vm.findClass R_Mo = some m.cls := findClass_of_methodNamed B.named
  have hlocks := B.notSynchronized
  subst hsz
  have hXl := tx_lt hX
  have hXn := tx_far hP hX
  have hD := hD0.self (sz := s.heap.size)
  generalize hAe : va_A [(g0, .inr (6, [.int co, .int (nI n), .ref m_sea, .ref m_center, .ref m_home, .ref m_borders, .int mp, .int mt, .ref m_owner, .ref m_units, .ref m_kind, .ref m_toX, .ref m_toY, .ref m_results, .ref m_known, .ref m_reached, .ref m_way, .ref m_aside, .ref m_origin, .ref m_retreats, .ref m_contested, .ref m_moved, .int msh, .ref m_past])), (m_center, .inl (cZ, 12, .inl (fun j => bI (Ce j)))), (m_home, .inl (cI, 12, .inl fh)), (m_owner, .inl (cI, 12, .inl fw)), (m_units, .inl (cI, 12, .inl fu)), (m_kind, .inl (cI, 12, .inl (fun j => nI (Kd j)))), (m_toX, .inl (cI, 12, .inl (fun j => nI (X j)))), (m_toY, .inl (cI, 12, .inl (fun j => nI (Y j))))] s.heap.size = A at hD hXn ⊢
  have hA : ∀ q : Nat, s.heap.size ≤ q → A q := fun q h => by rw [← hAe]; exact Or.inr h
  have hS : va_S A s.heap s.heap [] := va_S.rf
  have hXH : s.heap[aT]? = s.heap[aT]? := rfl
  have hl := lv_entry ([.ref g0]) (n := 5) (Nat.le_of_ble_eq_true rfl)
  rw [lg_entry_eq]
  generalize (lg_sl ([.ref g0]) ++ List.replicate (5 - (lg_sl ([.ref g0])).length) Slot.unset).toArray = ls at hl ⊢
  have hl : lv_has ls 5 [(0, .ref g0)] := hl
  refine lv_iconst (v := 0) hx hb d_Mo_endTurn_0 (by decide) ?_
  refine lv_istore_n (lv' := [(1, .int 0), (0, .ref g0)]) hx hb d_Mo_endTurn_1 rfl hl (by decide) rfl (fun ls hl => ?_)
  have loop : ∀ (k i : Nat) (ls : Array Slot) (H : Heap) (locs : List Loc), i + k = n → lv_has ls 5 [(1, .int (nI i)), (0, .ref g0)] → va_P D vwCl [(g0, .inr (6, [.int co, .int (nI n), .ref m_sea, .ref m_center, .ref m_home, .ref m_borders, .int mp, .int mt, .ref m_owner, .ref m_units, .ref m_kind, .ref m_toX, .ref m_toY, .ref m_results, .ref m_known, .ref m_reached, .ref m_way, .ref m_aside, .ref m_origin, .ref m_retreats, .ref m_contested, .ref m_moved, .int msh, .ref m_past])), (m_center, .inl (cZ, 12, .inl (fun j => bI (Ce j)))), (m_home, .inl (cI, 12, .inl fh)), (m_owner, .inl (cI, 12, .inl (mxI (tkR Ce fw fu) fw i))), (m_units, .inl (cI, 12, .inl fu)), (m_kind, .inl (cI, 12, .inl (fun j => nI (Kd j)))), (m_toX, .inl (cI, 12, .inl (fun j => nI (X j)))), (m_toY, .inl (cI, 12, .inl (fun j => nI (Y j))))] H → va_D A [(g0, .inr (6, [.int co, .int (nI n), .ref m_sea, .ref m_center, .ref m_home, .ref m_borders, .int mp, .int mt, .ref m_owner, .ref m_units, .ref m_kind, .ref m_toX, .ref m_toY, .ref m_results, .ref m_known, .ref m_reached, .ref m_way, .ref m_aside, .ref m_origin, .ref m_retreats, .ref m_contested, .ref m_moved, .int msh, .ref m_past])), (m_center, .inl (cZ, 12, .inl (fun j => bI (Ce j)))), (m_home, .inl (cI, 12, .inl fh)), (m_owner, .inl (cI, 12, .inl (mxI (tkR Ce fw fu) fw i))), (m_units, .inl (cI, 12, .inl fu)), (m_kind, .inl (cI, 12, .inl (fun j => nI (Kd j)))), (m_toX, .inl (cI, 12, .inl (fun j => nI (X j)))), (m_toY, .inl (cI, 12, .inl (fun j => nI (Y j))))] → va_S A s.heap H locs → W p l e (headSpec w_Mo_endTurn ({ frames := 1, cells := 0, slots := 0, locals := 24 })).room s m ([.ref g0]).toArray below meth c H locs 0 0 (MQ below (va_Qv (fun _ : Unit => True) (fun _ t => tB D A [(g0, .inr (6, [.int co, .int (nI n), .ref m_sea, .ref m_center, .ref m_home, .ref m_borders, .int 1, .int (mt + 1), .ref m_owner, .ref m_units, .ref m_kind, .ref m_toX, .ref m_toY, .ref m_results, .ref m_known, .ref m_reached, .ref m_way, .ref m_aside, .ref m_origin, .ref m_retreats, .ref m_contested, .ref m_moved, .int msh, .ref m_past])), (m_center, .inl (cZ, 12, .inl (fun j => bI (Ce j)))), (m_home, .inl (cI, 12, .inl fh)), (m_owner, .inl (cI, 12, .inl (mxI (tkR Ce fw fu) fw n))), (m_units, .inl (cI, 12, .inl fu)), (m_kind, .inl (cI, 12, .inl (fun _ => 0))), (m_toX, .inl (cI, 12, .inl (fun _ => 0))), (m_toY, .inl (cI, 12, .inl (fun _ => 0)))] t) A) ([.ref g0]).toArray s 0 0 A) (F0 m 2 ls []) := by
    intro k
    induction k with
    | zero =>
      intro i ls H locs hi hl hP hD hS
      have hie : i = n := by omega
      rw [hie] at hl hP hD
      refine lv_iload_n hx hb d_Mo_endTurn_2 rfl (lv_at hl 0 rfl) ?_
      refine lv_aload_n hx hb d_Mo_endTurn_3 rfl (lv_at hl 1 rfl) ?_
      refine va_get (D := D) (ci := 6) (v := .int (nI n)) (C := R_Mo) (T := T_Mo) (N := 24) hx hb hts hin_Mo hown hK hP 0 rfl rfl 1 (by decide) (hts _ wd_705) (fun _ h9 => h9) rfl d_Mo_endTurn_4 ?_
      refine lv_icmp_ge (tgt := 57) hx hb d_Mo_endTurn_7 (by decide) (fun _ => ?_) (fun h0 => absurd (Int32.le_refl _) h0)
      refine lv_iconst (v := 0) hx hb d_Mo_endTurn_57 (by decide) ?_
      refine lv_istore_n (lv' := [(1, .int 0), (0, .ref g0)]) hx hb d_Mo_endTurn_58 rfl hl (by decide) rfl (fun ls hl => ?_)
      refine lv_iconst (v := 0) hx hb d_Mo_endTurn_59 (by decide) ?_
      refine lv_istore_n (lv' := [(2, .int 0), (1, .int 0), (0, .ref g0)]) hx hb d_Mo_endTurn_60 rfl hl (by decide) rfl (fun ls hl => ?_)
      have loop : ∀ (k i : Nat) (ls : Array Slot), i + k = 4 → lv_has ls 5 [(2, .int (nI i)), (1, .int (bI (anyB (bdR Ce fh (mxI (tkR Ce fw fu) fw n) fu n) i))), (0, .ref g0)] → W p l e (headSpec w_Mo_endTurn ({ frames := 1, cells := 0, slots := 0, locals := 24 })).room s m ([.ref g0]).toArray below meth c H locs 0 0 (MQ below (va_Qv (fun _ : Unit => True) (fun _ t => tB D A [(g0, .inr (6, [.int co, .int (nI n), .ref m_sea, .ref m_center, .ref m_home, .ref m_borders, .int 1, .int (mt + 1), .ref m_owner, .ref m_units, .ref m_kind, .ref m_toX, .ref m_toY, .ref m_results, .ref m_known, .ref m_reached, .ref m_way, .ref m_aside, .ref m_origin, .ref m_retreats, .ref m_contested, .ref m_moved, .int msh, .ref m_past])), (m_center, .inl (cZ, 12, .inl (fun j => bI (Ce j)))), (m_home, .inl (cI, 12, .inl fh)), (m_owner, .inl (cI, 12, .inl (mxI (tkR Ce fw fu) fw n))), (m_units, .inl (cI, 12, .inl fu)), (m_kind, .inl (cI, 12, .inl (fun _ => 0))), (m_toX, .inl (cI, 12, .inl (fun _ => 0))), (m_toY, .inl (cI, 12, .inl (fun _ => 0)))] t) A) ([.ref g0]).toArray s 0 0 A) (F0 m 61 ls []) := by
        intro k
        induction k with
        | zero =>
          intro i ls hi hl
          have hie : i = 4 := by omega
          rw [hie] at hl
          refine lv_iload_n hx hb d_Mo_endTurn_61 rfl (lv_at hl 0 rfl) ?_
          refine lv_iconst (v := 4) hx hb d_Mo_endTurn_62 (by decide) ?_
          refine lv_icmp_ge (tgt := 151) hx hb d_Mo_endTurn_63 (by decide) (fun _ => ?_) (fun h0 => absurd (by decide) h0)
          refine lv_iload_n hx hb d_Mo_endTurn_151 rfl (lv_at hl 1 rfl) ?_
          refine tr_top (bI_f hdu) ?_
          refine lv_if_eq (tgt := 163) hx hb d_Mo_endTurn_152 (by decide) (fun _ => ?_) (fun h0 => absurd (by decide) h0)
          refine lv_aload_n hx hb d_Mo_endTurn_163 rfl (lv_at hl 2 rfl) ?_
          have hPc := hP.sub (ws' := [(g0, .inr (6, [.int co, .int (nI n), .ref m_sea, .ref m_center, .ref m_home, .ref m_borders, .int mp, .int mt, .ref m_owner, .ref m_units, .ref m_kind, .ref m_toX, .ref m_toY, .ref m_results, .ref m_known, .ref m_reached, .ref m_way, .ref m_aside, .ref m_origin, .ref m_retreats, .ref m_contested, .ref m_moved, .int msh, .ref m_past])), (m_kind, .inl (cI, 12, .inl (fun j => nI (Kd j)))), (m_toX, .inl (cI, 12, .inl (fun j => nI (X j)))), (m_toY, .inl (cI, 12, .inl (fun j => nI (Y j))))]) [0, 5, 6, 7] rfl
          have hDc := hD.sub (ws' := [(g0, .inr (6, [.int co, .int (nI n), .ref m_sea, .ref m_center, .ref m_home, .ref m_borders, .int mp, .int mt, .ref m_owner, .ref m_units, .ref m_kind, .ref m_toX, .ref m_toY, .ref m_results, .ref m_known, .ref m_reached, .ref m_way, .ref m_aside, .ref m_origin, .ref m_retreats, .ref m_contested, .ref m_moved, .int msh, .ref m_past])), (m_kind, .inl (cI, 12, .inl (fun j => nI (Kd j)))), (m_toX, .inl (cI, 12, .inl (fun j => nI (X j)))), (m_toY, .inl (cI, 12, .inl (fun j => nI (Y j))))]) [0, 5, 6, 7] (by decide) rfl
          have hFc := va_free (wc := [(g0, .inr (6, [.int co, .int (nI n), .ref m_sea, .ref m_center, .ref m_home, .ref m_borders, .int mp, .int mt, .ref m_owner, .ref m_units, .ref m_kind, .ref m_toX, .ref m_toY, .ref m_results, .ref m_known, .ref m_reached, .ref m_way, .ref m_aside, .ref m_origin, .ref m_retreats, .ref m_contested, .ref m_moved, .int msh, .ref m_past])), (m_kind, .inl (cI, 12, .inl (fun j => nI (Kd j)))), (m_toX, .inl (cI, 12, .inl (fun j => nI (X j)))), (m_toY, .inl (cI, 12, .inl (fun j => nI (Y j))))]) hD hS hA [0, 5, 6, 7] rfl
          refine va_callv (va_runV (As := []) (rest := []) ⟨hx, hb, hml, hown, hts⟩ (c_Mo_nextTurn l D cI cZ cJ cS aT ceT H.size g0 m_sea m_center m_home m_borders m_owner m_units m_kind m_toX m_toY m_results m_known m_reached m_way m_aside m_origin m_retreats m_contested m_moved m_past co (nI n) mp mt msh (fun j => nI (Kd j)) (fun j => nI (X j)) (fun j => nI (Y j)) ) (cwV 0 hts (tb_4 wd_817 wd_819 wp_40 wd_8 (tb_c wd_820)) rfl rfl rfl ⟨rfl, by decide, by decide, by decide +kernel⟩ ⟨Nat.le_of_ble_eq_true rfl, Nat.le_of_ble_eq_true rfl⟩) (tH_V hK hX (hS.2.1 aT hXl hXn) hPc hDc (q := 0) rfl rfl) rfl rfl hl.1 rfl (lv_room (Nat.le_of_ble_eq_true rfl)) d_Mo_endTurn_164 ⟨Nat.le_of_ble_eq_true rfl, Nat.le_of_ble_eq_true rfl⟩) hS (fun q _ h => hFc q h) hFc (fun u t H1 locs ht hvm h9 hB hz1 hk1 hS => ?_)
          obtain ⟨hP1, hD1⟩ := hB
          rw [ht] at hP1
          obtain ⟨hP, hD⟩ := va_join (wr := [(m_center, .inl (cZ, 12, .inl (fun j => bI (Ce j)))), (m_home, .inl (cI, 12, .inl fh)), (m_owner, .inl (cI, 12, .inl (mxI (tkR Ce fw fu) fw n))), (m_units, .inl (cI, 12, .inl fu))]) (w1 := [(g0, .inr (6, [.int co, .int (nI n), .ref m_sea, .ref m_center, .ref m_home, .ref m_borders, .int 1, .int (mt + 1), .ref m_owner, .ref m_units, .ref m_kind, .ref m_toX, .ref m_toY, .ref m_results, .ref m_known, .ref m_reached, .ref m_way, .ref m_aside, .ref m_origin, .ref m_retreats, .ref m_contested, .ref m_moved, .int msh, .ref m_past])), (m_kind, .inl (cI, 12, .inl (fun _ => 0))), (m_toX, .inl (cI, 12, .inl (fun _ => 0))), (m_toY, .inl (cI, 12, .inl (fun _ => 0)))]) hP hD [0, 5, 6, 7] [1, 2, 3, 4] rfl rfl (by decide) (by decide) hk1 hFc hP1 hD1
          generalize H1 = H at hP hS ⊢
          have hP : va_P D vwCl [(m_center, .inl (cZ, 12, .inl (fun j => bI (Ce j)))), (m_home, .inl (cI, 12, .inl fh)), (m_owner, .inl (cI, 12, .inl (mxI (tkR Ce fw fu) fw n))), (m_units, .inl (cI, 12, .inl fu)), (g0, .inr (6, [.int co, .int (nI n), .ref m_sea, .ref m_center, .ref m_home, .ref m_borders, .int 1, .int (mt + 1), .ref m_owner, .ref m_units, .ref m_kind, .ref m_toX, .ref m_toY, .ref m_results, .ref m_known, .ref m_reached, .ref m_way, .ref m_aside, .ref m_origin, .ref m_retreats, .ref m_contested, .ref m_moved, .int msh, .ref m_past])), (m_kind, .inl (cI, 12, .inl (fun _ => 0))), (m_toX, .inl (cI, 12, .inl (fun _ => 0))), (m_toY, .inl (cI, 12, .inl (fun _ => 0)))] H := hP
          have hD : va_D A [(m_center, .inl (cZ, 12, .inl (fun j => bI (Ce j)))), (m_home, .inl (cI, 12, .inl fh)), (m_owner, .inl (cI, 12, .inl (mxI (tkR Ce fw fu) fw n))), (m_units, .inl (cI, 12, .inl fu)), (g0, .inr (6, [.int co, .int (nI n), .ref m_sea, .ref m_center, .ref m_home, .ref m_borders, .int 1, .int (mt + 1), .ref m_owner, .ref m_units, .ref m_kind, .ref m_toX, .ref m_toY, .ref m_results, .ref m_known, .ref m_reached, .ref m_way, .ref m_aside, .ref m_origin, .ref m_retreats, .ref m_contested, .ref m_moved, .int msh, .ref m_past])), (m_kind, .inl (cI, 12, .inl (fun _ => 0))), (m_toX, .inl (cI, 12, .inl (fun _ => 0))), (m_toY, .inl (cI, 12, .inl (fun _ => 0)))] := hD
          have hP9 := hP.sub (ws' := [(g0, .inr (6, [.int co, .int (nI n), .ref m_sea, .ref m_center, .ref m_home, .ref m_borders, .int 1, .int (mt + 1), .ref m_owner, .ref m_units, .ref m_kind, .ref m_toX, .ref m_toY, .ref m_results, .ref m_known, .ref m_reached, .ref m_way, .ref m_aside, .ref m_origin, .ref m_retreats, .ref m_contested, .ref m_moved, .int msh, .ref m_past])), (m_center, .inl (cZ, 12, .inl (fun j => bI (Ce j)))), (m_home, .inl (cI, 12, .inl fh)), (m_owner, .inl (cI, 12, .inl (mxI (tkR Ce fw fu) fw n))), (m_units, .inl (cI, 12, .inl fu)), (m_kind, .inl (cI, 12, .inl (fun _ => 0))), (m_toX, .inl (cI, 12, .inl (fun _ => 0))), (m_toY, .inl (cI, 12, .inl (fun _ => 0)))]) [4, 0, 1, 2, 3, 5, 6, 7] rfl
          have hD9 := hD.sub (ws' := [(g0, .inr (6, [.int co, .int (nI n), .ref m_sea, .ref m_center, .ref m_home, .ref m_borders, .int 1, .int (mt + 1), .ref m_owner, .ref m_units, .ref m_kind, .ref m_toX, .ref m_toY, .ref m_results, .ref m_known, .ref m_reached, .ref m_way, .ref m_aside, .ref m_origin, .ref m_retreats, .ref m_contested, .ref m_moved, .int msh, .ref m_past])), (m_center, .inl (cZ, 12, .inl (fun j => bI (Ce j)))), (m_home, .inl (cI, 12, .inl fh)), (m_owner, .inl (cI, 12, .inl (mxI (tkR Ce fw fu) fw n))), (m_units, .inl (cI, 12, .inl fu)), (m_kind, .inl (cI, 12, .inl (fun _ => 0))), (m_toX, .inl (cI, 12, .inl (fun _ => 0))), (m_toY, .inl (cI, 12, .inl (fun _ => 0)))]) [4, 0, 1, 2, 3, 5, 6, 7] (by decide) rfl
          exact W.vret hx hb hr (fun t ht hW => ⟨⟨(), rfl, trivial, by rw [ht]; exact hP9, hD9⟩, hS.F ht⟩) hS.2.2 d_Mo_endTurn_167
        | succ k ih =>
          intro i ls hi hl
          have hlt : i < 4 := by omega
          have hlt12 : i < 12 := by omega
          refine lv_iload_n hx hb d_Mo_endTurn_61 rfl (lv_at hl 0 rfl) ?_
          refine lv_iconst (v := 4) hx hb d_Mo_endTurn_62 (by decide) ?_
          refine lv_icmp_ge (tgt := 151) hx hb d_Mo_endTurn_63 (by decide) (fun h0 => absurd h0 (nI_ge hlt (by decide))) (fun _ => ?_)
          refine lv_aload_n hx hb d_Mo_endTurn_66 rfl (lv_at hl 2 rfl) ?_
          refine va_get (D := D) (ci := 6) (v := .int mt) (C := R_Mo) (T := T_Mo) (N := 24) hx hb hts hin_Mo hown hK hP 0 rfl rfl 7 (by decide) (hts _ wd_711) (fun _ h9 => h9) rfl d_Mo_endTurn_67 ?_
          refine lv_iconst (v := 2) hx hb d_Mo_endTurn_70 (by decide) ?_
          refine lv_irem hx hb d_Mo_endTurn_71 (by decide) ?_
          refine lv_if_ne (tgt := 151) hx hb d_Mo_endTurn_72 (by decide) (fun h0 => absurd hev h0) (fun _ => ?_)
          refine lv_aload_n hx hb d_Mo_endTurn_75 rfl (lv_at hl 2 rfl) ?_
          refine lv_iload_n hx hb d_Mo_endTurn_76 rfl (lv_at hl 0 rfl) ?_
          refine lv_iconst (v := 0) hx hb d_Mo_endTurn_77 (by decide) ?_
          have hPc := hP.sub (ws' := [(g0, .inr (6, [.int co, .int (nI n), .ref m_sea, .ref m_center, .ref m_home, .ref m_borders, .int mp, .int mt, .ref m_owner, .ref m_units, .ref m_kind, .ref m_toX, .ref m_toY, .ref m_results, .ref m_known, .ref m_reached, .ref m_way, .ref m_aside, .ref m_origin, .ref m_retreats, .ref m_contested, .ref m_moved, .int msh, .ref m_past])), (m_center, .inl (cZ, 12, .inl (fun j => bI (Ce j)))), (m_owner, .inl (cI, 12, .inl (mxI (tkR Ce fw fu) fw n))), (m_units, .inl (cI, 12, .inl fu))]) [0, 1, 3, 4] rfl
          refine vp_callSi (va_Run.run (va_runV (As := [.int (nI i), .int 0]) (rest := []) ⟨hx, hb, hml, hown, hts⟩ (c_Mo_counted l D cI cZ cJ cS aT ceT  g0 m_sea m_center m_home m_borders m_owner m_units m_kind m_toX m_toY m_results m_known m_reached m_way m_aside m_origin m_retreats m_contested m_moved m_past n co mp mt msh Ce (mxI (tkR Ce fw fu) fw n) fu (nI i) false hn) (cwV 2 hts (tb_4 wd_941 wd_943 wp_69 wd_8 (tb_c wd_944)) rfl rfl rfl ⟨rfl, by decide, by decide, by decide +kernel⟩ ⟨Nat.le_of_ble_eq_true rfl, Nat.le_of_ble_eq_true rfl⟩) (tP_V hK hX (hS.2.1 aT hXl hXn) hPc (q := 0) rfl rfl) rfl rfl hl.1 rfl (lv_room (Nat.le_of_ble_eq_true rfl)) d_Mo_endTurn_78 ⟨Nat.le_of_ble_eq_true rfl, Nat.le_of_ble_eq_true rfl⟩)) (fun r7 hr9 => ?_)
          rw [hr9]
          refine lv_aload_n hx hb d_Mo_endTurn_81 rfl (lv_at hl 2 rfl) ?_
          refine lv_iload_n hx hb d_Mo_endTurn_82 rfl (lv_at hl 0 rfl) ?_
          refine lv_iconst (v := 1) hx hb d_Mo_endTurn_83 (by decide) ?_
          have hPc := hP.sub (ws' := [(g0, .inr (6, [.int co, .int (nI n), .ref m_sea, .ref m_center, .ref m_home, .ref m_borders, .int mp, .int mt, .ref m_owner, .ref m_units, .ref m_kind, .ref m_toX, .ref m_toY, .ref m_results, .ref m_known, .ref m_reached, .ref m_way, .ref m_aside, .ref m_origin, .ref m_retreats, .ref m_contested, .ref m_moved, .int msh, .ref m_past])), (m_center, .inl (cZ, 12, .inl (fun j => bI (Ce j)))), (m_owner, .inl (cI, 12, .inl (mxI (tkR Ce fw fu) fw n))), (m_units, .inl (cI, 12, .inl fu))]) [0, 1, 3, 4] rfl
          refine vp_callSi (va_Run.run (va_runV (As := [.int (nI i), .int 1]) (rest := [.int (nI (numB (fun b => if false = true then !decide (fu b < 0) && decide (fu b / 2 = (nI i)) else Ce b && decide ((mxI (tkR Ce fw fu) fw n) b = (nI i))) n))]) ⟨hx, hb, hml, hown, hts⟩ (c_Mo_counted l D cI cZ cJ cS aT ceT  g0 m_sea m_center m_home m_borders m_owner m_units m_kind m_toX m_toY m_results m_known m_reached m_way m_aside m_origin m_retreats m_contested m_moved m_past n co mp mt msh Ce (mxI (tkR Ce fw fu) fw n) fu (nI i) true hn) (cwV 2 hts (tb_4 wd_941 wd_943 wp_69 wd_8 (tb_c wd_944)) rfl rfl rfl ⟨rfl, by decide, by decide, by decide +kernel⟩ ⟨Nat.le_of_ble_eq_true rfl, Nat.le_of_ble_eq_true rfl⟩) (tP_V hK hX (hS.2.1 aT hXl hXn) hPc (q := 0) rfl rfl) rfl rfl hl.1 rfl (lv_room (Nat.le_of_ble_eq_true rfl)) d_Mo_endTurn_84 ⟨Nat.le_of_ble_eq_true rfl, Nat.le_of_ble_eq_true rfl⟩)) (fun r8 hr9 => ?_)
          rw [hr9]
          refine lv_isub hx hb d_Mo_endTurn_87 ?_
          refine tr_top (y := mMs Ce (mxI (tkR Ce fw fu) fw n) fu n (nI i)) rfl ?_
          refine lv_istore_n (lv' := [(3, .int (mMs Ce (mxI (tkR Ce fw fu) fw n) fu n (nI i))), (2, .int (nI i)), (1, .int (bI (anyB (bdR Ce fh (mxI (tkR Ce fw fu) fw n) fu n) i))), (0, .ref g0)]) hx hb d_Mo_endTurn_88 rfl hl (by decide) rfl (fun ls hl => ?_)
          refine lv_iload_n hx hb d_Mo_endTurn_89 rfl (lv_at hl 2 rfl) ?_
          rcases bI_c (anyB (bdR Ce fh (mxI (tkR Ce fw fu) fw n) fu n) i) with ⟨hb10, e9⟩ | ⟨hb10, e9⟩
          · refine tr_top e9 ?_
            refine lv_if_ne (tgt := 97) hx hb d_Mo_endTurn_90 (by decide) (fun _ => ?_) (fun h0 => absurd h0 (by decide))
            refine lv_iconst (v := 1) hx hb d_Mo_endTurn_97 (by decide) ?_
            refine lv_goto (tgt := 102) hx hb d_Mo_endTurn_98 (by decide) ?_
            refine lv_istore_n (lv' := [(1, .int 1), (3, .int (mMs Ce (mxI (tkR Ce fw fu) fw n) fu n (nI i))), (2, .int (nI i)), (0, .ref g0)]) hx hb d_Mo_endTurn_102 rfl hl (by decide) rfl (fun ls hl => ?_)
            refine lv_iconst (v := 0) hx hb d_Mo_endTurn_103 (by decide) ?_
            refine lv_istore (lv' := [(4, .int 0), (1, .int 1), (3, .int (mMs Ce (mxI (tkR Ce fw fu) fw n) fu n (nI i))), (2, .int (nI i)), (0, .ref g0)]) hx hb d_Mo_endTurn_104 hl (by decide) rfl (fun ls hl => ?_)
            have nloop : ∀ (k9 i9 : Nat) (ls : Array Slot), i9 + k9 = n → lv_has ls 5 [(4, .int (nI i9)), (1, .int 1), (3, .int (mMs Ce (mxI (tkR Ce fw fu) fw n) fu n (nI i))), (2, .int (nI i)), (0, .ref g0)] → W p l e (headSpec w_Mo_endTurn ({ frames := 1, cells := 0, slots := 0, locals := 24 })).room s m ([.ref g0]).toArray below meth c H locs 0 0 (MQ below (va_Qv (fun _ : Unit => True) (fun _ t => tB D A [(g0, .inr (6, [.int co, .int (nI n), .ref m_sea, .ref m_center, .ref m_home, .ref m_borders, .int 1, .int (mt + 1), .ref m_owner, .ref m_units, .ref m_kind, .ref m_toX, .ref m_toY, .ref m_results, .ref m_known, .ref m_reached, .ref m_way, .ref m_aside, .ref m_origin, .ref m_retreats, .ref m_contested, .ref m_moved, .int msh, .ref m_past])), (m_center, .inl (cZ, 12, .inl (fun j => bI (Ce j)))), (m_home, .inl (cI, 12, .inl fh)), (m_owner, .inl (cI, 12, .inl (mxI (tkR Ce fw fu) fw n))), (m_units, .inl (cI, 12, .inl fu)), (m_kind, .inl (cI, 12, .inl (fun _ => 0))), (m_toX, .inl (cI, 12, .inl (fun _ => 0))), (m_toY, .inl (cI, 12, .inl (fun _ => 0)))] t) A) ([.ref g0]).toArray s 0 0 A) (F0 m 106 ls []) := by
              intro k9
              induction k9 with
              | zero =>
                intro i9 ls hi9 hl
                have hie9 : i9 = n := by omega
                rw [hie9] at hl
                refine lv_iload hx hb d_Mo_endTurn_106 (lv_at hl 0 rfl) ?_
                refine lv_aload_n hx hb d_Mo_endTurn_108 rfl (lv_at hl 4 rfl) ?_
                refine va_get (D := D) (ci := 6) (v := .int (nI n)) (C := R_Mo) (T := T_Mo) (N := 24) hx hb hts hin_Mo hown hK hP 0 rfl rfl 1 (by decide) (hts _ wd_705) (fun _ h9 => h9) rfl d_Mo_endTurn_109 ?_
                refine lv_icmp_ge (tgt := 145) hx hb d_Mo_endTurn_112 (by decide) (fun _ => ?_) (fun h0 => absurd (Int32.le_refl _) h0)
                refine lv_iinc (lv' := [(2, .int ((nI i) + 1)), (4, .int (nI n)), (1, .int 1), (3, .int (mMs Ce (mxI (tkR Ce fw fu) fw n) fu n (nI i))), (0, .ref g0)]) hx hb d_Mo_endTurn_145 hl (k := 3) rfl rfl (by decide) rfl (fun ls hl => ?_)
                refine lv_goto (tgt := 61) hx hb d_Mo_endTurn_148 (by decide) ?_
                have e13 : (nI i) + 1 = nI (i + 1) := nI_1 i
                have e14 : 1 = bI (anyB (bdR Ce fh (mxI (tkR Ce fw fu) fw n) fu n) (i + 1)) := (bI_t (show (anyB (bdR Ce fh (mxI (tkR Ce fw fu) fw n) fu n) i || bdR Ce fh (mxI (tkR Ce fw fu) fw n) fu n i) = true by simp [bdR, hb10])).symm
                exact ih (i + 1) ls (by omega) (by rw [← e13, ← e14]; exact lv_sub hl [0, 2, 4] rfl)
              | succ k9 ih9 =>
                intro i9 ls hi9 hl
                have hlt9 : i9 < n := by omega
                have hlt912 : i9 < 12 := by omega
                refine lv_iload hx hb d_Mo_endTurn_106 (lv_at hl 0 rfl) ?_
                refine lv_aload_n hx hb d_Mo_endTurn_108 rfl (lv_at hl 4 rfl) ?_
                refine va_get (D := D) (ci := 6) (v := .int (nI n)) (C := R_Mo) (T := T_Mo) (N := 24) hx hb hts hin_Mo hown hK hP 0 rfl rfl 1 (by decide) (hts _ wd_705) (fun _ h9 => h9) rfl d_Mo_endTurn_109 ?_
                refine lv_icmp_ge (tgt := 145) hx hb d_Mo_endTurn_112 (by decide) (fun h0 => absurd h0 (nI_ge hlt9 (by omega))) (fun _ => ?_)
                refine lv_iload_n hx hb d_Mo_endTurn_115 rfl (lv_at hl 1 rfl) ?_
                refine lv_if_ne (tgt := 133) hx hb d_Mo_endTurn_116 (by decide) (fun _ => ?_) (fun h0 => absurd h0 (by decide))
                refine lv_iconst (v := 1) hx hb d_Mo_endTurn_133 (by decide) ?_
                refine lv_goto (tgt := 138) hx hb d_Mo_endTurn_134 (by decide) ?_
                refine lv_istore_n (lv' := [(1, .int 1), (4, .int (nI i9)), (3, .int (mMs Ce (mxI (tkR Ce fw fu) fw n) fu n (nI i))), (2, .int (nI i)), (0, .ref g0)]) hx hb d_Mo_endTurn_138 rfl hl (by decide) rfl (fun ls hl => ?_)
                refine lv_iinc (lv' := [(4, .int ((nI i9) + 1)), (1, .int 1), (3, .int (mMs Ce (mxI (tkR Ce fw fu) fw n) fu n (nI i))), (2, .int (nI i)), (0, .ref g0)]) hx hb d_Mo_endTurn_139 hl (k := 1) rfl rfl (by decide) rfl (fun ls hl => ?_)
                refine lv_goto (tgt := 106) hx hb d_Mo_endTurn_142 (by decide) ?_
                have e17 : (nI i9) + 1 = nI (i9 + 1) := nI_1 i9
                exact ih9 (i9 + 1) ls (by omega) (by rw [← e17]; exact lv_sub hl [0, 1, 2, 3, 4] rfl)
            exact nloop n 0 ls (Nat.zero_add _) hl
          · refine tr_top e9 ?_
            refine lv_if_ne (tgt := 97) hx hb d_Mo_endTurn_90 (by decide) (fun h0 => absurd (by decide) h0) (fun _ => ?_)
            refine lv_iload_n hx hb d_Mo_endTurn_93 rfl (lv_at hl 0 rfl) ?_
            refine lv_if_ge (tgt := 101) hx hb d_Mo_endTurn_94 (by decide) (fun hc19 => ?_) (fun hc19 => ?_)
            · -- 94 taken
              have hc19 : ¬ (mMs Ce (mxI (tkR Ce fw fu) fw n) fu n (nI i)) < 0 := Int32.not_lt.mpr hc19
              refine lv_iconst (v := 0) hx hb d_Mo_endTurn_101 (by decide) ?_
              refine lv_istore_n (lv' := [(1, .int 0), (3, .int (mMs Ce (mxI (tkR Ce fw fu) fw n) fu n (nI i))), (2, .int (nI i)), (0, .ref g0)]) hx hb d_Mo_endTurn_102 rfl hl (by decide) rfl (fun ls hl => ?_)
              refine lv_iconst (v := 0) hx hb d_Mo_endTurn_103 (by decide) ?_
              refine lv_istore (lv' := [(4, .int 0), (1, .int 0), (3, .int (mMs Ce (mxI (tkR Ce fw fu) fw n) fu n (nI i))), (2, .int (nI i)), (0, .ref g0)]) hx hb d_Mo_endTurn_104 hl (by decide) rfl (fun ls hl => ?_)
              have nloop : ∀ (k9 i9 : Nat) (ls : Array Slot), i9 + k9 = n → lv_has ls 5 [(4, .int (nI i9)), (1, .int (bI (anyB (mbR fh (mxI (tkR Ce fw fu) fw n) fu (nI i)) i9 && !decide (mMs Ce (mxI (tkR Ce fw fu) fw n) fu n (nI i) ≤ 0)))), (3, .int (mMs Ce (mxI (tkR Ce fw fu) fw n) fu n (nI i))), (2, .int (nI i)), (0, .ref g0)] → W p l e (headSpec w_Mo_endTurn ({ frames := 1, cells := 0, slots := 0, locals := 24 })).room s m ([.ref g0]).toArray below meth c H locs 0 0 (MQ below (va_Qv (fun _ : Unit => True) (fun _ t => tB D A [(g0, .inr (6, [.int co, .int (nI n), .ref m_sea, .ref m_center, .ref m_home, .ref m_borders, .int 1, .int (mt + 1), .ref m_owner, .ref m_units, .ref m_kind, .ref m_toX, .ref m_toY, .ref m_results, .ref m_known, .ref m_reached, .ref m_way, .ref m_aside, .ref m_origin, .ref m_retreats, .ref m_contested, .ref m_moved, .int msh, .ref m_past])), (m_center, .inl (cZ, 12, .inl (fun j => bI (Ce j)))), (m_home, .inl (cI, 12, .inl fh)), (m_owner, .inl (cI, 12, .inl (mxI (tkR Ce fw fu) fw n))), (m_units, .inl (cI, 12, .inl fu)), (m_kind, .inl (cI, 12, .inl (fun _ => 0))), (m_toX, .inl (cI, 12, .inl (fun _ => 0))), (m_toY, .inl (cI, 12, .inl (fun _ => 0)))] t) A) ([.ref g0]).toArray s 0 0 A) (F0 m 106 ls []) := by
                intro k9
                induction k9 with
                | zero =>
                  intro i9 ls hi9 hl
                  have hie9 : i9 = n := by omega
                  rw [hie9] at hl
                  refine lv_iload hx hb d_Mo_endTurn_106 (lv_at hl 0 rfl) ?_
                  refine lv_aload_n hx hb d_Mo_endTurn_108 rfl (lv_at hl 4 rfl) ?_
                  refine va_get (D := D) (ci := 6) (v := .int (nI n)) (C := R_Mo) (T := T_Mo) (N := 24) hx hb hts hin_Mo hown hK hP 0 rfl rfl 1 (by decide) (hts _ wd_705) (fun _ h9 => h9) rfl d_Mo_endTurn_109 ?_
                  refine lv_icmp_ge (tgt := 145) hx hb d_Mo_endTurn_112 (by decide) (fun _ => ?_) (fun h0 => absurd (Int32.le_refl _) h0)
                  refine lv_iinc (lv' := [(2, .int ((nI i) + 1)), (4, .int (nI n)), (1, .int (bI (anyB (mbR fh (mxI (tkR Ce fw fu) fw n) fu (nI i)) n && !decide (mMs Ce (mxI (tkR Ce fw fu) fw n) fu n (nI i) ≤ 0)))), (3, .int (mMs Ce (mxI (tkR Ce fw fu) fw n) fu n (nI i))), (0, .ref g0)]) hx hb d_Mo_endTurn_145 hl (k := 3) rfl rfl (by decide) rfl (fun ls hl => ?_)
                  refine lv_goto (tgt := 61) hx hb d_Mo_endTurn_148 (by decide) ?_
                  have e21 : (nI i) + 1 = nI (i + 1) := nI_1 i
                  have e22 : bI (anyB (mbR fh (mxI (tkR Ce fw fu) fw n) fu (nI i)) n && !decide (mMs Ce (mxI (tkR Ce fw fu) fw n) fu n (nI i) ≤ 0)) = bI (anyB (bdR Ce fh (mxI (tkR Ce fw fu) fw n) fu n) (i + 1)) := bI_eq (show (anyB (mbR fh (mxI (tkR Ce fw fu) fw n) fu (nI i)) n && !decide (mMs Ce (mxI (tkR Ce fw fu) fw n) fu n (nI i) ≤ 0)) = (anyB (bdR Ce fh (mxI (tkR Ce fw fu) fw n) fu n) i || bdR Ce fh (mxI (tkR Ce fw fu) fw n) fu n i) by simp [bdR, hb10, hc19] <;> rfl)
                  exact ih (i + 1) ls (by omega) (by rw [← e21, ← e22]; exact lv_sub hl [0, 2, 4] rfl)
                | succ k9 ih9 =>
                  intro i9 ls hi9 hl
                  have hlt9 : i9 < n := by omega
                  have hlt912 : i9 < 12 := by omega
                  refine lv_iload hx hb d_Mo_endTurn_106 (lv_at hl 0 rfl) ?_
                  refine lv_aload_n hx hb d_Mo_endTurn_108 rfl (lv_at hl 4 rfl) ?_
                  refine va_get (D := D) (ci := 6) (v := .int (nI n)) (C := R_Mo) (T := T_Mo) (N := 24) hx hb hts hin_Mo hown hK hP 0 rfl rfl 1 (by decide) (hts _ wd_705) (fun _ h9 => h9) rfl d_Mo_endTurn_109 ?_
                  refine lv_icmp_ge (tgt := 145) hx hb d_Mo_endTurn_112 (by decide) (fun h0 => absurd h0 (nI_ge hlt9 (by omega))) (fun _ => ?_)
                  refine lv_iload_n hx hb d_Mo_endTurn_115 rfl (lv_at hl 1 rfl) ?_
                  rcases bI_c (anyB (mbR fh (mxI (tkR Ce fw fu) fw n) fu (nI i)) i9 && !decide (mMs Ce (mxI (tkR Ce fw fu) fw n) fu n (nI i) ≤ 0)) with ⟨hb25, e9⟩ | ⟨hb25, e9⟩
                  · refine tr_top e9 ?_
                    refine lv_if_ne (tgt := 133) hx hb d_Mo_endTurn_116 (by decide) (fun _ => ?_) (fun h0 => absurd h0 (by decide))
                    refine lv_iconst (v := 1) hx hb d_Mo_endTurn_133 (by decide) ?_
                    refine lv_goto (tgt := 138) hx hb d_Mo_endTurn_134 (by decide) ?_
                    refine lv_istore_n (lv' := [(1, .int 1), (4, .int (nI i9)), (3, .int (mMs Ce (mxI (tkR Ce fw fu) fw n) fu n (nI i))), (2, .int (nI i)), (0, .ref g0)]) hx hb d_Mo_endTurn_138 rfl hl (by decide) rfl (fun ls hl => ?_)
                    refine lv_iinc (lv' := [(4, .int ((nI i9) + 1)), (1, .int 1), (3, .int (mMs Ce (mxI (tkR Ce fw fu) fw n) fu n (nI i))), (2, .int (nI i)), (0, .ref g0)]) hx hb d_Mo_endTurn_139 hl (k := 1) rfl rfl (by decide) rfl (fun ls hl => ?_)
                    refine lv_goto (tgt := 106) hx hb d_Mo_endTurn_142 (by decide) ?_
                    have e27 : (nI i9) + 1 = nI (i9 + 1) := nI_1 i9
                    have e28 : 1 = bI (anyB (mbR fh (mxI (tkR Ce fw fu) fw n) fu (nI i)) (i9 + 1) && !decide (mMs Ce (mxI (tkR Ce fw fu) fw n) fu n (nI i) ≤ 0)) := (bI_t (show ((anyB (mbR fh (mxI (tkR Ce fw fu) fw n) fu (nI i)) i9 || mbR fh (mxI (tkR Ce fw fu) fw n) fu (nI i) i9) && !decide (mMs Ce (mxI (tkR Ce fw fu) fw n) fu n (nI i) ≤ 0)) = true by (first | (simp [mbR, hb10, hc19, hb25]; done) | (have h9 := hb25; revert h9; cases anyB (mbR fh (mxI (tkR Ce fw fu) fw n) fu (nI i)) i9 <;> cases decide (mMs Ce (mxI (tkR Ce fw fu) fw n) fu n (nI i) ≤ 0) <;> simp [mbR, hb10, hc19])))).symm
                    exact ih9 (i9 + 1) ls (by omega) (by rw [← e27, ← e28]; exact lv_sub hl [0, 1, 2, 3, 4] rfl)
                  · refine tr_top e9 ?_
                    refine lv_if_ne (tgt := 133) hx hb d_Mo_endTurn_116 (by decide) (fun h0 => absurd (by decide) h0) (fun _ => ?_)
                    refine lv_iload_n hx hb d_Mo_endTurn_119 rfl (lv_at hl 2 rfl) ?_
                    refine lv_if_le (tgt := 137) hx hb d_Mo_endTurn_120 (by decide) (fun hc30 => ?_) (fun hc30 => ?_)
                    · -- 120 taken
                      refine lv_iconst (v := 0) hx hb d_Mo_endTurn_137 (by decide) ?_
                      refine lv_istore_n (lv' := [(1, .int 0), (4, .int (nI i9)), (3, .int (mMs Ce (mxI (tkR Ce fw fu) fw n) fu n (nI i))), (2, .int (nI i)), (0, .ref g0)]) hx hb d_Mo_endTurn_138 rfl hl (by decide) rfl (fun ls hl => ?_)
                      refine lv_iinc (lv' := [(4, .int ((nI i9) + 1)), (1, .int 0), (3, .int (mMs Ce (mxI (tkR Ce fw fu) fw n) fu n (nI i))), (2, .int (nI i)), (0, .ref g0)]) hx hb d_Mo_endTurn_139 hl (k := 1) rfl rfl (by decide) rfl (fun ls hl => ?_)
                      refine lv_goto (tgt := 106) hx hb d_Mo_endTurn_142 (by decide) ?_
                      have e31 : (nI i9) + 1 = nI (i9 + 1) := nI_1 i9
                      have e32 : 0 = bI (anyB (mbR fh (mxI (tkR Ce fw fu) fw n) fu (nI i)) (i9 + 1) && !decide (mMs Ce (mxI (tkR Ce fw fu) fw n) fu n (nI i) ≤ 0)) := (bI_f (show ((anyB (mbR fh (mxI (tkR Ce fw fu) fw n) fu (nI i)) i9 || mbR fh (mxI (tkR Ce fw fu) fw n) fu (nI i) i9) && !decide (mMs Ce (mxI (tkR Ce fw fu) fw n) fu n (nI i) ≤ 0)) = false by (first | (simp [mbR, hb10, hc19, hb25, hc30]; done) | (have h9 := hb25; revert h9; cases anyB (mbR fh (mxI (tkR Ce fw fu) fw n) fu (nI i)) i9 <;> cases decide (mMs Ce (mxI (tkR Ce fw fu) fw n) fu n (nI i) ≤ 0) <;> simp [mbR, hb10, hc19, hc30])))).symm
                      exact ih9 (i9 + 1) ls (by omega) (by rw [← e31, ← e32]; exact lv_sub hl [0, 1, 2, 3, 4] rfl)
                    · -- 120 not taken
                      refine lv_aload_n hx hb d_Mo_endTurn_123 rfl (lv_at hl 4 rfl) ?_
                      refine lv_iload_n hx hb d_Mo_endTurn_124 rfl (lv_at hl 3 rfl) ?_
                      refine lv_iload hx hb d_Mo_endTurn_125 (lv_at hl 0 rfl) ?_
                      have hPc := hP.sub (ws' := [(g0, .inr (6, [.int co, .int (nI n), .ref m_sea, .ref m_center, .ref m_home, .ref m_borders, .int mp, .int mt, .ref m_owner, .ref m_units, .ref m_kind, .ref m_toX, .ref m_toY, .ref m_results, .ref m_known, .ref m_reached, .ref m_way, .ref m_aside, .ref m_origin, .ref m_retreats, .ref m_contested, .ref m_moved, .int msh, .ref m_past])), (m_home, .inl (cI, 12, .inl fh)), (m_owner, .inl (cI, 12, .inl (mxI (tkR Ce fw fu) fw n))), (m_units, .inl (cI, 12, .inl fu))]) [0, 2, 3, 4] rfl
                      refine vp_callSi (va_Run.run (va_runV (As := [.int (nI i), .int (nI i9)]) (rest := []) ⟨hx, hb, hml, hown, hts⟩ (c_Mo_mayBuild l D cI cZ cJ cS aT ceT  g0 m_sea m_center m_home m_borders m_owner m_units m_kind m_toX m_toY m_results m_known m_reached m_way m_aside m_origin m_retreats m_contested m_moved m_past n co mp mt msh fh (mxI (tkR Ce fw fu) fw n) fu i9 (nI i) hlt912) (cwV 2 hts (tb_4 wd_945 wd_947 wp_70 wd_8 (tb_c wd_948)) rfl rfl rfl ⟨rfl, by decide, by decide, by decide +kernel⟩ ⟨Nat.le_of_ble_eq_true rfl, Nat.le_of_ble_eq_true rfl⟩) (tP_V hK hX (hS.2.1 aT hXl hXn) hPc (q := 0) rfl rfl) rfl rfl hl.1 rfl (lv_room (Nat.le_of_ble_eq_true rfl)) d_Mo_endTurn_127 ⟨Nat.le_of_ble_eq_true rfl, Nat.le_of_ble_eq_true rfl⟩)) (fun r33 hr9 => ?_)
                      rw [hr9]
                      rcases bI_c (decide (fh i9 = (nI i)) && decide ((mxI (tkR Ce fw fu) fw n) i9 = (nI i)) && decide (fu i9 < 0)) with ⟨hb35, e9⟩ | ⟨hb35, e9⟩
                      · refine tr_top e9 ?_
                        refine lv_if_eq (tgt := 137) hx hb d_Mo_endTurn_130 (by decide) (fun h0 => absurd h0 (by decide)) (fun _ => ?_)
                        refine lv_iconst (v := 1) hx hb d_Mo_endTurn_133 (by decide) ?_
                        refine lv_goto (tgt := 138) hx hb d_Mo_endTurn_134 (by decide) ?_
                        refine lv_istore_n (lv' := [(1, .int 1), (4, .int (nI i9)), (3, .int (mMs Ce (mxI (tkR Ce fw fu) fw n) fu n (nI i))), (2, .int (nI i)), (0, .ref g0)]) hx hb d_Mo_endTurn_138 rfl hl (by decide) rfl (fun ls hl => ?_)
                        refine lv_iinc (lv' := [(4, .int ((nI i9) + 1)), (1, .int 1), (3, .int (mMs Ce (mxI (tkR Ce fw fu) fw n) fu n (nI i))), (2, .int (nI i)), (0, .ref g0)]) hx hb d_Mo_endTurn_139 hl (k := 1) rfl rfl (by decide) rfl (fun ls hl => ?_)
                        refine lv_goto (tgt := 106) hx hb d_Mo_endTurn_142 (by decide) ?_
                        have e37 : (nI i9) + 1 = nI (i9 + 1) := nI_1 i9
                        have e38 : 1 = bI (anyB (mbR fh (mxI (tkR Ce fw fu) fw n) fu (nI i)) (i9 + 1) && !decide (mMs Ce (mxI (tkR Ce fw fu) fw n) fu n (nI i) ≤ 0)) := (bI_t (show ((anyB (mbR fh (mxI (tkR Ce fw fu) fw n) fu (nI i)) i9 || mbR fh (mxI (tkR Ce fw fu) fw n) fu (nI i) i9) && !decide (mMs Ce (mxI (tkR Ce fw fu) fw n) fu n (nI i) ≤ 0)) = true by (first | (simp [mbR, hb10, hc19, hb25, hc30, hb35]; done) | (have h9 := hb25; revert h9; cases anyB (mbR fh (mxI (tkR Ce fw fu) fw n) fu (nI i)) i9 <;> cases decide (mMs Ce (mxI (tkR Ce fw fu) fw n) fu n (nI i) ≤ 0) <;> simp [mbR, hb10, hc19, hc30, hb35])))).symm
                        exact ih9 (i9 + 1) ls (by omega) (by rw [← e37, ← e38]; exact lv_sub hl [0, 1, 2, 3, 4] rfl)
                      · refine tr_top e9 ?_
                        refine lv_if_eq (tgt := 137) hx hb d_Mo_endTurn_130 (by decide) (fun _ => ?_) (fun h0 => absurd (by decide) h0)
                        refine lv_iconst (v := 0) hx hb d_Mo_endTurn_137 (by decide) ?_
                        refine lv_istore_n (lv' := [(1, .int 0), (4, .int (nI i9)), (3, .int (mMs Ce (mxI (tkR Ce fw fu) fw n) fu n (nI i))), (2, .int (nI i)), (0, .ref g0)]) hx hb d_Mo_endTurn_138 rfl hl (by decide) rfl (fun ls hl => ?_)
                        refine lv_iinc (lv' := [(4, .int ((nI i9) + 1)), (1, .int 0), (3, .int (mMs Ce (mxI (tkR Ce fw fu) fw n) fu n (nI i))), (2, .int (nI i)), (0, .ref g0)]) hx hb d_Mo_endTurn_139 hl (k := 1) rfl rfl (by decide) rfl (fun ls hl => ?_)
                        refine lv_goto (tgt := 106) hx hb d_Mo_endTurn_142 (by decide) ?_
                        have e40 : (nI i9) + 1 = nI (i9 + 1) := nI_1 i9
                        have e41 : 0 = bI (anyB (mbR fh (mxI (tkR Ce fw fu) fw n) fu (nI i)) (i9 + 1) && !decide (mMs Ce (mxI (tkR Ce fw fu) fw n) fu n (nI i) ≤ 0)) := (bI_f (show ((anyB (mbR fh (mxI (tkR Ce fw fu) fw n) fu (nI i)) i9 || mbR fh (mxI (tkR Ce fw fu) fw n) fu (nI i) i9) && !decide (mMs Ce (mxI (tkR Ce fw fu) fw n) fu n (nI i) ≤ 0)) = false by (first | (simp [mbR, hb10, hc19, hb25, hc30, hb35]; done) | (have h9 := hb25; revert h9; cases anyB (mbR fh (mxI (tkR Ce fw fu) fw n) fu (nI i)) i9 <;> cases decide (mMs Ce (mxI (tkR Ce fw fu) fw n) fu n (nI i) ≤ 0) <;> simp [mbR, hb10, hc19, hc30, hb35])))).symm
                        exact ih9 (i9 + 1) ls (by omega) (by rw [← e40, ← e41]; exact lv_sub hl [0, 1, 2, 3, 4] rfl)
              exact nloop n 0 ls (Nat.zero_add _) hl
            · -- 94 not taken
              have hc19 : (mMs Ce (mxI (tkR Ce fw fu) fw n) fu n (nI i)) < 0 := Int32.not_le.mp hc19
              refine lv_iconst (v := 1) hx hb d_Mo_endTurn_97 (by decide) ?_
              refine lv_goto (tgt := 102) hx hb d_Mo_endTurn_98 (by decide) ?_
              refine lv_istore_n (lv' := [(1, .int 1), (3, .int (mMs Ce (mxI (tkR Ce fw fu) fw n) fu n (nI i))), (2, .int (nI i)), (0, .ref g0)]) hx hb d_Mo_endTurn_102 rfl hl (by decide) rfl (fun ls hl => ?_)
              refine lv_iconst (v := 0) hx hb d_Mo_endTurn_103 (by decide) ?_
              refine lv_istore (lv' := [(4, .int 0), (1, .int 1), (3, .int (mMs Ce (mxI (tkR Ce fw fu) fw n) fu n (nI i))), (2, .int (nI i)), (0, .ref g0)]) hx hb d_Mo_endTurn_104 hl (by decide) rfl (fun ls hl => ?_)
              have nloop : ∀ (k9 i9 : Nat) (ls : Array Slot), i9 + k9 = n → lv_has ls 5 [(4, .int (nI i9)), (1, .int 1), (3, .int (mMs Ce (mxI (tkR Ce fw fu) fw n) fu n (nI i))), (2, .int (nI i)), (0, .ref g0)] → W p l e (headSpec w_Mo_endTurn ({ frames := 1, cells := 0, slots := 0, locals := 24 })).room s m ([.ref g0]).toArray below meth c H locs 0 0 (MQ below (va_Qv (fun _ : Unit => True) (fun _ t => tB D A [(g0, .inr (6, [.int co, .int (nI n), .ref m_sea, .ref m_center, .ref m_home, .ref m_borders, .int 1, .int (mt + 1), .ref m_owner, .ref m_units, .ref m_kind, .ref m_toX, .ref m_toY, .ref m_results, .ref m_known, .ref m_reached, .ref m_way, .ref m_aside, .ref m_origin, .ref m_retreats, .ref m_contested, .ref m_moved, .int msh, .ref m_past])), (m_center, .inl (cZ, 12, .inl (fun j => bI (Ce j)))), (m_home, .inl (cI, 12, .inl fh)), (m_owner, .inl (cI, 12, .inl (mxI (tkR Ce fw fu) fw n))), (m_units, .inl (cI, 12, .inl fu)), (m_kind, .inl (cI, 12, .inl (fun _ => 0))), (m_toX, .inl (cI, 12, .inl (fun _ => 0))), (m_toY, .inl (cI, 12, .inl (fun _ => 0)))] t) A) ([.ref g0]).toArray s 0 0 A) (F0 m 106 ls []) := by
                intro k9
                induction k9 with
                | zero =>
                  intro i9 ls hi9 hl
                  have hie9 : i9 = n := by omega
                  rw [hie9] at hl
                  refine lv_iload hx hb d_Mo_endTurn_106 (lv_at hl 0 rfl) ?_
                  refine lv_aload_n hx hb d_Mo_endTurn_108 rfl (lv_at hl 4 rfl) ?_
                  refine va_get (D := D) (ci := 6) (v := .int (nI n)) (C := R_Mo) (T := T_Mo) (N := 24) hx hb hts hin_Mo hown hK hP 0 rfl rfl 1 (by decide) (hts _ wd_705) (fun _ h9 => h9) rfl d_Mo_endTurn_109 ?_
                  refine lv_icmp_ge (tgt := 145) hx hb d_Mo_endTurn_112 (by decide) (fun _ => ?_) (fun h0 => absurd (Int32.le_refl _) h0)
                  refine lv_iinc (lv' := [(2, .int ((nI i) + 1)), (4, .int (nI n)), (1, .int 1), (3, .int (mMs Ce (mxI (tkR Ce fw fu) fw n) fu n (nI i))), (0, .ref g0)]) hx hb d_Mo_endTurn_145 hl (k := 3) rfl rfl (by decide) rfl (fun ls hl => ?_)
                  refine lv_goto (tgt := 61) hx hb d_Mo_endTurn_148 (by decide) ?_
                  have e43 : (nI i) + 1 = nI (i + 1) := nI_1 i
                  have e44 : 1 = bI (anyB (bdR Ce fh (mxI (tkR Ce fw fu) fw n) fu n) (i + 1)) := (bI_t (show (anyB (bdR Ce fh (mxI (tkR Ce fw fu) fw n) fu n) i || bdR Ce fh (mxI (tkR Ce fw fu) fw n) fu n i) = true by simp [bdR, hb10, hc19])).symm
                  exact ih (i + 1) ls (by omega) (by rw [← e43, ← e44]; exact lv_sub hl [0, 2, 4] rfl)
                | succ k9 ih9 =>
                  intro i9 ls hi9 hl
                  have hlt9 : i9 < n := by omega
                  have hlt912 : i9 < 12 := by omega
                  refine lv_iload hx hb d_Mo_endTurn_106 (lv_at hl 0 rfl) ?_
                  refine lv_aload_n hx hb d_Mo_endTurn_108 rfl (lv_at hl 4 rfl) ?_
                  refine va_get (D := D) (ci := 6) (v := .int (nI n)) (C := R_Mo) (T := T_Mo) (N := 24) hx hb hts hin_Mo hown hK hP 0 rfl rfl 1 (by decide) (hts _ wd_705) (fun _ h9 => h9) rfl d_Mo_endTurn_109 ?_
                  refine lv_icmp_ge (tgt := 145) hx hb d_Mo_endTurn_112 (by decide) (fun h0 => absurd h0 (nI_ge hlt9 (by omega))) (fun _ => ?_)
                  refine lv_iload_n hx hb d_Mo_endTurn_115 rfl (lv_at hl 1 rfl) ?_
                  refine lv_if_ne (tgt := 133) hx hb d_Mo_endTurn_116 (by decide) (fun _ => ?_) (fun h0 => absurd h0 (by decide))
                  refine lv_iconst (v := 1) hx hb d_Mo_endTurn_133 (by decide) ?_
                  refine lv_goto (tgt := 138) hx hb d_Mo_endTurn_134 (by decide) ?_
                  refine lv_istore_n (lv' := [(1, .int 1), (4, .int (nI i9)), (3, .int (mMs Ce (mxI (tkR Ce fw fu) fw n) fu n (nI i))), (2, .int (nI i)), (0, .ref g0)]) hx hb d_Mo_endTurn_138 rfl hl (by decide) rfl (fun ls hl => ?_)
                  refine lv_iinc (lv' := [(4, .int ((nI i9) + 1)), (1, .int 1), (3, .int (mMs Ce (mxI (tkR Ce fw fu) fw n) fu n (nI i))), (2, .int (nI i)), (0, .ref g0)]) hx hb d_Mo_endTurn_139 hl (k := 1) rfl rfl (by decide) rfl (fun ls hl => ?_)
                  refine lv_goto (tgt := 106) hx hb d_Mo_endTurn_142 (by decide) ?_
                  have e47 : (nI i9) + 1 = nI (i9 + 1) := nI_1 i9
                  exact ih9 (i9 + 1) ls (by omega) (by rw [← e47]; exact lv_sub hl [0, 1, 2, 3, 4] rfl)
              exact nloop n 0 ls (Nat.zero_add _) hl
      exact loop 4 0 ls (Nat.zero_add _) hl
    | succ k ih =>
      intro i ls H locs hi hl hP hD hS
      have hlt : i < n := by omega
      have hlt12 : i < 12 := by omega
      refine lv_iload_n hx hb d_Mo_endTurn_2 rfl (lv_at hl 0 rfl) ?_
      refine lv_aload_n hx hb d_Mo_endTurn_3 rfl (lv_at hl 1 rfl) ?_
      refine va_get (D := D) (ci := 6) (v := .int (nI n)) (C := R_Mo) (T := T_Mo) (N := 24) hx hb hts hin_Mo hown hK hP 0 rfl rfl 1 (by decide) (hts _ wd_705) (fun _ h9 => h9) rfl d_Mo_endTurn_4 ?_
      refine lv_icmp_ge (tgt := 57) hx hb d_Mo_endTurn_7 (by decide) (fun h0 => absurd h0 (nI_ge hlt (by omega))) (fun _ => ?_)
      refine lv_aload_n hx hb d_Mo_endTurn_10 rfl (lv_at hl 1 rfl) ?_
      refine va_get (D := D) (ci := 6) (v := .int mt) (C := R_Mo) (T := T_Mo) (N := 24) hx hb hts hin_Mo hown hK hP 0 rfl rfl 7 (by decide) (hts _ wd_711) (fun _ h9 => h9) rfl d_Mo_endTurn_11 ?_
      refine lv_iconst (v := 2) hx hb d_Mo_endTurn_14 (by decide) ?_
      refine lv_irem hx hb d_Mo_endTurn_15 (by decide) ?_
      refine lv_if_ne (tgt := 51) hx hb d_Mo_endTurn_16 (by decide) (fun h0 => absurd hev h0) (fun _ => ?_)
      refine lv_aload_n hx hb d_Mo_endTurn_19 rfl (lv_at hl 1 rfl) ?_
      refine va_get (D := D) (ci := 6) (v := .ref m_center) (C := R_Mo) (T := T_Mo) (N := 24) hx hb hts hin_Mo hown hK hP 0 rfl rfl 3 (by decide) (hts _ wd_707) (fun _ h9 => h9) rfl d_Mo_endTurn_20 ?_
      refine lv_iload_n hx hb d_Mo_endTurn_23 rfl (lv_at hl 0 rfl) ?_
      refine tr_zald (v := bI (Ce i)) hx hb hK hP 1 1 rfl rfl i hlt12 (by decide) rfl d_Mo_endTurn_24 ?_
      rcases bI_c (Ce i) with ⟨hb51, e9⟩ | ⟨hb51, e9⟩
      · refine tr_top e9 ?_
        refine lv_if_eq (tgt := 51) hx hb d_Mo_endTurn_25 (by decide) (fun h0 => absurd h0 (by decide)) (fun _ => ?_)
        refine lv_aload_n hx hb d_Mo_endTurn_28 rfl (lv_at hl 1 rfl) ?_
        refine va_get (D := D) (ci := 6) (v := .ref m_units) (C := R_Mo) (T := T_Mo) (N := 24) hx hb hts hin_Mo hown hK hP 0 rfl rfl 9 (by decide) (hts _ wd_713) (fun _ h9 => h9) rfl d_Mo_endTurn_29 ?_
        refine lv_iload_n hx hb d_Mo_endTurn_32 rfl (lv_at hl 0 rfl) ?_
        refine tr_iald (v := fu i) hx hb hK hP 4 0 rfl rfl i hlt12 (by decide) rfl d_Mo_endTurn_33 ?_
        refine lv_if_lt (tgt := 51) hx hb d_Mo_endTurn_34 (by decide) (fun hc53 => ?_) (fun hc53 => ?_)
        · -- 34 taken
          refine lv_iinc (lv' := [(1, .int ((nI i) + 1)), (0, .ref g0)]) hx hb d_Mo_endTurn_51 hl (k := 0) rfl rfl (by decide) rfl (fun ls hl => ?_)
          refine lv_goto (tgt := 2) hx hb d_Mo_endTurn_54 (by decide) ?_
          have e54 : (nI i) + 1 = nI (i + 1) := nI_1 i
          have eo55 : (mxI (tkR Ce fw fu) fw i) = (mxI (tkR Ce fw fu) fw (i + 1)) := mxI_k (by simp [tkR, hb51, hc53])
          exact ih (i + 1) ls H locs (by omega) (by rw [← e54]; exact lv_sub hl [0, 1] rfl) (by rw [← eo55]; exact hP) (by rw [← eo55]; exact hD) hS
        · -- 34 not taken
          refine lv_aload_n hx hb d_Mo_endTurn_37 rfl (lv_at hl 1 rfl) ?_
          refine va_get (D := D) (ci := 6) (v := .ref m_owner) (C := R_Mo) (T := T_Mo) (N := 24) hx hb hts hin_Mo hown hK hP 0 rfl rfl 8 (by decide) (hts _ wd_712) (fun _ h9 => h9) rfl d_Mo_endTurn_38 ?_
          refine lv_iload_n hx hb d_Mo_endTurn_41 rfl (lv_at hl 0 rfl) ?_
          refine lv_aload_n hx hb d_Mo_endTurn_42 rfl (lv_at hl 1 rfl) ?_
          refine va_get (D := D) (ci := 6) (v := .ref m_units) (C := R_Mo) (T := T_Mo) (N := 24) hx hb hts hin_Mo hown hK hP 0 rfl rfl 9 (by decide) (hts _ wd_713) (fun _ h9 => h9) rfl d_Mo_endTurn_43 ?_
          refine lv_iload_n hx hb d_Mo_endTurn_46 rfl (lv_at hl 0 rfl) ?_
          refine tr_iald (v := fu i) hx hb hK hP 4 0 rfl rfl i hlt12 (by decide) rfl d_Mo_endTurn_47 ?_
          refine lv_iconst (v := 2) hx hb d_Mo_endTurn_48 (by decide) ?_
          refine lv_idiv hx hb d_Mo_endTurn_49 (by decide) ?_
          refine tr_iast (g := upd (mxI (tkR Ce fw fu) fw i) i ((fu i) / 2)) hx hb hK hP hD hS 3 0 rfl rfl i hlt12 (by decide) rfl d_Mo_endTurn_50 (fun H locs hP hD hS => ?_)
          have hP : va_P D vwCl [(g0, .inr (6, [.int co, .int (nI n), .ref m_sea, .ref m_center, .ref m_home, .ref m_borders, .int mp, .int mt, .ref m_owner, .ref m_units, .ref m_kind, .ref m_toX, .ref m_toY, .ref m_results, .ref m_known, .ref m_reached, .ref m_way, .ref m_aside, .ref m_origin, .ref m_retreats, .ref m_contested, .ref m_moved, .int msh, .ref m_past])), (m_center, .inl (cZ, 12, .inl (fun j => bI (Ce j)))), (m_home, .inl (cI, 12, .inl fh)), (m_owner, .inl (cI, 12, .inl (upd (mxI (tkR Ce fw fu) fw i) i ((fu i) / 2)))), (m_units, .inl (cI, 12, .inl fu)), (m_kind, .inl (cI, 12, .inl (fun j => nI (Kd j)))), (m_toX, .inl (cI, 12, .inl (fun j => nI (X j)))), (m_toY, .inl (cI, 12, .inl (fun j => nI (Y j))))] H := hP
          have hD : va_D A [(g0, .inr (6, [.int co, .int (nI n), .ref m_sea, .ref m_center, .ref m_home, .ref m_borders, .int mp, .int mt, .ref m_owner, .ref m_units, .ref m_kind, .ref m_toX, .ref m_toY, .ref m_results, .ref m_known, .ref m_reached, .ref m_way, .ref m_aside, .ref m_origin, .ref m_retreats, .ref m_contested, .ref m_moved, .int msh, .ref m_past])), (m_center, .inl (cZ, 12, .inl (fun j => bI (Ce j)))), (m_home, .inl (cI, 12, .inl fh)), (m_owner, .inl (cI, 12, .inl (upd (mxI (tkR Ce fw fu) fw i) i ((fu i) / 2)))), (m_units, .inl (cI, 12, .inl fu)), (m_kind, .inl (cI, 12, .inl (fun j => nI (Kd j)))), (m_toX, .inl (cI, 12, .inl (fun j => nI (X j)))), (m_toY, .inl (cI, 12, .inl (fun j => nI (Y j))))] := hD
          refine lv_iinc (lv' := [(1, .int ((nI i) + 1)), (0, .ref g0)]) hx hb d_Mo_endTurn_51 hl (k := 0) rfl rfl (by decide) rfl (fun ls hl => ?_)
          refine lv_goto (tgt := 2) hx hb d_Mo_endTurn_54 (by decide) ?_
          have e56 : (nI i) + 1 = nI (i + 1) := nI_1 i
          have eo57 : (upd (mxI (tkR Ce fw fu) fw i) i ((fu i) / 2)) = (mxI (tkR Ce fw fu) fw (i + 1)) := mxI_s (by simp [tkR, mxI_at, hb51, hc53])
          exact ih (i + 1) ls H locs (by omega) (by rw [← e56]; exact lv_sub hl [0, 1] rfl) (by rw [← eo57]; exact hP) (by rw [← eo57]; exact hD) hS
      · refine tr_top e9 ?_
        refine lv_if_eq (tgt := 51) hx hb d_Mo_endTurn_25 (by decide) (fun _ => ?_) (fun h0 => absurd (by decide) h0)
        refine lv_iinc (lv' := [(1, .int ((nI i) + 1)), (0, .ref g0)]) hx hb d_Mo_endTurn_51 hl (k := 0) rfl rfl (by decide) rfl (fun ls hl => ?_)
        refine lv_goto (tgt := 2) hx hb d_Mo_endTurn_54 (by decide) ?_
        have e59 : (nI i) + 1 = nI (i + 1) := nI_1 i
        have eo60 : (mxI (tkR Ce fw fu) fw i) = (mxI (tkR Ce fw fu) fw (i + 1)) := mxI_k (by simp [tkR, hb51])
        exact ih (i + 1) ls H locs (by omega) (by rw [← e59]; exact lv_sub hl [0, 1] rfl) (by rw [← eo60]; exact hP) (by rw [← eo60]; exact hD) hS
  have ei61 : (mxI (tkR Ce fw fu) fw 0) = (fw) := mxI_0 _ _
  exact loop n 0 ls _ _ (Nat.zero_add _) hl (by rw [ei61]; exact hP) (by rw [ei61]; exact hD) hS
