
set_option maxHeartbeats 4000000 in
set_option maxRecDepth 100000 in
theorem c_Mo_border0 (l : Launch) (D : va_G) (cI cZ cJ cS : ClassId) (aT : Nat) (ceT : Cell) (sz : Nat) (g0 m_sea m_center m_home m_borders m_owner m_units m_kind m_toX m_toY m_results m_known m_reached m_way m_aside m_origin m_retreats m_contested m_moved m_past : Nat) (n : Nat) (co mt msh : Int32) (Bo : Nat → Bool) (a b : Nat) (hn : n ≤ 12) (h_a : a < n) (h_b : b < n) (hab : ¬ a = b) (hbo : Bo (12 * a + b) = true) : Met l y_Mo_border w_Mo_border ({ frames := 1, cells := 0, slots := 0, locals := 22 }) (tH D cI cZ cJ cS aT ceT [.ref g0, .int (nI a), .int (nI b)] sz [(g0, .inr (6, [.int co, .int (nI n), .ref m_sea, .ref m_center, .ref m_home, .ref m_borders, .int 0, .int mt, .ref m_owner, .ref m_units, .ref m_kind, .ref m_toX, .ref m_toY, .ref m_results, .ref m_known, .ref m_reached, .ref m_way, .ref m_aside, .ref m_origin, .ref m_retreats, .ref m_contested, .ref m_moved, .int msh, .ref m_past])), (m_borders, .inl (cZ, 144, .inl (fun j => bI (Bo j))))]) (va_Qi (fun (r : Int32) (_ : Unit) => r = 0) (fun _ t => tB D (va_A [(g0, .inr (6, [.int co, .int (nI n), .ref m_sea, .ref m_center, .ref m_home, .ref m_borders, .int 0, .int mt, .ref m_owner, .ref m_units, .ref m_kind, .ref m_toX, .ref m_toY, .ref m_results, .ref m_known, .ref m_reached, .ref m_way, .ref m_aside, .ref m_origin, .ref m_retreats, .ref m_contested, .ref m_moved, .int msh, .ref m_past])), (m_borders, .inl (cZ, 144, .inl (fun j => bI (Bo j))))] sz) [(g0, .inr (6, [.int 0, .int (nI n), .ref m_sea, .ref m_center, .ref m_home, .ref m_borders, .int 0, .int mt, .ref m_owner, .ref m_units, .ref m_kind, .ref m_toX, .ref m_toY, .ref m_results, .ref m_known, .ref m_reached, .ref m_way, .ref m_aside, .ref m_origin, .ref m_retreats, .ref m_contested, .ref m_moved, .int msh, .ref m_past])), (m_borders, .inl (cZ, 144, .inl (fun j => bI (Bo j))))] t) (va_A [(g0, .inr (6, [.int co, .int (nI n), .ref m_sea, .ref m_center, .ref m_home, .ref m_borders, .int 0, .int mt, .ref m_owner, .ref m_units, .ref m_kind, .ref m_toX, .ref m_toY, .ref m_results, .ref m_known, .ref m_reached, .ref m_way, .ref m_aside, .ref m_origin, .ref m_retreats, .ref m_contested, .ref m_moved, .int msh, .ref m_past])), (m_borders, .inl (cZ, 144, .inl (fun j => bI (Bo j))))] sz)) 0 0 (va_A [(g0, .inr (6, [.int co, .int (nI n), .ref m_sea, .ref m_center, .ref m_home, .ref m_borders, .int 0, .int mt, .ref m_owner, .ref m_units, .ref m_kind, .ref m_toX, .ref m_toY, .ref m_results, .ref m_known, .ref m_reached, .ref m_way, .ref m_aside, .ref m_origin, .ref m_retreats, .ref m_contested, .ref m_moved, .int msh, .ref m_past])), (m_borders, .inl (cZ, 144, .inl (fun j => bI (Bo j))))] sz) := by
  refine Met.ofW (cc := b_Mo_border) (maxL := 3) (ret := (some .boolean)) (by decide) rfl ?_
  intro p e s m args below meth c s₁ B hml hv
  obtain ⟨rfl, hsz, hP, hK, hD0, hX⟩ := hv
  have hx := B.exec
  have hb := B.bytes
  have hr := B.returns
  have hts0 := atoms_spec (ws := w_Mo_border) B.pre
  have hts : ∀ w ∈ TB, w.before _ s = true := fun w h => hts0 w (List.mem_cons_of_mem _ h)
  have hown : s.vm.findClass R_Mo = some m.cls := findClass_of_methodNamed B.named
  have hlocks := B.notSynchronized
  subst hsz
  have hXl := tx_lt hX
  have hXn := tx_far hP hX
  have hD := hD0.self (sz := s.heap.size)
  generalize hAe : va_A [(g0, .inr (6, [.int co, .int (nI n), .ref m_sea, .ref m_center, .ref m_home, .ref m_borders, .int 0, .int mt, .ref m_owner, .ref m_units, .ref m_kind, .ref m_toX, .ref m_toY, .ref m_results, .ref m_known, .ref m_reached, .ref m_way, .ref m_aside, .ref m_origin, .ref m_retreats, .ref m_contested, .ref m_moved, .int msh, .ref m_past])), (m_borders, .inl (cZ, 144, .inl (fun j => bI (Bo j))))] s.heap.size = A at hD hXn ⊢
  have hA : ∀ q : Nat, s.heap.size ≤ q → A q := fun q h => by rw [← hAe]; exact Or.inr h
  have hS : va_S A s.heap s.heap [] := va_S.rf
  have hXH : s.heap[aT]? = s.heap[aT]? := rfl
  have hl := lv_entry ([.ref g0, .int (nI a), .int (nI b)]) (n := 3) (Nat.le_of_ble_eq_true rfl)
  rw [lg_entry_eq]
  generalize (lg_sl ([.ref g0, .int (nI a), .int (nI b)]) ++ List.replicate (3 - (lg_sl ([.ref g0, .int (nI a), .int (nI b)])).length) Slot.unset).toArray = ls at hl ⊢
  have hl : lv_has ls 3 [(0, .ref g0), (1, .int (nI a)), (2, .int (nI b))] := hl
  refine lv_aload_n hx hb d_Mo_border_0 rfl (lv_at hl 0 rfl) ?_
  refine lv_aload_n hx hb d_Mo_border_1 rfl (lv_at hl 0 rfl) ?_
  refine lv_iload_n hx hb d_Mo_border_2 rfl (lv_at hl 1 rfl) ?_
  have hPc := hP.sub (ws' := [(g0, .inr (6, [.int co, .int (nI n), .ref m_sea, .ref m_center, .ref m_home, .ref m_borders, .int 0, .int mt, .ref m_owner, .ref m_units, .ref m_kind, .ref m_toX, .ref m_toY, .ref m_results, .ref m_known, .ref m_reached, .ref m_way, .ref m_aside, .ref m_origin, .ref m_retreats, .ref m_contested, .ref m_moved, .int msh, .ref m_past]))]) [0] rfl
  refine vp_callSi (va_Run.run (va_runV (As := [.int (nI a)]) (rest := [.ref g0]) ⟨hx, hb, hml, hown, hts⟩ (c_Mo_isAreaY l D cI cZ cJ cS aT ceT  g0 m_sea m_center m_home m_borders m_owner m_units m_kind m_toX m_toY m_results m_known m_reached m_way m_aside m_origin m_retreats m_contested m_moved m_past n co 0 mt msh a hn h_a) (cwV 1 hts (tb_4 wd_790 wd_792 wp_36 wd_8 (tb_c wd_793)) rfl rfl rfl ⟨rfl, by decide, by decide, by decide +kernel⟩ ⟨Nat.le_of_ble_eq_true rfl, Nat.le_of_ble_eq_true rfl⟩) (tP_V hK hX (hS.2.1 aT hXl hXn) hPc (q := 0) rfl rfl) rfl rfl hl.1 rfl (lv_room (Nat.le_of_ble_eq_true rfl)) d_Mo_border_3 ⟨Nat.le_of_ble_eq_true rfl, Nat.le_of_ble_eq_true rfl⟩)) (fun r1 hr9 => ?_)
  rw [hr9]
  refine lv_if_eq (tgt := 22) hx hb d_Mo_border_6 (by decide) (fun h0 => absurd h0 (by decide)) (fun _ => ?_)
  refine lv_aload_n hx hb d_Mo_border_9 rfl (lv_at hl 0 rfl) ?_
  refine lv_iload_n hx hb d_Mo_border_10 rfl (lv_at hl 2 rfl) ?_
  have hPc := hP.sub (ws' := [(g0, .inr (6, [.int co, .int (nI n), .ref m_sea, .ref m_center, .ref m_home, .ref m_borders, .int 0, .int mt, .ref m_owner, .ref m_units, .ref m_kind, .ref m_toX, .ref m_toY, .ref m_results, .ref m_known, .ref m_reached, .ref m_way, .ref m_aside, .ref m_origin, .ref m_retreats, .ref m_contested, .ref m_moved, .int msh, .ref m_past]))]) [0] rfl
  refine vp_callSi (va_Run.run (va_runV (As := [.int (nI b)]) (rest := [.ref g0]) ⟨hx, hb, hml, hown, hts⟩ (c_Mo_isAreaY l D cI cZ cJ cS aT ceT  g0 m_sea m_center m_home m_borders m_owner m_units m_kind m_toX m_toY m_results m_known m_reached m_way m_aside m_origin m_retreats m_contested m_moved m_past n co 0 mt msh b hn h_b) (cwV 1 hts (tb_4 wd_790 wd_792 wp_36 wd_8 (tb_c wd_793)) rfl rfl rfl ⟨rfl, by decide, by decide, by decide +kernel⟩ ⟨Nat.le_of_ble_eq_true rfl, Nat.le_of_ble_eq_true rfl⟩) (tP_V hK hX (hS.2.1 aT hXl hXn) hPc (q := 0) rfl rfl) rfl rfl hl.1 rfl (lv_room (Nat.le_of_ble_eq_true rfl)) d_Mo_border_11 ⟨Nat.le_of_ble_eq_true rfl, Nat.le_of_ble_eq_true rfl⟩)) (fun r3 hr9 => ?_)
  rw [hr9]
  refine lv_if_eq (tgt := 22) hx hb d_Mo_border_14 (by decide) (fun h0 => absurd h0 (by decide)) (fun _ => ?_)
  refine lv_iload_n hx hb d_Mo_border_17 rfl (lv_at hl 1 rfl) ?_
  refine lv_iload_n hx hb d_Mo_border_18 rfl (lv_at hl 2 rfl) ?_
  refine lv_icmp_ne (tgt := 26) hx hb d_Mo_border_19 (by decide) (fun _ => ?_) (fun h0 => absurd ((nI_lit (Nat.lt_trans (Nat.lt_of_lt_of_le h_a hn) (by decide)) (Nat.lt_trans (Nat.lt_of_lt_of_le h_b hn) (by decide))).mp h0) hab)
  refine lv_aload_n hx hb d_Mo_border_26 rfl (lv_at hl 0 rfl) ?_
  refine va_get (D := D) (ci := 6) (v := .int 0) (C := R_Mo) (T := T_Mo) (N := 24) hx hb hts hin_Mo hown hK hP 0 rfl rfl 6 (by decide) (hts _ wd_710) (fun _ h9 => h9) rfl d_Mo_border_27 ?_
  refine lv_if_eq (tgt := 37) hx hb d_Mo_border_30 (by decide) (fun _ => ?_) (fun h0 => absurd (by decide) h0)
  refine lv_iconst (v := 0) hx hb d_Mo_border_37 (by decide) ?_
  refine va_put (D := D) (ci := 6) (v := .int 0) (ty := .int) (C := R_Mo) (T := T_Mo) (N := 24) hx hb hts hin_Mo ty_Mo tyok_Mo nm_Mo hown hK hP hD hS 0 rfl rfl 0 (by decide) (hts _ wd_704) (fun _ h9 => h9) rfl (by decide +kernel) rfl rfl (Nat.le_of_ble_eq_true rfl) d_Mo_border_38 (fun H locs hP hD hS => ?_)
  have hP : va_P D vwCl [(g0, .inr (6, [.int 0, .int (nI n), .ref m_sea, .ref m_center, .ref m_home, .ref m_borders, .int 0, .int mt, .ref m_owner, .ref m_units, .ref m_kind, .ref m_toX, .ref m_toY, .ref m_results, .ref m_known, .ref m_reached, .ref m_way, .ref m_aside, .ref m_origin, .ref m_retreats, .ref m_contested, .ref m_moved, .int msh, .ref m_past])), (m_borders, .inl (cZ, 144, .inl (fun j => bI (Bo j))))] H := hP
  have hD : va_D A [(g0, .inr (6, [.int 0, .int (nI n), .ref m_sea, .ref m_center, .ref m_home, .ref m_borders, .int 0, .int mt, .ref m_owner, .ref m_units, .ref m_kind, .ref m_toX, .ref m_toY, .ref m_results, .ref m_known, .ref m_reached, .ref m_way, .ref m_aside, .ref m_origin, .ref m_retreats, .ref m_contested, .ref m_moved, .int msh, .ref m_past])), (m_borders, .inl (cZ, 144, .inl (fun j => bI (Bo j))))] := hD
  refine lv_aload_n hx hb d_Mo_border_41 rfl (lv_at hl 0 rfl) ?_
  refine va_get (D := D) (ci := 6) (v := .int 0) (C := R_Mo) (T := T_Mo) (N := 24) hx hb hts hin_Mo hown hK hP 0 rfl rfl 0 (by decide) (hts _ wd_704) (fun _ h9 => h9) rfl d_Mo_border_42 ?_
  refine lv_if_ne (tgt := 57) hx hb d_Mo_border_45 (by decide) (fun h0 => absurd (by decide) h0) (fun _ => ?_)
  refine lv_aload_n hx hb d_Mo_border_48 rfl (lv_at hl 0 rfl) ?_
  refine lv_iload_n hx hb d_Mo_border_49 rfl (lv_at hl 1 rfl) ?_
  refine lv_iload_n hx hb d_Mo_border_50 rfl (lv_at hl 2 rfl) ?_
  have hPc := hP.sub (ws' := [(g0, .inr (6, [.int 0, .int (nI n), .ref m_sea, .ref m_center, .ref m_home, .ref m_borders, .int 0, .int mt, .ref m_owner, .ref m_units, .ref m_kind, .ref m_toX, .ref m_toY, .ref m_results, .ref m_known, .ref m_reached, .ref m_way, .ref m_aside, .ref m_origin, .ref m_retreats, .ref m_contested, .ref m_moved, .int msh, .ref m_past])), (m_borders, .inl (cZ, 144, .inl (fun j => bI (Bo j))))]) [0, 1] rfl
  refine vp_callSi (va_Run.run (va_runV (As := [.int (nI a), .int (nI b)]) (rest := []) ⟨hx, hb, hml, hown, hts⟩ (c_Mo_border2 l D cI cZ cJ cS aT ceT  g0 m_sea m_center m_home m_borders m_owner m_units m_kind m_toX m_toY m_results m_known m_reached m_way m_aside m_origin m_retreats m_contested m_moved m_past n 0 0 mt msh Bo a b (Nat.lt_of_lt_of_le h_a hn) (Nat.lt_of_lt_of_le h_b hn)) (cwV 2 hts (tb_4 wd_794 wd_796 wp_37 wd_8 (tb_c wd_797)) rfl rfl rfl ⟨rfl, by decide, by decide, by decide +kernel⟩ ⟨Nat.le_of_ble_eq_true rfl, Nat.le_of_ble_eq_true rfl⟩) (tP_V hK hX (hS.2.1 aT hXl hXn) hPc (q := 0) rfl rfl) rfl rfl hl.1 rfl (lv_room (Nat.le_of_ble_eq_true rfl)) d_Mo_border_51 ⟨Nat.le_of_ble_eq_true rfl, Nat.le_of_ble_eq_true rfl⟩)) (fun r8 hr9 => ?_)
  rw [hr9]
  refine tr_top (bI_t hbo) ?_
  refine lv_if_eq (tgt := 59) hx hb d_Mo_border_54 (by decide) (fun h0 => absurd h0 (by decide)) (fun _ => ?_)
  refine lv_iconst (v := 0) hx hb d_Mo_border_57 (by decide) ?_
  have hP9 := hP.sub (ws' := [(g0, .inr (6, [.int 0, .int (nI n), .ref m_sea, .ref m_center, .ref m_home, .ref m_borders, .int 0, .int mt, .ref m_owner, .ref m_units, .ref m_kind, .ref m_toX, .ref m_toY, .ref m_results, .ref m_known, .ref m_reached, .ref m_way, .ref m_aside, .ref m_origin, .ref m_retreats, .ref m_contested, .ref m_moved, .int msh, .ref m_past])), (m_borders, .inl (cZ, 144, .inl (fun j => bI (Bo j))))]) [0, 1] rfl
  have hD9 := hD.sub (ws' := [(g0, .inr (6, [.int 0, .int (nI n), .ref m_sea, .ref m_center, .ref m_home, .ref m_borders, .int 0, .int mt, .ref m_owner, .ref m_units, .ref m_kind, .ref m_toX, .ref m_toY, .ref m_results, .ref m_known, .ref m_reached, .ref m_way, .ref m_aside, .ref m_origin, .ref m_retreats, .ref m_contested, .ref m_moved, .int msh, .ref m_past])), (m_borders, .inl (cZ, 144, .inl (fun j => bI (Bo j))))]) [0, 1] (by decide) rfl
  exact W.zret (v := 0) hx hb hr (by decide) (fun t ht hW => ⟨⟨0, (), rfl, rfl, by rw [ht]; exact hP9, hD9⟩, hS.F ht⟩) hS.2.2 d_Mo_border_58


set_option maxHeartbeats 4000000 in
set_option maxRecDepth 100000 in
theorem c_Mo_border1 (l : Launch) (D : va_G) (cI cZ cJ cS : ClassId) (aT : Nat) (ceT : Cell) (sz : Nat) (g0 m_sea m_center m_home m_borders m_owner m_units m_kind m_toX m_toY m_results m_known m_reached m_way m_aside m_origin m_retreats m_contested m_moved m_past : Nat) (n : Nat) (co mt msh : Int32) (Bo : Nat → Bool) (a b : Nat) (hn : n ≤ 12) (h_a : a < n) (h_b : b < n) (hab : ¬ a = b) (hbo : Bo (12 * a + b) = false) : Met l y_Mo_border w_Mo_border ({ frames := 1, cells := 0, slots := 0, locals := 22 }) (tH D cI cZ cJ cS aT ceT [.ref g0, .int (nI a), .int (nI b)] sz [(g0, .inr (6, [.int co, .int (nI n), .ref m_sea, .ref m_center, .ref m_home, .ref m_borders, .int 0, .int mt, .ref m_owner, .ref m_units, .ref m_kind, .ref m_toX, .ref m_toY, .ref m_results, .ref m_known, .ref m_reached, .ref m_way, .ref m_aside, .ref m_origin, .ref m_retreats, .ref m_contested, .ref m_moved, .int msh, .ref m_past])), (m_borders, .inl (cZ, 144, .inl (fun j => bI (Bo j))))]) (va_Qi (fun (r : Int32) (_ : Unit) => r = 1) (fun _ t => tB D (va_A [(g0, .inr (6, [.int co, .int (nI n), .ref m_sea, .ref m_center, .ref m_home, .ref m_borders, .int 0, .int mt, .ref m_owner, .ref m_units, .ref m_kind, .ref m_toX, .ref m_toY, .ref m_results, .ref m_known, .ref m_reached, .ref m_way, .ref m_aside, .ref m_origin, .ref m_retreats, .ref m_contested, .ref m_moved, .int msh, .ref m_past])), (m_borders, .inl (cZ, 144, .inl (fun j => bI (Bo j))))] sz) [(g0, .inr (6, [.int 0, .int (nI n), .ref m_sea, .ref m_center, .ref m_home, .ref m_borders, .int 0, .int mt, .ref m_owner, .ref m_units, .ref m_kind, .ref m_toX, .ref m_toY, .ref m_results, .ref m_known, .ref m_reached, .ref m_way, .ref m_aside, .ref m_origin, .ref m_retreats, .ref m_contested, .ref m_moved, .int msh, .ref m_past])), (m_borders, .inl (cZ, 144, .inl (fun j => bI (upB (fun j => upB Bo (12 * a + b) true j) (12 * b + a) true j))))] t) (va_A [(g0, .inr (6, [.int co, .int (nI n), .ref m_sea, .ref m_center, .ref m_home, .ref m_borders, .int 0, .int mt, .ref m_owner, .ref m_units, .ref m_kind, .ref m_toX, .ref m_toY, .ref m_results, .ref m_known, .ref m_reached, .ref m_way, .ref m_aside, .ref m_origin, .ref m_retreats, .ref m_contested, .ref m_moved, .int msh, .ref m_past])), (m_borders, .inl (cZ, 144, .inl (fun j => bI (Bo j))))] sz)) 0 0 (va_A [(g0, .inr (6, [.int co, .int (nI n), .ref m_sea, .ref m_center, .ref m_home, .ref m_borders, .int 0, .int mt, .ref m_owner, .ref m_units, .ref m_kind, .ref m_toX, .ref m_toY, .ref m_results, .ref m_known, .ref m_reached, .ref m_way, .ref m_aside, .ref m_origin, .ref m_retreats, .ref m_contested, .ref m_moved, .int msh, .ref m_past])), (m_borders, .inl (cZ, 144, .inl (fun j => bI (Bo j))))] sz) := by
  refine Met.ofW (cc := b_Mo_border) (maxL := 3) (ret := (some .boolean)) (by decide) rfl ?_
  intro p e s m args below meth c s₁ B hml hv
  obtain ⟨rfl, hsz, hP, hK, hD0, hX⟩ := hv
  have hx := B.exec
  have hb := B.bytes
  have hr := B.returns
  have hts0 := atoms_spec (ws := w_Mo_border) B.pre
  have hts : ∀ w ∈ TB, w.before _ s = true := fun w h => hts0 w (List.mem_cons_of_mem _ h)
  have hown : s.vm.findClass R_Mo = some m.cls := findClass_of_methodNamed B.named
  have hlocks := B.notSynchronized
  subst hsz
  have hXl := tx_lt hX
  have hXn := tx_far hP hX
  have hD := hD0.self (sz := s.heap.size)
  generalize hAe : va_A [(g0, .inr (6, [.int co, .int (nI n), .ref m_sea, .ref m_center, .ref m_home, .ref m_borders, .int 0, .int mt, .ref m_owner, .ref m_units, .ref m_kind, .ref m_toX, .ref m_toY, .ref m_results, .ref m_known, .ref m_reached, .ref m_way, .ref m_aside, .ref m_origin, .ref m_retreats, .ref m_contested, .ref m_moved, .int msh, .ref m_past])), (m_borders, .inl (cZ, 144, .inl (fun j => bI (Bo j))))] s.heap.size = A at hD hXn ⊢
  have hA : ∀ q : Nat, s.heap.size ≤ q → A q := fun q h => by rw [← hAe]; exact Or.inr h
  have hS : va_S A s.heap s.heap [] := va_S.rf
  have hXH : s.heap[aT]? = s.heap[aT]? := rfl
  have hl := lv_entry ([.ref g0, .int (nI a), .int (nI b)]) (n := 3) (Nat.le_of_ble_eq_true rfl)
  rw [lg_entry_eq]
  generalize (lg_sl ([.ref g0, .int (nI a), .int (nI b)]) ++ List.replicate (3 - (lg_sl ([.ref g0, .int (nI a), .int (nI b)])).length) Slot.unset).toArray = ls at hl ⊢
  have hl : lv_has ls 3 [(0, .ref g0), (1, .int (nI a)), (2, .int (nI b))] := hl
  refine lv_aload_n hx hb d_Mo_border_0 rfl (lv_at hl 0 rfl) ?_
  refine lv_aload_n hx hb d_Mo_border_1 rfl (lv_at hl 0 rfl) ?_
  refine lv_iload_n hx hb d_Mo_border_2 rfl (lv_at hl 1 rfl) ?_
  have hPc := hP.sub (ws' := [(g0, .inr (6, [.int co, .int (nI n), .ref m_sea, .ref m_center, .ref m_home, .ref m_borders, .int 0, .int mt, .ref m_owner, .ref m_units, .ref m_kind, .ref m_toX, .ref m_toY, .ref m_results, .ref m_known, .ref m_reached, .ref m_way, .ref m_aside, .ref m_origin, .ref m_retreats, .ref m_contested, .ref m_moved, .int msh, .ref m_past]))]) [0] rfl
  refine vp_callSi (va_Run.run (va_runV (As := [.int (nI a)]) (rest := [.ref g0]) ⟨hx, hb, hml, hown, hts⟩ (c_Mo_isAreaY l D cI cZ cJ cS aT ceT  g0 m_sea m_center m_home m_borders m_owner m_units m_kind m_toX m_toY m_results m_known m_reached m_way m_aside m_origin m_retreats m_contested m_moved m_past n co 0 mt msh a hn h_a) (cwV 1 hts (tb_4 wd_790 wd_792 wp_36 wd_8 (tb_c wd_793)) rfl rfl rfl ⟨rfl, by decide, by decide, by decide +kernel⟩ ⟨Nat.le_of_ble_eq_true rfl, Nat.le_of_ble_eq_true rfl⟩) (tP_V hK hX (hS.2.1 aT hXl hXn) hPc (q := 0) rfl rfl) rfl rfl hl.1 rfl (lv_room (Nat.le_of_ble_eq_true rfl)) d_Mo_border_3 ⟨Nat.le_of_ble_eq_true rfl, Nat.le_of_ble_eq_true rfl⟩)) (fun r1 hr9 => ?_)
  rw [hr9]
  refine lv_if_eq (tgt := 22) hx hb d_Mo_border_6 (by decide) (fun h0 => absurd h0 (by decide)) (fun _ => ?_)
  refine lv_aload_n hx hb d_Mo_border_9 rfl (lv_at hl 0 rfl) ?_
  refine lv_iload_n hx hb d_Mo_border_10 rfl (lv_at hl 2 rfl) ?_
  have hPc := hP.sub (ws' := [(g0, .inr (6, [.int co, .int (nI n), .ref m_sea, .ref m_center, .ref m_home, .ref m_borders, .int 0, .int mt, .ref m_owner, .ref m_units, .ref m_kind, .ref m_toX, .ref m_toY, .ref m_results, .ref m_known, .ref m_reached, .ref m_way, .ref m_aside, .ref m_origin, .ref m_retreats, .ref m_contested, .ref m_moved, .int msh, .ref m_past]))]) [0] rfl
  refine vp_callSi (va_Run.run (va_runV (As := [.int (nI b)]) (rest := [.ref g0]) ⟨hx, hb, hml, hown, hts⟩ (c_Mo_isAreaY l D cI cZ cJ cS aT ceT  g0 m_sea m_center m_home m_borders m_owner m_units m_kind m_toX m_toY m_results m_known m_reached m_way m_aside m_origin m_retreats m_contested m_moved m_past n co 0 mt msh b hn h_b) (cwV 1 hts (tb_4 wd_790 wd_792 wp_36 wd_8 (tb_c wd_793)) rfl rfl rfl ⟨rfl, by decide, by decide, by decide +kernel⟩ ⟨Nat.le_of_ble_eq_true rfl, Nat.le_of_ble_eq_true rfl⟩) (tP_V hK hX (hS.2.1 aT hXl hXn) hPc (q := 0) rfl rfl) rfl rfl hl.1 rfl (lv_room (Nat.le_of_ble_eq_true rfl)) d_Mo_border_11 ⟨Nat.le_of_ble_eq_true rfl, Nat.le_of_ble_eq_true rfl⟩)) (fun r3 hr9 => ?_)
  rw [hr9]
  refine lv_if_eq (tgt := 22) hx hb d_Mo_border_14 (by decide) (fun h0 => absurd h0 (by decide)) (fun _ => ?_)
  refine lv_iload_n hx hb d_Mo_border_17 rfl (lv_at hl 1 rfl) ?_
  refine lv_iload_n hx hb d_Mo_border_18 rfl (lv_at hl 2 rfl) ?_
  refine lv_icmp_ne (tgt := 26) hx hb d_Mo_border_19 (by decide) (fun _ => ?_) (fun h0 => absurd ((nI_lit (Nat.lt_trans (Nat.lt_of_lt_of_le h_a hn) (by decide)) (Nat.lt_trans (Nat.lt_of_lt_of_le h_b hn) (by decide))).mp h0) hab)
  refine lv_aload_n hx hb d_Mo_border_26 rfl (lv_at hl 0 rfl) ?_
  refine va_get (D := D) (ci := 6) (v := .int 0) (C := R_Mo) (T := T_Mo) (N := 24) hx hb hts hin_Mo hown hK hP 0 rfl rfl 6 (by decide) (hts _ wd_710) (fun _ h9 => h9) rfl d_Mo_border_27 ?_
  refine lv_if_eq (tgt := 37) hx hb d_Mo_border_30 (by decide) (fun _ => ?_) (fun h0 => absurd (by decide) h0)
  refine lv_iconst (v := 0) hx hb d_Mo_border_37 (by decide) ?_
  refine va_put (D := D) (ci := 6) (v := .int 0) (ty := .int) (C := R_Mo) (T := T_Mo) (N := 24) hx hb hts hin_Mo ty_Mo tyok_Mo nm_Mo hown hK hP hD hS 0 rfl rfl 0 (by decide) (hts _ wd_704) (fun _ h9 => h9) rfl (by decide +kernel) rfl rfl (Nat.le_of_ble_eq_true rfl) d_Mo_border_38 (fun H locs hP hD hS => ?_)
  have hP : va_P D vwCl [(g0, .inr (6, [.int 0, .int (nI n), .ref m_sea, .ref m_center, .ref m_home, .ref m_borders, .int 0, .int mt, .ref m_owner, .ref m_units, .ref m_kind, .ref m_toX, .ref m_toY, .ref m_results, .ref m_known, .ref m_reached, .ref m_way, .ref m_aside, .ref m_origin, .ref m_retreats, .ref m_contested, .ref m_moved, .int msh, .ref m_past])), (m_borders, .inl (cZ, 144, .inl (fun j => bI (Bo j))))] H := hP
  have hD : va_D A [(g0, .inr (6, [.int 0, .int (nI n), .ref m_sea, .ref m_center, .ref m_home, .ref m_borders, .int 0, .int mt, .ref m_owner, .ref m_units, .ref m_kind, .ref m_toX, .ref m_toY, .ref m_results, .ref m_known, .ref m_reached, .ref m_way, .ref m_aside, .ref m_origin, .ref m_retreats, .ref m_contested, .ref m_moved, .int msh, .ref m_past])), (m_borders, .inl (cZ, 144, .inl (fun j => bI (Bo j))))] := hD
  refine lv_aload_n hx hb d_Mo_border_41 rfl (lv_at hl 0 rfl) ?_
  refine va_get (D := D) (ci := 6) (v := .int 0) (C := R_Mo) (T := T_Mo) (N := 24) hx hb hts hin_Mo hown hK hP 0 rfl rfl 0 (by decide) (hts _ wd_704) (fun _ h9 => h9) rfl d_Mo_border_42 ?_
  refine lv_if_ne (tgt := 57) hx hb d_Mo_border_45 (by decide) (fun h0 => absurd (by decide) h0) (fun _ => ?_)
  refine lv_aload_n hx hb d_Mo_border_48 rfl (lv_at hl 0 rfl) ?_
  refine lv_iload_n hx hb d_Mo_border_49 rfl (lv_at hl 1 rfl) ?_
  refine lv_iload_n hx hb d_Mo_border_50 rfl (lv_at hl 2 rfl) ?_
  have hPc := hP.sub (ws' := [(g0, .inr (6, [.int 0, .int (nI n), .ref m_sea, .ref m_center, .ref m_home, .ref m_borders, .int 0, .int mt, .ref m_owner, .ref m_units, .ref m_kind, .ref m_toX, .ref m_toY, .ref m_results, .ref m_known, .ref m_reached, .ref m_way, .ref m_aside, .ref m_origin, .ref m_retreats, .ref m_contested, .ref m_moved, .int msh, .ref m_past])), (m_borders, .inl (cZ, 144, .inl (fun j => bI (Bo j))))]) [0, 1] rfl
  refine vp_callSi (va_Run.run (va_runV (As := [.int (nI a), .int (nI b)]) (rest := []) ⟨hx, hb, hml, hown, hts⟩ (c_Mo_border2 l D cI cZ cJ cS aT ceT  g0 m_sea m_center m_home m_borders m_owner m_units m_kind m_toX m_toY m_results m_known m_reached m_way m_aside m_origin m_retreats m_contested m_moved m_past n 0 0 mt msh Bo a b (Nat.lt_of_lt_of_le h_a hn) (Nat.lt_of_lt_of_le h_b hn)) (cwV 2 hts (tb_4 wd_794 wd_796 wp_37 wd_8 (tb_c wd_797)) rfl rfl rfl ⟨rfl, by decide, by decide, by decide +kernel⟩ ⟨Nat.le_of_ble_eq_true rfl, Nat.le_of_ble_eq_true rfl⟩) (tP_V hK hX (hS.2.1 aT hXl hXn) hPc (q := 0) rfl rfl) rfl rfl hl.1 rfl (lv_room (Nat.le_of_ble_eq_true rfl)) d_Mo_border_51 ⟨Nat.le_of_ble_eq_true rfl, Nat.le_of_ble_eq_true rfl⟩)) (fun r8 hr9 => ?_)
  rw [hr9]
  refine tr_top (bI_f hbo) ?_
  refine lv_if_eq (tgt := 59) hx hb d_Mo_border_54 (by decide) (fun _ => ?_) (fun h0 => absurd (by decide) h0)
  refine lv_aload_n hx hb d_Mo_border_59 rfl (lv_at hl 0 rfl) ?_
  refine va_get (D := D) (ci := 6) (v := .ref m_borders) (C := R_Mo) (T := T_Mo) (N := 24) hx hb hts hin_Mo hown hK hP 0 rfl rfl 5 (by decide) (hts _ wd_709) (fun _ h9 => h9) rfl d_Mo_border_60 ?_
  refine lv_bipush (v := 12) hx hb d_Mo_border_63 (by decide) ?_
  refine lv_iload_n hx hb d_Mo_border_65 rfl (lv_at hl 1 rfl) ?_
  refine lv_imul hx hb d_Mo_border_66 ?_
  refine tr_top (y := nI (12 * a)) (pk_mul 12 a) ?_
  refine lv_iload_n hx hb d_Mo_border_67 rfl (lv_at hl 2 rfl) ?_
  refine lv_iadd hx hb d_Mo_border_68 ?_
  refine tr_top (y := nI ((12 * a) + b)) (nI_add (12 * a) b) ?_
  refine lv_iconst (v := 1) hx hb d_Mo_border_69 (by decide) ?_
  refine tr_zast (g := fun j => bI (upB Bo ((12 * a) + b) true j)) hx hb hK hP hD hS 1 1 rfl rfl ((12 * a) + b) (by omega) (by decide) (upB_I Bo ((12 * a) + b) true) d_Mo_border_70 (fun H locs hP hD hS => ?_)
  have hP : va_P D vwCl [(g0, .inr (6, [.int 0, .int (nI n), .ref m_sea, .ref m_center, .ref m_home, .ref m_borders, .int 0, .int mt, .ref m_owner, .ref m_units, .ref m_kind, .ref m_toX, .ref m_toY, .ref m_results, .ref m_known, .ref m_reached, .ref m_way, .ref m_aside, .ref m_origin, .ref m_retreats, .ref m_contested, .ref m_moved, .int msh, .ref m_past])), (m_borders, .inl (cZ, 144, .inl (fun j => bI (upB Bo ((12 * a) + b) true j))))] H := hP
  have hD : va_D A [(g0, .inr (6, [.int 0, .int (nI n), .ref m_sea, .ref m_center, .ref m_home, .ref m_borders, .int 0, .int mt, .ref m_owner, .ref m_units, .ref m_kind, .ref m_toX, .ref m_toY, .ref m_results, .ref m_known, .ref m_reached, .ref m_way, .ref m_aside, .ref m_origin, .ref m_retreats, .ref m_contested, .ref m_moved, .int msh, .ref m_past])), (m_borders, .inl (cZ, 144, .inl (fun j => bI (upB Bo ((12 * a) + b) true j))))] := hD
  refine lv_aload_n hx hb d_Mo_border_71 rfl (lv_at hl 0 rfl) ?_
  refine va_get (D := D) (ci := 6) (v := .ref m_borders) (C := R_Mo) (T := T_Mo) (N := 24) hx hb hts hin_Mo hown hK hP 0 rfl rfl 5 (by decide) (hts _ wd_709) (fun _ h9 => h9) rfl d_Mo_border_72 ?_
  refine lv_bipush (v := 12) hx hb d_Mo_border_75 (by decide) ?_
  refine lv_iload_n hx hb d_Mo_border_77 rfl (lv_at hl 2 rfl) ?_
  refine lv_imul hx hb d_Mo_border_78 ?_
  refine tr_top (y := nI (12 * b)) (pk_mul 12 b) ?_
  refine lv_iload_n hx hb d_Mo_border_79 rfl (lv_at hl 1 rfl) ?_
  refine lv_iadd hx hb d_Mo_border_80 ?_
  refine tr_top (y := nI ((12 * b) + a)) (nI_add (12 * b) a) ?_
  refine lv_iconst (v := 1) hx hb d_Mo_border_81 (by decide) ?_
  refine tr_zast (g := fun j => bI (upB (fun j => upB Bo ((12 * a) + b) true j) ((12 * b) + a) true j)) hx hb hK hP hD hS 1 1 rfl rfl ((12 * b) + a) (by omega) (by decide) (upB_I (fun j => upB Bo ((12 * a) + b) true j) ((12 * b) + a) true) d_Mo_border_82 (fun H locs hP hD hS => ?_)
  have hP : va_P D vwCl [(g0, .inr (6, [.int 0, .int (nI n), .ref m_sea, .ref m_center, .ref m_home, .ref m_borders, .int 0, .int mt, .ref m_owner, .ref m_units, .ref m_kind, .ref m_toX, .ref m_toY, .ref m_results, .ref m_known, .ref m_reached, .ref m_way, .ref m_aside, .ref m_origin, .ref m_retreats, .ref m_contested, .ref m_moved, .int msh, .ref m_past])), (m_borders, .inl (cZ, 144, .inl (fun j => bI (upB (fun j => upB Bo ((12 * a) + b) true j) ((12 * b) + a) true j))))] H := hP
  have hD : va_D A [(g0, .inr (6, [.int 0, .int (nI n), .ref m_sea, .ref m_center, .ref m_home, .ref m_borders, .int 0, .int mt, .ref m_owner, .ref m_units, .ref m_kind, .ref m_toX, .ref m_toY, .ref m_results, .ref m_known, .ref m_reached, .ref m_way, .ref m_aside, .ref m_origin, .ref m_retreats, .ref m_contested, .ref m_moved, .int msh, .ref m_past])), (m_borders, .inl (cZ, 144, .inl (fun j => bI (upB (fun j => upB Bo ((12 * a) + b) true j) ((12 * b) + a) true j))))] := hD
  refine lv_iconst (v := 1) hx hb d_Mo_border_83 (by decide) ?_
  have hP9 := hP.sub (ws' := [(g0, .inr (6, [.int 0, .int (nI n), .ref m_sea, .ref m_center, .ref m_home, .ref m_borders, .int 0, .int mt, .ref m_owner, .ref m_units, .ref m_kind, .ref m_toX, .ref m_toY, .ref m_results, .ref m_known, .ref m_reached, .ref m_way, .ref m_aside, .ref m_origin, .ref m_retreats, .ref m_contested, .ref m_moved, .int msh, .ref m_past])), (m_borders, .inl (cZ, 144, .inl (fun j => bI (upB (fun j => upB Bo ((12 * a) + b) true j) ((12 * b) + a) true j))))]) [0, 1] rfl
  have hD9 := hD.sub (ws' := [(g0, .inr (6, [.int 0, .int (nI n), .ref m_sea, .ref m_center, .ref m_home, .ref m_borders, .int 0, .int mt, .ref m_owner, .ref m_units, .ref m_kind, .ref m_toX, .ref m_toY, .ref m_results, .ref m_known, .ref m_reached, .ref m_way, .ref m_aside, .ref m_origin, .ref m_retreats, .ref m_contested, .ref m_moved, .int msh, .ref m_past])), (m_borders, .inl (cZ, 144, .inl (fun j => bI (upB (fun j => upB Bo ((12 * a) + b) true j) ((12 * b) + a) true j))))]) [0, 1] (by decide) rfl
  exact W.zret (v := 1) hx hb hr (by decide) (fun t ht hW => ⟨⟨1, (), rfl, rfl, by rw [ht]; exact hP9, hD9⟩, hS.F ht⟩) hS.2.2 d_Mo_border_84

theorem wd_808 : (Cond.code ({ cls := "SheetWarModel", name := "canBe", desc := "(II)Z" } : MethodName) prog_8_method_9_code (3 : Nat) (Option.some FieldType.boolean)) ∈ TB := tb_t 808 (by decide +kernel) (by decide +kernel)
theorem wd_805 : (Cond.methodLink "SheetWarModel" (92 : Nat) ({ cls := "SheetWarModel", name := "canBe", desc := "(II)Z" } : MethodName)) ∈ TB := tb_t 805 (by decide +kernel) (by decide +kernel)
theorem wd_807 : (Cond.instanceMethod ({ cls := "SheetWarModel", name := "canBe", desc := "(II)Z" } : MethodName)) ∈ TB := tb_t 807 (by decide +kernel) (by decide +kernel)
theorem wp_38 : Cond.selects "SheetWarModel" ⟨"SheetWarModel", "canBe", "(II)Z"⟩ ⟨"SheetWarModel", "canBe", "(II)Z"⟩ ∈ TB := tb_p 38 (by decide +kernel) (by decide +kernel)
set_option maxHeartbeats 4000000 in
set_option maxRecDepth 100000 in
theorem c_Mo_unit0 (l : Launch) (D : va_G) (cI cZ cJ cS : ClassId) (aT : Nat) (ceT : Cell) (sz : Nat) (g0 m_sea m_center m_home m_borders m_owner m_units m_kind m_toX m_toY m_results m_known m_reached m_way m_aside m_origin m_retreats m_contested m_moved m_past : Nat) (n : Nat) (co mt msh : Int32) (S : Nat → Bool) (Bo : Nat → Bool) (fu : Nat → Int32) (p9 a k : Nat) (hn : n ≤ 12) (h_a : a < n) (h_p : p9 < 4) (h_k : k < 2) (hfr : fu a < 0) (hcs : (if nI k = 0 then !S a else S a || anyB (fun b => S b && Bo (12 * a + b)) n) = true) : Met l y_Mo_unit w_Mo_unit ({ frames := 3, cells := 0, slots := 0, locals := 67 }) (tH D cI cZ cJ cS aT ceT [.ref g0, .int (nI a), .int (nI p9), .int (nI k)] sz [(g0, .inr (6, [.int co, .int (nI n), .ref m_sea, .ref m_center, .ref m_home, .ref m_borders, .int 0, .int mt, .ref m_owner, .ref m_units, .ref m_kind, .ref m_toX, .ref m_toY, .ref m_results, .ref m_known, .ref m_reached, .ref m_way, .ref m_aside, .ref m_origin, .ref m_retreats, .ref m_contested, .ref m_moved, .int msh, .ref m_past])), (m_sea, .inl (cZ, 12, .inl (fun j => bI (S j)))), (m_borders, .inl (cZ, 144, .inl (fun j => bI (Bo j)))), (m_units, .inl (cI, 12, .inl fu))]) (va_Qv (fun _ : Unit => True) (fun _ t => tB D (va_A [(g0, .inr (6, [.int co, .int (nI n), .ref m_sea, .ref m_center, .ref m_home, .ref m_borders, .int 0, .int mt, .ref m_owner, .ref m_units, .ref m_kind, .ref m_toX, .ref m_toY, .ref m_results, .ref m_known, .ref m_reached, .ref m_way, .ref m_aside, .ref m_origin, .ref m_retreats, .ref m_contested, .ref m_moved, .int msh, .ref m_past])), (m_sea, .inl (cZ, 12, .inl (fun j => bI (S j)))), (m_borders, .inl (cZ, 144, .inl (fun j => bI (Bo j)))), (m_units, .inl (cI, 12, .inl fu))] sz) [(g0, .inr (6, [.int 0, .int (nI n), .ref m_sea, .ref m_center, .ref m_home, .ref m_borders, .int 0, .int mt, .ref m_owner, .ref m_units, .ref m_kind, .ref m_toX, .ref m_toY, .ref m_results, .ref m_known, .ref m_reached, .ref m_way, .ref m_aside, .ref m_origin, .ref m_retreats, .ref m_contested, .ref m_moved, .int msh, .ref m_past])), (m_sea, .inl (cZ, 12, .inl (fun j => bI (S j)))), (m_borders, .inl (cZ, 144, .inl (fun j => bI (Bo j)))), (m_units, .inl (cI, 12, .inl (upd fu a (nI (2 * p9 + k)))))] t) (va_A [(g0, .inr (6, [.int co, .int (nI n), .ref m_sea, .ref m_center, .ref m_home, .ref m_borders, .int 0, .int mt, .ref m_owner, .ref m_units, .ref m_kind, .ref m_toX, .ref m_toY, .ref m_results, .ref m_known, .ref m_reached, .ref m_way, .ref m_aside, .ref m_origin, .ref m_retreats, .ref m_contested, .ref m_moved, .int msh, .ref m_past])), (m_sea, .inl (cZ, 12, .inl (fun j => bI (S j)))), (m_borders, .inl (cZ, 144, .inl (fun j => bI (Bo j)))), (m_units, .inl (cI, 12, .inl fu))] sz)) 0 0 (va_A [(g0, .inr (6, [.int co, .int (nI n), .ref m_sea, .ref m_center, .ref m_home, .ref m_borders, .int 0, .int mt, .ref m_owner, .ref m_units, .ref m_kind, .ref m_toX, .ref m_toY, .ref m_results, .ref m_known, .ref m_reached, .ref m_way, .ref m_aside, .ref m_origin, .ref m_retreats, .ref m_contested, .ref m_moved, .int msh, .ref m_past])), (m_sea, .inl (cZ, 12, .inl (fun j => bI (S j)))), (m_borders, .inl (cZ, 144, .inl (fun j => bI (Bo j)))), (m_units, .inl (cI, 12, .inl fu))] sz) := by
  refine Met.ofW (cc := b_Mo_unit) (maxL := 4) (ret := none) (by decide) rfl ?_
  intro p e s m args below meth c s₁ B hml hv
  obtain ⟨rfl, hsz, hP, hK, hD0, hX⟩ := hv
  have hx := B.exec
  have hb := B.bytes
  have hr := B.returns
  have hts0 := atoms_spec (ws := w_Mo_unit) B.pre
  have hts : ∀ w ∈ TB, w.before _ s = true := fun w h => hts0 w (List.mem_cons_of_mem _ h)
  have hown : s.vm.findClass R_Mo = some m.cls := findClass_of_methodNamed B.named
  have hlocks := B.notSynchronized
  subst hsz
  have hXl := tx_lt hX
  have hXn := tx_far hP hX
  have hD := hD0.self (sz := s.heap.size)
  generalize hAe : va_A [(g0, .inr (6, [.int co, .int (nI n), .ref m_sea, .ref m_center, .ref m_home, .ref m_borders, .int 0, .int mt, .ref m_owner, .ref m_units, .ref m_kind, .ref m_toX, .ref m_toY, .ref m_results, .ref m_known, .ref m_reached, .ref m_way, .ref m_aside, .ref m_origin, .ref m_retreats, .ref m_contested, .ref m_moved, .int msh, .ref m_past])), (m_sea, .inl (cZ, 12, .inl (fun j => bI (S j)))), (m_borders, .inl (cZ, 144, .inl (fun j => bI (Bo j)))), (m_units, .inl (cI, 12, .inl fu))] s.heap.size = A at hD hXn ⊢
  have hA : ∀ q : Nat, s.heap.size ≤ q → A q := fun q h => by rw [← hAe]; exact Or.inr h
  have hS : va_S A s.heap s.heap [] := va_S.rf
  have hXH : s.heap[aT]? = s.heap[aT]? := rfl
  have hl := lv_entry ([.ref g0, .int (nI a), .int (nI p9), .int (nI k)]) (n := 4) (Nat.le_of_ble_eq_true rfl)
  rw [lg_entry_eq]
  generalize (lg_sl ([.ref g0, .int (nI a), .int (nI p9), .int (nI k)]) ++ List.replicate (4 - (lg_sl ([.ref g0, .int (nI a), .int (nI p9), .int (nI k)])).length) Slot.unset).toArray = ls at hl ⊢
  have hl : lv_has ls 4 [(0, .ref g0), (1, .int (nI a)), (2, .int (nI p9)), (3, .int (nI k))] := hl
  refine lv_aload_n hx hb d_Mo_unit_0 rfl (lv_at hl 0 rfl) ?_
  refine lv_aload_n hx hb d_Mo_unit_1 rfl (lv_at hl 0 rfl) ?_
  refine lv_iload_n hx hb d_Mo_unit_2 rfl (lv_at hl 1 rfl) ?_
  have hPc := hP.sub (ws' := [(g0, .inr (6, [.int co, .int (nI n), .ref m_sea, .ref m_center, .ref m_home, .ref m_borders, .int 0, .int mt, .ref m_owner, .ref m_units, .ref m_kind, .ref m_toX, .ref m_toY, .ref m_results, .ref m_known, .ref m_reached, .ref m_way, .ref m_aside, .ref m_origin, .ref m_retreats, .ref m_contested, .ref m_moved, .int msh, .ref m_past]))]) [0] rfl
  refine vp_callSi (va_Run.run (va_runV (As := [.int (nI a)]) (rest := [.ref g0]) ⟨hx, hb, hml, hown, hts⟩ (c_Mo_isAreaY l D cI cZ cJ cS aT ceT  g0 m_sea m_center m_home m_borders m_owner m_units m_kind m_toX m_toY m_results m_known m_reached m_way m_aside m_origin m_retreats m_contested m_moved m_past n co 0 mt msh a hn h_a) (cwV 1 hts (tb_4 wd_790 wd_792 wp_36 wd_8 (tb_c wd_793)) rfl rfl rfl ⟨rfl, by decide, by decide, by decide +kernel⟩ ⟨Nat.le_of_ble_eq_true rfl, Nat.le_of_ble_eq_true rfl⟩) (tP_V hK hX (hS.2.1 aT hXl hXn) hPc (q := 0) rfl rfl) rfl rfl hl.1 rfl (lv_room (Nat.le_of_ble_eq_true rfl)) d_Mo_unit_3 ⟨Nat.le_of_ble_eq_true rfl, Nat.le_of_ble_eq_true rfl⟩)) (fun r1 hr9 => ?_)
  rw [hr9]
  refine lv_if_eq (tgt := 25) hx hb d_Mo_unit_6 (by decide) (fun h0 => absurd h0 (by decide)) (fun _ => ?_)
  refine lv_iload_n hx hb d_Mo_unit_9 rfl (lv_at hl 2 rfl) ?_
  have hPc := hP.sub (ws' := []) [] rfl
  refine vp_callSi (va_Run.run (va_runS (As := [.int (nI p9)]) (rest := [.ref g0]) ⟨hx, hb, hml, hown, hts⟩ (c_Mo_isPlayerY l D cI cZ cJ cS aT ceT  p9 h_p) (va_cwS 1 hts (tb_3 wd_802 wd_803 wd_8 (tb_c wd_804)) rfl rfl rfl ⟨by decide, by decide, by decide +kernel⟩ ⟨Nat.le_of_ble_eq_true rfl, Nat.le_of_ble_eq_true rfl⟩) (tP_S hK hX (hS.2.1 aT hXl hXn) hPc) rfl rfl hl.1 rfl (lv_room (Nat.le_of_ble_eq_true rfl)) d_Mo_unit_10 ⟨Nat.le_of_ble_eq_true rfl, Nat.le_of_ble_eq_true rfl⟩)) (fun r3 hr9 => ?_)
  rw [hr9]
  refine lv_if_eq (tgt := 25) hx hb d_Mo_unit_13 (by decide) (fun h0 => absurd h0 (by decide)) (fun _ => ?_)
  refine lv_iload_n hx hb d_Mo_unit_16 rfl (lv_at hl 3 rfl) ?_
  refine lv_if_lt (tgt := 25) hx hb d_Mo_unit_17 (by decide) (fun h0 => absurd h0 (nI_nn (by omega))) (fun _ => ?_)
  refine lv_iload_n hx hb d_Mo_unit_20 rfl (lv_at hl 3 rfl) ?_
  refine lv_iconst (v := 1) hx hb d_Mo_unit_21 (by decide) ?_
  refine lv_icmp_le (tgt := 29) hx hb d_Mo_unit_22 (by decide) (fun _ => ?_) (fun h0 => absurd ((nI_leI (b := 1) (by omega) (by decide)).mpr (by omega)) h0)
  refine lv_aload_n hx hb d_Mo_unit_29 rfl (lv_at hl 0 rfl) ?_
  refine va_get (D := D) (ci := 6) (v := .int 0) (C := R_Mo) (T := T_Mo) (N := 24) hx hb hts hin_Mo hown hK hP 0 rfl rfl 6 (by decide) (hts _ wd_710) (fun _ h9 => h9) rfl d_Mo_unit_30 ?_
  refine lv_if_ne (tgt := 54) hx hb d_Mo_unit_33 (by decide) (fun h0 => absurd (by decide) h0) (fun _ => ?_)
  refine lv_aload_n hx hb d_Mo_unit_36 rfl (lv_at hl 0 rfl) ?_
  refine va_get (D := D) (ci := 6) (v := .ref m_units) (C := R_Mo) (T := T_Mo) (N := 24) hx hb hts hin_Mo hown hK hP 0 rfl rfl 9 (by decide) (hts _ wd_713) (fun _ h9 => h9) rfl d_Mo_unit_37 ?_
  refine lv_iload_n hx hb d_Mo_unit_40 rfl (lv_at hl 1 rfl) ?_
  refine tr_iald (v := fu a) hx hb hK hP 3 0 rfl rfl a (Nat.lt_of_lt_of_le h_a hn) (by decide) rfl d_Mo_unit_41 ?_
  refine lv_if_ge (tgt := 54) hx hb d_Mo_unit_42 (by decide) (fun h0 => absurd hfr (Int32.not_lt.mpr h0)) (fun _ => ?_)
  refine lv_aload_n hx hb d_Mo_unit_45 rfl (lv_at hl 0 rfl) ?_
  refine lv_iload_n hx hb d_Mo_unit_46 rfl (lv_at hl 1 rfl) ?_
  refine lv_iload_n hx hb d_Mo_unit_47 rfl (lv_at hl 3 rfl) ?_
  have hPc := hP.sub (ws' := [(g0, .inr (6, [.int co, .int (nI n), .ref m_sea, .ref m_center, .ref m_home, .ref m_borders, .int 0, .int mt, .ref m_owner, .ref m_units, .ref m_kind, .ref m_toX, .ref m_toY, .ref m_results, .ref m_known, .ref m_reached, .ref m_way, .ref m_aside, .ref m_origin, .ref m_retreats, .ref m_contested, .ref m_moved, .int msh, .ref m_past])), (m_sea, .inl (cZ, 12, .inl (fun j => bI (S j)))), (m_borders, .inl (cZ, 144, .inl (fun j => bI (Bo j))))]) [0, 1, 2] rfl
  refine vp_callSi (va_Run.run (va_runV (As := [.int (nI a), .int (nI k)]) (rest := [.ref g0]) ⟨hx, hb, hml, hown, hts⟩ (c_Mo_canBe l D cI cZ cJ cS aT ceT  g0 m_sea m_center m_home m_borders m_owner m_units m_kind m_toX m_toY m_results m_known m_reached m_way m_aside m_origin m_retreats m_contested m_moved m_past n co 0 mt msh S Bo a (nI k) (Nat.lt_of_lt_of_le h_a hn) hn) (cwV 2 hts (tb_4 wd_805 wd_807 wp_38 wd_8 (tb_c wd_808)) rfl rfl rfl ⟨rfl, by decide, by decide, by decide +kernel⟩ ⟨Nat.le_of_ble_eq_true rfl, Nat.le_of_ble_eq_true rfl⟩) (tP_V hK hX (hS.2.1 aT hXl hXn) hPc (q := 0) rfl rfl) rfl rfl hl.1 rfl (lv_room (Nat.le_of_ble_eq_true rfl)) d_Mo_unit_48 ⟨Nat.le_of_ble_eq_true rfl, Nat.le_of_ble_eq_true rfl⟩)) (fun r6 hr9 => ?_)
  rw [hr9]
  refine tr_top (bI_t hcs) ?_
  refine lv_if_ne (tgt := 58) hx hb d_Mo_unit_51 (by decide) (fun _ => ?_) (fun h0 => absurd h0 (by decide))
  refine lv_iconst (v := 0) hx hb d_Mo_unit_58 (by decide) ?_
  refine va_put (D := D) (ci := 6) (v := .int 0) (ty := .int) (C := R_Mo) (T := T_Mo) (N := 24) hx hb hts hin_Mo ty_Mo tyok_Mo nm_Mo hown hK hP hD hS 0 rfl rfl 0 (by decide) (hts _ wd_704) (fun _ h9 => h9) rfl (by decide +kernel) rfl rfl (Nat.le_of_ble_eq_true rfl) d_Mo_unit_59 (fun H locs hP hD hS => ?_)
  have hP : va_P D vwCl [(g0, .inr (6, [.int 0, .int (nI n), .ref m_sea, .ref m_center, .ref m_home, .ref m_borders, .int 0, .int mt, .ref m_owner, .ref m_units, .ref m_kind, .ref m_toX, .ref m_toY, .ref m_results, .ref m_known, .ref m_reached, .ref m_way, .ref m_aside, .ref m_origin, .ref m_retreats, .ref m_contested, .ref m_moved, .int msh, .ref m_past])), (m_sea, .inl (cZ, 12, .inl (fun j => bI (S j)))), (m_borders, .inl (cZ, 144, .inl (fun j => bI (Bo j)))), (m_units, .inl (cI, 12, .inl fu))] H := hP
  have hD : va_D A [(g0, .inr (6, [.int 0, .int (nI n), .ref m_sea, .ref m_center, .ref m_home, .ref m_borders, .int 0, .int mt, .ref m_owner, .ref m_units, .ref m_kind, .ref m_toX, .ref m_toY, .ref m_results, .ref m_known, .ref m_reached, .ref m_way, .ref m_aside, .ref m_origin, .ref m_retreats, .ref m_contested, .ref m_moved, .int msh, .ref m_past])), (m_sea, .inl (cZ, 12, .inl (fun j => bI (S j)))), (m_borders, .inl (cZ, 144, .inl (fun j => bI (Bo j)))), (m_units, .inl (cI, 12, .inl fu))] := hD
  refine lv_aload_n hx hb d_Mo_unit_62 rfl (lv_at hl 0 rfl) ?_
  refine va_get (D := D) (ci := 6) (v := .int 0) (C := R_Mo) (T := T_Mo) (N := 24) hx hb hts hin_Mo hown hK hP 0 rfl rfl 0 (by decide) (hts _ wd_704) (fun _ h9 => h9) rfl d_Mo_unit_63 ?_
  refine lv_if_ne (tgt := 80) hx hb d_Mo_unit_66 (by decide) (fun h0 => absurd (by decide) h0) (fun _ => ?_)
  refine lv_aload_n hx hb d_Mo_unit_69 rfl (lv_at hl 0 rfl) ?_
  refine va_get (D := D) (ci := 6) (v := .ref m_units) (C := R_Mo) (T := T_Mo) (N := 24) hx hb hts hin_Mo hown hK hP 0 rfl rfl 9 (by decide) (hts _ wd_713) (fun _ h9 => h9) rfl d_Mo_unit_70 ?_
  refine lv_iload_n hx hb d_Mo_unit_73 rfl (lv_at hl 1 rfl) ?_
  refine lv_iconst (v := 2) hx hb d_Mo_unit_74 (by decide) ?_
  refine lv_iload_n hx hb d_Mo_unit_75 rfl (lv_at hl 2 rfl) ?_
  refine lv_imul hx hb d_Mo_unit_76 ?_
  refine tr_top (y := nI (2 * p9)) (pk_mul 2 p9) ?_
  refine lv_iload_n hx hb d_Mo_unit_77 rfl (lv_at hl 3 rfl) ?_
  refine lv_iadd hx hb d_Mo_unit_78 ?_
  refine tr_top (y := nI ((2 * p9) + k)) (nI_add (2 * p9) k) ?_
  refine tr_iast (g := upd fu a (nI ((2 * p9) + k))) hx hb hK hP hD hS 3 0 rfl rfl a (Nat.lt_of_lt_of_le h_a hn) (by decide) rfl d_Mo_unit_79 (fun H locs hP hD hS => ?_)
  have hP : va_P D vwCl [(g0, .inr (6, [.int 0, .int (nI n), .ref m_sea, .ref m_center, .ref m_home, .ref m_borders, .int 0, .int mt, .ref m_owner, .ref m_units, .ref m_kind, .ref m_toX, .ref m_toY, .ref m_results, .ref m_known, .ref m_reached, .ref m_way, .ref m_aside, .ref m_origin, .ref m_retreats, .ref m_contested, .ref m_moved, .int msh, .ref m_past])), (m_sea, .inl (cZ, 12, .inl (fun j => bI (S j)))), (m_borders, .inl (cZ, 144, .inl (fun j => bI (Bo j)))), (m_units, .inl (cI, 12, .inl (upd fu a (nI ((2 * p9) + k)))))] H := hP
  have hD : va_D A [(g0, .inr (6, [.int 0, .int (nI n), .ref m_sea, .ref m_center, .ref m_home, .ref m_borders, .int 0, .int mt, .ref m_owner, .ref m_units, .ref m_kind, .ref m_toX, .ref m_toY, .ref m_results, .ref m_known, .ref m_reached, .ref m_way, .ref m_aside, .ref m_origin, .ref m_retreats, .ref m_contested, .ref m_moved, .int msh, .ref m_past])), (m_sea, .inl (cZ, 12, .inl (fun j => bI (S j)))), (m_borders, .inl (cZ, 144, .inl (fun j => bI (Bo j)))), (m_units, .inl (cI, 12, .inl (upd fu a (nI ((2 * p9) + k)))))] := hD
  have hP9 := hP.sub (ws' := [(g0, .inr (6, [.int 0, .int (nI n), .ref m_sea, .ref m_center, .ref m_home, .ref m_borders, .int 0, .int mt, .ref m_owner, .ref m_units, .ref m_kind, .ref m_toX, .ref m_toY, .ref m_results, .ref m_known, .ref m_reached, .ref m_way, .ref m_aside, .ref m_origin, .ref m_retreats, .ref m_contested, .ref m_moved, .int msh, .ref m_past])), (m_sea, .inl (cZ, 12, .inl (fun j => bI (S j)))), (m_borders, .inl (cZ, 144, .inl (fun j => bI (Bo j)))), (m_units, .inl (cI, 12, .inl (upd fu a (nI ((2 * p9) + k)))))]) [0, 1, 2, 3] rfl
  have hD9 := hD.sub (ws' := [(g0, .inr (6, [.int 0, .int (nI n), .ref m_sea, .ref m_center, .ref m_home, .ref m_borders, .int 0, .int mt, .ref m_owner, .ref m_units, .ref m_kind, .ref m_toX, .ref m_toY, .ref m_results, .ref m_known, .ref m_reached, .ref m_way, .ref m_aside, .ref m_origin, .ref m_retreats, .ref m_contested, .ref m_moved, .int msh, .ref m_past])), (m_sea, .inl (cZ, 12, .inl (fun j => bI (S j)))), (m_borders, .inl (cZ, 144, .inl (fun j => bI (Bo j)))), (m_units, .inl (cI, 12, .inl (upd fu a (nI ((2 * p9) + k)))))]) [0, 1, 2, 3] (by decide) rfl
  exact W.vret hx hb hr (fun t ht hW => ⟨⟨(), rfl, trivial, by rw [ht]; exact hP9, hD9⟩, hS.F ht⟩) hS.2.2 d_Mo_unit_80


set_option maxHeartbeats 4000000 in
set_option maxRecDepth 100000 in
theorem c_Mo_unit2 (l : Launch) (D : va_G) (cI cZ cJ cS : ClassId) (aT : Nat) (ceT : Cell) (sz : Nat) (g0 m_sea m_center m_home m_borders m_owner m_units m_kind m_toX m_toY m_results m_known m_reached m_way m_aside m_origin m_retreats m_contested m_moved m_past : Nat) (n : Nat) (co mp mt msh : Int32) (S : Nat → Bool) (Bo : Nat → Bool) (fu : Nat → Int32) (p9 a k : Nat) (hn : n ≤ 12) (h_a : a < n) (h_p : p9 < 4) (h_k : k < 2) (hbad : ¬ (mp = 0 ∧ fu a < 0 ∧ (if nI k = 0 then !S a else S a || anyB (fun b => S b && Bo (12 * a + b)) n) = true)) : Met l y_Mo_unit w_Mo_unit ({ frames := 3, cells := 0, slots := 0, locals := 67 }) (tH D cI cZ cJ cS aT ceT [.ref g0, .int (nI a), .int (nI p9), .int (nI k)] sz [(g0, .inr (6, [.int co, .int (nI n), .ref m_sea, .ref m_center, .ref m_home, .ref m_borders, .int mp, .int mt, .ref m_owner, .ref m_units, .ref m_kind, .ref m_toX, .ref m_toY, .ref m_results, .ref m_known, .ref m_reached, .ref m_way, .ref m_aside, .ref m_origin, .ref m_retreats, .ref m_contested, .ref m_moved, .int msh, .ref m_past])), (m_sea, .inl (cZ, 12, .inl (fun j => bI (S j)))), (m_borders, .inl (cZ, 144, .inl (fun j => bI (Bo j)))), (m_units, .inl (cI, 12, .inl fu))]) (va_Qv (fun _ : Unit => True) (fun _ t => tB D (va_A [(g0, .inr (6, [.int co, .int (nI n), .ref m_sea, .ref m_center, .ref m_home, .ref m_borders, .int mp, .int mt, .ref m_owner, .ref m_units, .ref m_kind, .ref m_toX, .ref m_toY, .ref m_results, .ref m_known, .ref m_reached, .ref m_way, .ref m_aside, .ref m_origin, .ref m_retreats, .ref m_contested, .ref m_moved, .int msh, .ref m_past])), (m_sea, .inl (cZ, 12, .inl (fun j => bI (S j)))), (m_borders, .inl (cZ, 144, .inl (fun j => bI (Bo j)))), (m_units, .inl (cI, 12, .inl fu))] sz) [(g0, .inr (6, [.int 2, .int (nI n), .ref m_sea, .ref m_center, .ref m_home, .ref m_borders, .int mp, .int mt, .ref m_owner, .ref m_units, .ref m_kind, .ref m_toX, .ref m_toY, .ref m_results, .ref m_known, .ref m_reached, .ref m_way, .ref m_aside, .ref m_origin, .ref m_retreats, .ref m_contested, .ref m_moved, .int msh, .ref m_past])), (m_sea, .inl (cZ, 12, .inl (fun j => bI (S j)))), (m_borders, .inl (cZ, 144, .inl (fun j => bI (Bo j)))), (m_units, .inl (cI, 12, .inl fu))] t) (va_A [(g0, .inr (6, [.int co, .int (nI n), .ref m_sea, .ref m_center, .ref m_home, .ref m_borders, .int mp, .int mt, .ref m_owner, .ref m_units, .ref m_kind, .ref m_toX, .ref m_toY, .ref m_results, .ref m_known, .ref m_reached, .ref m_way, .ref m_aside, .ref m_origin, .ref m_retreats, .ref m_contested, .ref m_moved, .int msh, .ref m_past])), (m_sea, .inl (cZ, 12, .inl (fun j => bI (S j)))), (m_borders, .inl (cZ, 144, .inl (fun j => bI (Bo j)))), (m_units, .inl (cI, 12, .inl fu))] sz)) 0 0 (va_A [(g0, .inr (6, [.int co, .int (nI n), .ref m_sea, .ref m_center, .ref m_home, .ref m_borders, .int mp, .int mt, .ref m_owner, .ref m_units, .ref m_kind, .ref m_toX, .ref m_toY, .ref m_results, .ref m_known, .ref m_reached, .ref m_way, .ref m_aside, .ref m_origin, .ref m_retreats, .ref m_contested, .ref m_moved, .int msh, .ref m_past])), (m_sea, .inl (cZ, 12, .inl (fun j => bI (S j)))), (m_borders, .inl (cZ, 144, .inl (fun j => bI (Bo j)))), (m_units, .inl (cI, 12, .inl fu))] sz) := by
  refine Met.ofW (cc := b_Mo_unit) (maxL := 4) (ret := none) (by decide) rfl ?_
  intro p e s m args below meth c s₁ B hml hv
  obtain ⟨rfl, hsz, hP, hK, hD0, hX⟩ := hv
  have hx := B.exec
  have hb := B.bytes
  have hr := B.returns
  have hts0 := atoms_spec (ws := w_Mo_unit) B.pre
  have hts : ∀ w ∈ TB, w.before _ s = true := fun w h => hts0 w (List.mem_cons_of_mem _ h)
  have hown : s.vm.findClass R_Mo = some m.cls := findClass_of_methodNamed B.named
  have hlocks := B.notSynchronized
  subst hsz
  have hXl := tx_lt hX
  have hXn := tx_far hP hX
  have hD := hD0.self (sz := s.heap.size)
  generalize hAe : va_A [(g0, .inr (6, [.int co, .int (nI n), .ref m_sea, .ref m_center, .ref m_home, .ref m_borders, .int mp, .int mt, .ref m_owner, .ref m_units, .ref m_kind, .ref m_toX, .ref m_toY, .ref m_results, .ref m_known, .ref m_reached, .ref m_way, .ref m_aside, .ref m_origin, .ref m_retreats, .ref m_contested, .ref m_moved, .int msh, .ref m_past])), (m_sea, .inl (cZ, 12, .inl (fun j => bI (S j)))), (m_borders, .inl (cZ, 144, .inl (fun j => bI (Bo j)))), (m_units, .inl (cI, 12, .inl fu))] s.heap.size = A at hD hXn ⊢
  have hA : ∀ q : Nat, s.heap.size ≤ q → A q := fun q h => by rw [← hAe]; exact Or.inr h
  have hS : va_S A s.heap s.heap [] := va_S.rf
  have hXH : s.heap[aT]? = s.heap[aT]? := rfl
  have hl := lv_entry ([.ref g0, .int (nI a), .int (nI p9), .int (nI k)]) (n := 4) (Nat.le_of_ble_eq_true rfl)
  rw [lg_entry_eq]
  generalize (lg_sl ([.ref g0, .int (nI a), .int (nI p9), .int (nI k)]) ++ List.replicate (4 - (lg_sl ([.ref g0, .int (nI a), .int (nI p9), .int (nI k)])).length) Slot.unset).toArray = ls at hl ⊢
  have hl : lv_has ls 4 [(0, .ref g0), (1, .int (nI a)), (2, .int (nI p9)), (3, .int (nI k))] := hl
  refine lv_aload_n hx hb d_Mo_unit_0 rfl (lv_at hl 0 rfl) ?_
  refine lv_aload_n hx hb d_Mo_unit_1 rfl (lv_at hl 0 rfl) ?_
  refine lv_iload_n hx hb d_Mo_unit_2 rfl (lv_at hl 1 rfl) ?_
  have hPc := hP.sub (ws' := [(g0, .inr (6, [.int co, .int (nI n), .ref m_sea, .ref m_center, .ref m_home, .ref m_borders, .int mp, .int mt, .ref m_owner, .ref m_units, .ref m_kind, .ref m_toX, .ref m_toY, .ref m_results, .ref m_known, .ref m_reached, .ref m_way, .ref m_aside, .ref m_origin, .ref m_retreats, .ref m_contested, .ref m_moved, .int msh, .ref m_past]))]) [0] rfl
  refine vp_callSi (va_Run.run (va_runV (As := [.int (nI a)]) (rest := [.ref g0]) ⟨hx, hb, hml, hown, hts⟩ (c_Mo_isAreaY l D cI cZ cJ cS aT ceT  g0 m_sea m_center m_home m_borders m_owner m_units m_kind m_toX m_toY m_results m_known m_reached m_way m_aside m_origin m_retreats m_contested m_moved m_past n co mp mt msh a hn h_a) (cwV 1 hts (tb_4 wd_790 wd_792 wp_36 wd_8 (tb_c wd_793)) rfl rfl rfl ⟨rfl, by decide, by decide, by decide +kernel⟩ ⟨Nat.le_of_ble_eq_true rfl, Nat.le_of_ble_eq_true rfl⟩) (tP_V hK hX (hS.2.1 aT hXl hXn) hPc (q := 0) rfl rfl) rfl rfl hl.1 rfl (lv_room (Nat.le_of_ble_eq_true rfl)) d_Mo_unit_3 ⟨Nat.le_of_ble_eq_true rfl, Nat.le_of_ble_eq_true rfl⟩)) (fun r1 hr9 => ?_)
  rw [hr9]
  refine lv_if_eq (tgt := 25) hx hb d_Mo_unit_6 (by decide) (fun h0 => absurd h0 (by decide)) (fun _ => ?_)
  refine lv_iload_n hx hb d_Mo_unit_9 rfl (lv_at hl 2 rfl) ?_
  have hPc := hP.sub (ws' := []) [] rfl
  refine vp_callSi (va_Run.run (va_runS (As := [.int (nI p9)]) (rest := [.ref g0]) ⟨hx, hb, hml, hown, hts⟩ (c_Mo_isPlayerY l D cI cZ cJ cS aT ceT  p9 h_p) (va_cwS 1 hts (tb_3 wd_802 wd_803 wd_8 (tb_c wd_804)) rfl rfl rfl ⟨by decide, by decide, by decide +kernel⟩ ⟨Nat.le_of_ble_eq_true rfl, Nat.le_of_ble_eq_true rfl⟩) (tP_S hK hX (hS.2.1 aT hXl hXn) hPc) rfl rfl hl.1 rfl (lv_room (Nat.le_of_ble_eq_true rfl)) d_Mo_unit_10 ⟨Nat.le_of_ble_eq_true rfl, Nat.le_of_ble_eq_true rfl⟩)) (fun r3 hr9 => ?_)
  rw [hr9]
  refine lv_if_eq (tgt := 25) hx hb d_Mo_unit_13 (by decide) (fun h0 => absurd h0 (by decide)) (fun _ => ?_)
  refine lv_iload_n hx hb d_Mo_unit_16 rfl (lv_at hl 3 rfl) ?_
  refine lv_if_lt (tgt := 25) hx hb d_Mo_unit_17 (by decide) (fun h0 => absurd h0 (nI_nn (by omega))) (fun _ => ?_)
  refine lv_iload_n hx hb d_Mo_unit_20 rfl (lv_at hl 3 rfl) ?_
  refine lv_iconst (v := 1) hx hb d_Mo_unit_21 (by decide) ?_
  refine lv_icmp_le (tgt := 29) hx hb d_Mo_unit_22 (by decide) (fun _ => ?_) (fun h0 => absurd ((nI_leI (b := 1) (by omega) (by decide)).mpr (by omega)) h0)
  refine lv_aload_n hx hb d_Mo_unit_29 rfl (lv_at hl 0 rfl) ?_
  refine va_get (D := D) (ci := 6) (v := .int mp) (C := R_Mo) (T := T_Mo) (N := 24) hx hb hts hin_Mo hown hK hP 0 rfl rfl 6 (by decide) (hts _ wd_710) (fun _ h9 => h9) rfl d_Mo_unit_30 ?_
  refine lv_if_ne (tgt := 54) hx hb d_Mo_unit_33 (by decide) (fun hc5 => ?_) (fun hc5 => ?_)
  · -- 33 taken
    refine lv_iconst (v := 2) hx hb d_Mo_unit_54 (by decide) ?_
    refine lv_goto (tgt := 59) hx hb d_Mo_unit_55 (by decide) ?_
    refine va_put (D := D) (ci := 6) (v := .int 2) (ty := .int) (C := R_Mo) (T := T_Mo) (N := 24) hx hb hts hin_Mo ty_Mo tyok_Mo nm_Mo hown hK hP hD hS 0 rfl rfl 0 (by decide) (hts _ wd_704) (fun _ h9 => h9) rfl (by decide +kernel) rfl rfl (Nat.le_of_ble_eq_true rfl) d_Mo_unit_59 (fun H locs hP hD hS => ?_)
    have hP : va_P D vwCl [(g0, .inr (6, [.int 2, .int (nI n), .ref m_sea, .ref m_center, .ref m_home, .ref m_borders, .int mp, .int mt, .ref m_owner, .ref m_units, .ref m_kind, .ref m_toX, .ref m_toY, .ref m_results, .ref m_known, .ref m_reached, .ref m_way, .ref m_aside, .ref m_origin, .ref m_retreats, .ref m_contested, .ref m_moved, .int msh, .ref m_past])), (m_sea, .inl (cZ, 12, .inl (fun j => bI (S j)))), (m_borders, .inl (cZ, 144, .inl (fun j => bI (Bo j)))), (m_units, .inl (cI, 12, .inl fu))] H := hP
    have hD : va_D A [(g0, .inr (6, [.int 2, .int (nI n), .ref m_sea, .ref m_center, .ref m_home, .ref m_borders, .int mp, .int mt, .ref m_owner, .ref m_units, .ref m_kind, .ref m_toX, .ref m_toY, .ref m_results, .ref m_known, .ref m_reached, .ref m_way, .ref m_aside, .ref m_origin, .ref m_retreats, .ref m_contested, .ref m_moved, .int msh, .ref m_past])), (m_sea, .inl (cZ, 12, .inl (fun j => bI (S j)))), (m_borders, .inl (cZ, 144, .inl (fun j => bI (Bo j)))), (m_units, .inl (cI, 12, .inl fu))] := hD
    refine lv_aload_n hx hb d_Mo_unit_62 rfl (lv_at hl 0 rfl) ?_
    refine va_get (D := D) (ci := 6) (v := .int 2) (C := R_Mo) (T := T_Mo) (N := 24) hx hb hts hin_Mo hown hK hP 0 rfl rfl 0 (by decide) (hts _ wd_704) (fun _ h9 => h9) rfl d_Mo_unit_63 ?_
    refine lv_if_ne (tgt := 80) hx hb d_Mo_unit_66 (by decide) (fun _ => ?_) (fun h0 => absurd h0 (by decide))
    have hP9 := hP.sub (ws' := [(g0, .inr (6, [.int 2, .int (nI n), .ref m_sea, .ref m_center, .ref m_home, .ref m_borders, .int mp, .int mt, .ref m_owner, .ref m_units, .ref m_kind, .ref m_toX, .ref m_toY, .ref m_results, .ref m_known, .ref m_reached, .ref m_way, .ref m_aside, .ref m_origin, .ref m_retreats, .ref m_contested, .ref m_moved, .int msh, .ref m_past])), (m_sea, .inl (cZ, 12, .inl (fun j => bI (S j)))), (m_borders, .inl (cZ, 144, .inl (fun j => bI (Bo j)))), (m_units, .inl (cI, 12, .inl fu))]) [0, 1, 2, 3] rfl
    have hD9 := hD.sub (ws' := [(g0, .inr (6, [.int 2, .int (nI n), .ref m_sea, .ref m_center, .ref m_home, .ref m_borders, .int mp, .int mt, .ref m_owner, .ref m_units, .ref m_kind, .ref m_toX, .ref m_toY, .ref m_results, .ref m_known, .ref m_reached, .ref m_way, .ref m_aside, .ref m_origin, .ref m_retreats, .ref m_contested, .ref m_moved, .int msh, .ref m_past])), (m_sea, .inl (cZ, 12, .inl (fun j => bI (S j)))), (m_borders, .inl (cZ, 144, .inl (fun j => bI (Bo j)))), (m_units, .inl (cI, 12, .inl fu))]) [0, 1, 2, 3] (by decide) rfl
    exact W.vret hx hb hr (fun t ht hW => ⟨⟨(), rfl, trivial, by rw [ht]; exact hP9, hD9⟩, hS.F ht⟩) hS.2.2 d_Mo_unit_80
  · -- 33 not taken
    refine lv_aload_n hx hb d_Mo_unit_36 rfl (lv_at hl 0 rfl) ?_
    refine va_get (D := D) (ci := 6) (v := .ref m_units) (C := R_Mo) (T := T_Mo) (N := 24) hx hb hts hin_Mo hown hK hP 0 rfl rfl 9 (by decide) (hts _ wd_713) (fun _ h9 => h9) rfl d_Mo_unit_37 ?_
    refine lv_iload_n hx hb d_Mo_unit_40 rfl (lv_at hl 1 rfl) ?_
    refine tr_iald (v := fu a) hx hb hK hP 3 0 rfl rfl a (Nat.lt_of_lt_of_le h_a hn) (by decide) rfl d_Mo_unit_41 ?_
    refine lv_if_ge (tgt := 54) hx hb d_Mo_unit_42 (by decide) (fun hc7 => ?_) (fun hc7 => ?_)
    · -- 42 taken
      have hc7 : ¬ (fu a) < 0 := Int32.not_lt.mpr hc7
      refine lv_iconst (v := 2) hx hb d_Mo_unit_54 (by decide) ?_
      refine lv_goto (tgt := 59) hx hb d_Mo_unit_55 (by decide) ?_
      refine va_put (D := D) (ci := 6) (v := .int 2) (ty := .int) (C := R_Mo) (T := T_Mo) (N := 24) hx hb hts hin_Mo ty_Mo tyok_Mo nm_Mo hown hK hP hD hS 0 rfl rfl 0 (by decide) (hts _ wd_704) (fun _ h9 => h9) rfl (by decide +kernel) rfl rfl (Nat.le_of_ble_eq_true rfl) d_Mo_unit_59 (fun H locs hP hD hS => ?_)
      have hP : va_P D vwCl [(g0, .inr (6, [.int 2, .int (nI n), .ref m_sea, .ref m_center, .ref m_home, .ref m_borders, .int mp, .int mt, .ref m_owner, .ref m_units, .ref m_kind, .ref m_toX, .ref m_toY, .ref m_results, .ref m_known, .ref m_reached, .ref m_way, .ref m_aside, .ref m_origin, .ref m_retreats, .ref m_contested, .ref m_moved, .int msh, .ref m_past])), (m_sea, .inl (cZ, 12, .inl (fun j => bI (S j)))), (m_borders, .inl (cZ, 144, .inl (fun j => bI (Bo j)))), (m_units, .inl (cI, 12, .inl fu))] H := hP
      have hD : va_D A [(g0, .inr (6, [.int 2, .int (nI n), .ref m_sea, .ref m_center, .ref m_home, .ref m_borders, .int mp, .int mt, .ref m_owner, .ref m_units, .ref m_kind, .ref m_toX, .ref m_toY, .ref m_results, .ref m_known, .ref m_reached, .ref m_way, .ref m_aside, .ref m_origin, .ref m_retreats, .ref m_contested, .ref m_moved, .int msh, .ref m_past])), (m_sea, .inl (cZ, 12, .inl (fun j => bI (S j)))), (m_borders, .inl (cZ, 144, .inl (fun j => bI (Bo j)))), (m_units, .inl (cI, 12, .inl fu))] := hD
      refine lv_aload_n hx hb d_Mo_unit_62 rfl (lv_at hl 0 rfl) ?_
      refine va_get (D := D) (ci := 6) (v := .int 2) (C := R_Mo) (T := T_Mo) (N := 24) hx hb hts hin_Mo hown hK hP 0 rfl rfl 0 (by decide) (hts _ wd_704) (fun _ h9 => h9) rfl d_Mo_unit_63 ?_
      refine lv_if_ne (tgt := 80) hx hb d_Mo_unit_66 (by decide) (fun _ => ?_) (fun h0 => absurd h0 (by decide))
      have hP9 := hP.sub (ws' := [(g0, .inr (6, [.int 2, .int (nI n), .ref m_sea, .ref m_center, .ref m_home, .ref m_borders, .int mp, .int mt, .ref m_owner, .ref m_units, .ref m_kind, .ref m_toX, .ref m_toY, .ref m_results, .ref m_known, .ref m_reached, .ref m_way, .ref m_aside, .ref m_origin, .ref m_retreats, .ref m_contested, .ref m_moved, .int msh, .ref m_past])), (m_sea, .inl (cZ, 12, .inl (fun j => bI (S j)))), (m_borders, .inl (cZ, 144, .inl (fun j => bI (Bo j)))), (m_units, .inl (cI, 12, .inl fu))]) [0, 1, 2, 3] rfl
      have hD9 := hD.sub (ws' := [(g0, .inr (6, [.int 2, .int (nI n), .ref m_sea, .ref m_center, .ref m_home, .ref m_borders, .int mp, .int mt, .ref m_owner, .ref m_units, .ref m_kind, .ref m_toX, .ref m_toY, .ref m_results, .ref m_known, .ref m_reached, .ref m_way, .ref m_aside, .ref m_origin, .ref m_retreats, .ref m_contested, .ref m_moved, .int msh, .ref m_past])), (m_sea, .inl (cZ, 12, .inl (fun j => bI (S j)))), (m_borders, .inl (cZ, 144, .inl (fun j => bI (Bo j)))), (m_units, .inl (cI, 12, .inl fu))]) [0, 1, 2, 3] (by decide) rfl
      exact W.vret hx hb hr (fun t ht hW => ⟨⟨(), rfl, trivial, by rw [ht]; exact hP9, hD9⟩, hS.F ht⟩) hS.2.2 d_Mo_unit_80
    · -- 42 not taken
      have hc7 : (fu a) < 0 := Int32.not_le.mp hc7
      refine lv_aload_n hx hb d_Mo_unit_45 rfl (lv_at hl 0 rfl) ?_
      refine lv_iload_n hx hb d_Mo_unit_46 rfl (lv_at hl 1 rfl) ?_
      refine lv_iload_n hx hb d_Mo_unit_47 rfl (lv_at hl 3 rfl) ?_
      have hPc := hP.sub (ws' := [(g0, .inr (6, [.int co, .int (nI n), .ref m_sea, .ref m_center, .ref m_home, .ref m_borders, .int mp, .int mt, .ref m_owner, .ref m_units, .ref m_kind, .ref m_toX, .ref m_toY, .ref m_results, .ref m_known, .ref m_reached, .ref m_way, .ref m_aside, .ref m_origin, .ref m_retreats, .ref m_contested, .ref m_moved, .int msh, .ref m_past])), (m_sea, .inl (cZ, 12, .inl (fun j => bI (S j)))), (m_borders, .inl (cZ, 144, .inl (fun j => bI (Bo j))))]) [0, 1, 2] rfl
      refine vp_callSi (va_Run.run (va_runV (As := [.int (nI a), .int (nI k)]) (rest := [.ref g0]) ⟨hx, hb, hml, hown, hts⟩ (c_Mo_canBe l D cI cZ cJ cS aT ceT  g0 m_sea m_center m_home m_borders m_owner m_units m_kind m_toX m_toY m_results m_known m_reached m_way m_aside m_origin m_retreats m_contested m_moved m_past n co mp mt msh S Bo a (nI k) (Nat.lt_of_lt_of_le h_a hn) hn) (cwV 2 hts (tb_4 wd_805 wd_807 wp_38 wd_8 (tb_c wd_808)) rfl rfl rfl ⟨rfl, by decide, by decide, by decide +kernel⟩ ⟨Nat.le_of_ble_eq_true rfl, Nat.le_of_ble_eq_true rfl⟩) (tP_V hK hX (hS.2.1 aT hXl hXn) hPc (q := 0) rfl rfl) rfl rfl hl.1 rfl (lv_room (Nat.le_of_ble_eq_true rfl)) d_Mo_unit_48 ⟨Nat.le_of_ble_eq_true rfl, Nat.le_of_ble_eq_true rfl⟩)) (fun r9 hr9 => ?_)
      rw [hr9]
      rcases bI_c (if (nI k) = 0 then !S a else S a || anyB (fun b => S b && Bo (12 * a + b)) n) with ⟨hb11, e9⟩ | ⟨hb11, e9⟩
      · refine tr_top e9 ?_
        refine lv_if_ne (tgt := 58) hx hb d_Mo_unit_51 (by decide) (fun _ => ?_) (fun h0 => absurd h0 (by decide))
        exact absurd ⟨hc5, hc7, hb11⟩ hbad
      · refine tr_top e9 ?_
        refine lv_if_ne (tgt := 58) hx hb d_Mo_unit_51 (by decide) (fun h0 => absurd (by decide) h0) (fun _ => ?_)
        refine lv_iconst (v := 2) hx hb d_Mo_unit_54 (by decide) ?_
        refine lv_goto (tgt := 59) hx hb d_Mo_unit_55 (by decide) ?_
        refine va_put (D := D) (ci := 6) (v := .int 2) (ty := .int) (C := R_Mo) (T := T_Mo) (N := 24) hx hb hts hin_Mo ty_Mo tyok_Mo nm_Mo hown hK hP hD hS 0 rfl rfl 0 (by decide) (hts _ wd_704) (fun _ h9 => h9) rfl (by decide +kernel) rfl rfl (Nat.le_of_ble_eq_true rfl) d_Mo_unit_59 (fun H locs hP hD hS => ?_)
        have hP : va_P D vwCl [(g0, .inr (6, [.int 2, .int (nI n), .ref m_sea, .ref m_center, .ref m_home, .ref m_borders, .int mp, .int mt, .ref m_owner, .ref m_units, .ref m_kind, .ref m_toX, .ref m_toY, .ref m_results, .ref m_known, .ref m_reached, .ref m_way, .ref m_aside, .ref m_origin, .ref m_retreats, .ref m_contested, .ref m_moved, .int msh, .ref m_past])), (m_sea, .inl (cZ, 12, .inl (fun j => bI (S j)))), (m_borders, .inl (cZ, 144, .inl (fun j => bI (Bo j)))), (m_units, .inl (cI, 12, .inl fu))] H := hP
        have hD : va_D A [(g0, .inr (6, [.int 2, .int (nI n), .ref m_sea, .ref m_center, .ref m_home, .ref m_borders, .int mp, .int mt, .ref m_owner, .ref m_units, .ref m_kind, .ref m_toX, .ref m_toY, .ref m_results, .ref m_known, .ref m_reached, .ref m_way, .ref m_aside, .ref m_origin, .ref m_retreats, .ref m_contested, .ref m_moved, .int msh, .ref m_past])), (m_sea, .inl (cZ, 12, .inl (fun j => bI (S j)))), (m_borders, .inl (cZ, 144, .inl (fun j => bI (Bo j)))), (m_units, .inl (cI, 12, .inl fu))] := hD
        refine lv_aload_n hx hb d_Mo_unit_62 rfl (lv_at hl 0 rfl) ?_
        refine va_get (D := D) (ci := 6) (v := .int 2) (C := R_Mo) (T := T_Mo) (N := 24) hx hb hts hin_Mo hown hK hP 0 rfl rfl 0 (by decide) (hts _ wd_704) (fun _ h9 => h9) rfl d_Mo_unit_63 ?_
        refine lv_if_ne (tgt := 80) hx hb d_Mo_unit_66 (by decide) (fun _ => ?_) (fun h0 => absurd h0 (by decide))
        have hP9 := hP.sub (ws' := [(g0, .inr (6, [.int 2, .int (nI n), .ref m_sea, .ref m_center, .ref m_home, .ref m_borders, .int mp, .int mt, .ref m_owner, .ref m_units, .ref m_kind, .ref m_toX, .ref m_toY, .ref m_results, .ref m_known, .ref m_reached, .ref m_way, .ref m_aside, .ref m_origin, .ref m_retreats, .ref m_contested, .ref m_moved, .int msh, .ref m_past])), (m_sea, .inl (cZ, 12, .inl (fun j => bI (S j)))), (m_borders, .inl (cZ, 144, .inl (fun j => bI (Bo j)))), (m_units, .inl (cI, 12, .inl fu))]) [0, 1, 2, 3] rfl
        have hD9 := hD.sub (ws' := [(g0, .inr (6, [.int 2, .int (nI n), .ref m_sea, .ref m_center, .ref m_home, .ref m_borders, .int mp, .int mt, .ref m_owner, .ref m_units, .ref m_kind, .ref m_toX, .ref m_toY, .ref m_results, .ref m_known, .ref m_reached, .ref m_way, .ref m_aside, .ref m_origin, .ref m_retreats, .ref m_contested, .ref m_moved, .int msh, .ref m_past])), (m_sea, .inl (cZ, 12, .inl (fun j => bI (S j)))), (m_borders, .inl (cZ, 144, .inl (fun j => bI (Bo j)))), (m_units, .inl (cI, 12, .inl fu))]) [0, 1, 2, 3] (by decide) rfl
        exact W.vret hx hb hr (fun t ht hW => ⟨⟨(), rfl, trivial, by rw [ht]; exact hP9, hD9⟩, hS.F ht⟩) hS.2.2 d_Mo_unit_80
