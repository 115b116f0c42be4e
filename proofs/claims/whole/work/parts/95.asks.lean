
set_option maxHeartbeats 4000000 in
set_option maxRecDepth 100000 in
theorem c_Mo_mayGoN (l : Launch) (D : va_G) (cI cZ cJ cS : ClassId) (aT : Nat) (ceT : Cell) (sz : Nat) (g0 m_sea m_center m_home m_borders m_owner m_units m_kind m_toX m_toY m_results m_known m_reached m_way m_aside m_origin m_retreats m_contested m_moved m_past : Nat) (co ar mp mt msh : Int32) (a b : Int32) (hno9 : ¬ ((0 ≤ a ∧ a < ar) ∧ (0 ≤ b ∧ b < ar))) : Met l y_Mo_mayGo w_Mo_mayGo ({ frames := 1, cells := 0, slots := 0, locals := 21 }) (tH D cI cZ cJ cS aT ceT [.ref g0, .int a, .int b] sz [(g0, .inr (6, [.int co, .int ar, .ref m_sea, .ref m_center, .ref m_home, .ref m_borders, .int mp, .int mt, .ref m_owner, .ref m_units, .ref m_kind, .ref m_toX, .ref m_toY, .ref m_results, .ref m_known, .ref m_reached, .ref m_way, .ref m_aside, .ref m_origin, .ref m_retreats, .ref m_contested, .ref m_moved, .int msh, .ref m_past]))]) (va_Qi (fun (r : Int32) (_ : Unit) => r = 0) (fun _ t => tB D (va_A [(g0, .inr (6, [.int co, .int ar, .ref m_sea, .ref m_center, .ref m_home, .ref m_borders, .int mp, .int mt, .ref m_owner, .ref m_units, .ref m_kind, .ref m_toX, .ref m_toY, .ref m_results, .ref m_known, .ref m_reached, .ref m_way, .ref m_aside, .ref m_origin, .ref m_retreats, .ref m_contested, .ref m_moved, .int msh, .ref m_past]))] sz) [(g0, .inr (6, [.int 0, .int ar, .ref m_sea, .ref m_center, .ref m_home, .ref m_borders, .int mp, .int mt, .ref m_owner, .ref m_units, .ref m_kind, .ref m_toX, .ref m_toY, .ref m_results, .ref m_known, .ref m_reached, .ref m_way, .ref m_aside, .ref m_origin, .ref m_retreats, .ref m_contested, .ref m_moved, .int msh, .ref m_past]))] t) (va_A [(g0, .inr (6, [.int co, .int ar, .ref m_sea, .ref m_center, .ref m_home, .ref m_borders, .int mp, .int mt, .ref m_owner, .ref m_units, .ref m_kind, .ref m_toX, .ref m_toY, .ref m_results, .ref m_known, .ref m_reached, .ref m_way, .ref m_aside, .ref m_origin, .ref m_retreats, .ref m_contested, .ref m_moved, .int msh, .ref m_past]))] sz)) 0 0 (va_A [(g0, .inr (6, [.int co, .int ar, .ref m_sea, .ref m_center, .ref m_home, .ref m_borders, .int mp, .int mt, .ref m_owner, .ref m_units, .ref m_kind, .ref m_toX, .ref m_toY, .ref m_results, .ref m_known, .ref m_reached, .ref m_way, .ref m_aside, .ref m_origin, .ref m_retreats, .ref m_contested, .ref m_moved, .int msh, .ref m_past]))] sz) := by
  refine Met.ofW (cc := b_Mo_mayGo) (maxL := 3) (ret := (some .boolean)) (by decide) rfl ?_
  intro p e s m args below meth c s₁ B hml hv
  obtain ⟨rfl, hsz, hP, hK, hD0, hX⟩ := hv
  have hx := B.exec
  have hb := B.bytes
  have hr := B.returns
  have hts0 := atoms_spec (ws := w_Mo_mayGo) B.pre
  have hts : ∀ w ∈ TB, w.before _ s = true := fun w h => hts0 w (List.mem_cons_of_mem _ h)
  have hown : s.vm.findClass R_Mo = some m.cls := findClass_of_methodNamed B.named
  have hlocks := B.notSynchronized
  subst hsz
  have hXl := tx_lt hX
  have hXn := tx_far hP hX
  have hD := hD0.self (sz := s.heap.size)
  generalize hAe : va_A [(g0, .inr (6, [.int co, .int ar, .ref m_sea, .ref m_center, .ref m_home, .ref m_borders, .int mp, .int mt, .ref m_owner, .ref m_units, .ref m_kind, .ref m_toX, .ref m_toY, .ref m_results, .ref m_known, .ref m_reached, .ref m_way, .ref m_aside, .ref m_origin, .ref m_retreats, .ref m_contested, .ref m_moved, .int msh, .ref m_past]))] s.heap.size = A at hD hXn ⊢
  have hA : ∀ q : Nat, s.heap.size ≤ q → A q := fun q h => by rw [← hAe]; exact Or.inr h
  have hS : va_S A s.heap s.heap [] := va_S.rf
  have hXH : s.heap[aT]? = s.heap[aT]? := rfl
  have hl := lv_entry ([.ref g0, .int a, .int b]) (n := 3) (Nat.le_of_ble_eq_true rfl)
  rw [lg_entry_eq]
  generalize (lg_sl ([.ref g0, .int a, .int b]) ++ List.replicate (3 - (lg_sl ([.ref g0, .int a, .int b])).length) Slot.unset).toArray = ls at hl ⊢
  have hl : lv_has ls 3 [(0, .ref g0), (1, .int a), (2, .int b)] := hl
  refine lv_aload_n hx hb d_Mo_mayGo_0 rfl (lv_at hl 0 rfl) ?_
  refine lv_iconst (v := 0) hx hb d_Mo_mayGo_1 (by decide) ?_
  refine va_put (D := D) (ci := 6) (v := .int 0) (ty := .int) (C := R_Mo) (T := T_Mo) (N := 24) hx hb hts hin_Mo ty_Mo tyok_Mo nm_Mo hown hK hP hD hS 0 rfl rfl 0 (by decide) (hts _ wd_704) (fun _ h9 => h9) rfl (by decide +kernel) rfl rfl (Nat.le_of_ble_eq_true rfl) d_Mo_mayGo_2 (fun H locs hP hD hS => ?_)
  have hP : va_P D vwCl [(g0, .inr (6, [.int 0, .int ar, .ref m_sea, .ref m_center, .ref m_home, .ref m_borders, .int mp, .int mt, .ref m_owner, .ref m_units, .ref m_kind, .ref m_toX, .ref m_toY, .ref m_results, .ref m_known, .ref m_reached, .ref m_way, .ref m_aside, .ref m_origin, .ref m_retreats, .ref m_contested, .ref m_moved, .int msh, .ref m_past]))] H := hP
  have hD : va_D A [(g0, .inr (6, [.int 0, .int ar, .ref m_sea, .ref m_center, .ref m_home, .ref m_borders, .int mp, .int mt, .ref m_owner, .ref m_units, .ref m_kind, .ref m_toX, .ref m_toY, .ref m_results, .ref m_known, .ref m_reached, .ref m_way, .ref m_aside, .ref m_origin, .ref m_retreats, .ref m_contested, .ref m_moved, .int msh, .ref m_past]))] := hD
  refine lv_aload_n hx hb d_Mo_mayGo_5 rfl (lv_at hl 0 rfl) ?_
  refine lv_iload_n hx hb d_Mo_mayGo_6 rfl (lv_at hl 1 rfl) ?_
  have hPc := hP.sub (ws' := [(g0, .inr (6, [.int 0, .int ar, .ref m_sea, .ref m_center, .ref m_home, .ref m_borders, .int mp, .int mt, .ref m_owner, .ref m_units, .ref m_kind, .ref m_toX, .ref m_toY, .ref m_results, .ref m_known, .ref m_reached, .ref m_way, .ref m_aside, .ref m_origin, .ref m_retreats, .ref m_contested, .ref m_moved, .int msh, .ref m_past]))]) [0] rfl
  refine vp_callSi (va_Run.run (va_runV (As := [.int a]) (rest := []) ⟨hx, hb, hml, hown, hts⟩ (c_Mo_isArea l D cI cZ cJ cS aT ceT  g0 m_sea m_center m_home m_borders m_owner m_units m_kind m_toX m_toY m_results m_known m_reached m_way m_aside m_origin m_retreats m_contested m_moved m_past 0 ar mp mt msh a ) (cwV 1 hts (tb_4 wd_790 wd_792 wp_36 wd_8 (tb_c wd_793)) rfl rfl rfl ⟨rfl, by decide, by decide, by decide +kernel⟩ ⟨Nat.le_of_ble_eq_true rfl, Nat.le_of_ble_eq_true rfl⟩) (tP_V hK hX (hS.2.1 aT hXl hXn) hPc (q := 0) rfl rfl) rfl rfl hl.1 rfl (lv_room (Nat.le_of_ble_eq_true rfl)) d_Mo_mayGo_7 ⟨Nat.le_of_ble_eq_true rfl, Nat.le_of_ble_eq_true rfl⟩)) (fun r1 hr9 => ?_)
  rcases hr9 with ⟨rfl, hq2⟩ | ⟨rfl, hq2⟩
  · -- 7: true
    refine lv_if_eq (tgt := 43) hx hb d_Mo_mayGo_10 (by decide) (fun h0 => absurd h0 (by decide)) (fun _ => ?_)
    refine lv_aload_n hx hb d_Mo_mayGo_13 rfl (lv_at hl 0 rfl) ?_
    refine lv_iload_n hx hb d_Mo_mayGo_14 rfl (lv_at hl 2 rfl) ?_
    have hPc := hP.sub (ws' := [(g0, .inr (6, [.int 0, .int ar, .ref m_sea, .ref m_center, .ref m_home, .ref m_borders, .int mp, .int mt, .ref m_owner, .ref m_units, .ref m_kind, .ref m_toX, .ref m_toY, .ref m_results, .ref m_known, .ref m_reached, .ref m_way, .ref m_aside, .ref m_origin, .ref m_retreats, .ref m_contested, .ref m_moved, .int msh, .ref m_past]))]) [0] rfl
    refine vp_callSi (va_Run.run (va_runV (As := [.int b]) (rest := []) ⟨hx, hb, hml, hown, hts⟩ (c_Mo_isArea l D cI cZ cJ cS aT ceT  g0 m_sea m_center m_home m_borders m_owner m_units m_kind m_toX m_toY m_results m_known m_reached m_way m_aside m_origin m_retreats m_contested m_moved m_past 0 ar mp mt msh b ) (cwV 1 hts (tb_4 wd_790 wd_792 wp_36 wd_8 (tb_c wd_793)) rfl rfl rfl ⟨rfl, by decide, by decide, by decide +kernel⟩ ⟨Nat.le_of_ble_eq_true rfl, Nat.le_of_ble_eq_true rfl⟩) (tP_V hK hX (hS.2.1 aT hXl hXn) hPc (q := 0) rfl rfl) rfl rfl hl.1 rfl (lv_room (Nat.le_of_ble_eq_true rfl)) d_Mo_mayGo_15 ⟨Nat.le_of_ble_eq_true rfl, Nat.le_of_ble_eq_true rfl⟩)) (fun r4 hr9 => ?_)
    rcases hr9 with ⟨rfl, hq5⟩ | ⟨rfl, hq5⟩
    · -- 15: true
      refine lv_if_eq (tgt := 43) hx hb d_Mo_mayGo_18 (by decide) (fun h0 => absurd h0 (by decide)) (fun _ => ?_)
      exact absurd ⟨hq2, hq5⟩ hno9
    · -- 15: false
      refine lv_if_eq (tgt := 43) hx hb d_Mo_mayGo_18 (by decide) (fun _ => ?_) (fun h0 => absurd (by decide) h0)
      refine lv_iconst (v := 0) hx hb d_Mo_mayGo_43 (by decide) ?_
      have hP9 := hP.sub (ws' := [(g0, .inr (6, [.int 0, .int ar, .ref m_sea, .ref m_center, .ref m_home, .ref m_borders, .int mp, .int mt, .ref m_owner, .ref m_units, .ref m_kind, .ref m_toX, .ref m_toY, .ref m_results, .ref m_known, .ref m_reached, .ref m_way, .ref m_aside, .ref m_origin, .ref m_retreats, .ref m_contested, .ref m_moved, .int msh, .ref m_past]))]) [0] rfl
      have hD9 := hD.sub (ws' := [(g0, .inr (6, [.int 0, .int ar, .ref m_sea, .ref m_center, .ref m_home, .ref m_borders, .int mp, .int mt, .ref m_owner, .ref m_units, .ref m_kind, .ref m_toX, .ref m_toY, .ref m_results, .ref m_known, .ref m_reached, .ref m_way, .ref m_aside, .ref m_origin, .ref m_retreats, .ref m_contested, .ref m_moved, .int msh, .ref m_past]))]) [0] (by decide) rfl
      exact W.zret (v := 0) hx hb hr (by decide) (fun t ht hW => ⟨⟨0, (), rfl, rfl, by rw [ht]; exact hP9, hD9⟩, hS.F ht⟩) hS.2.2 d_Mo_mayGo_44
  · -- 7: false
    refine lv_if_eq (tgt := 43) hx hb d_Mo_mayGo_10 (by decide) (fun _ => ?_) (fun h0 => absurd (by decide) h0)
    refine lv_iconst (v := 0) hx hb d_Mo_mayGo_43 (by decide) ?_
    have hP9 := hP.sub (ws' := [(g0, .inr (6, [.int 0, .int ar, .ref m_sea, .ref m_center, .ref m_home, .ref m_borders, .int mp, .int mt, .ref m_owner, .ref m_units, .ref m_kind, .ref m_toX, .ref m_toY, .ref m_results, .ref m_known, .ref m_reached, .ref m_way, .ref m_aside, .ref m_origin, .ref m_retreats, .ref m_contested, .ref m_moved, .int msh, .ref m_past]))]) [0] rfl
    have hD9 := hD.sub (ws' := [(g0, .inr (6, [.int 0, .int ar, .ref m_sea, .ref m_center, .ref m_home, .ref m_borders, .int mp, .int mt, .ref m_owner, .ref m_units, .ref m_kind, .ref m_toX, .ref m_toY, .ref m_results, .ref m_known, .ref m_reached, .ref m_way, .ref m_aside, .ref m_origin, .ref m_retreats, .ref m_contested, .ref m_moved, .int msh, .ref m_past]))]) [0] (by decide) rfl
    exact W.zret (v := 0) hx hb hr (by decide) (fun t ht hW => ⟨⟨0, (), rfl, rfl, by rw [ht]; exact hP9, hD9⟩, hS.F ht⟩) hS.2.2 d_Mo_mayGo_44


set_option maxHeartbeats 4000000 in
set_option maxRecDepth 100000 in
theorem c_Mo_mayGoY (l : Launch) (D : va_G) (cI cZ cJ cS : ClassId) (aT : Nat) (ceT : Cell) (sz : Nat) (g0 m_sea m_center m_home m_borders m_owner m_units m_kind m_toX m_toY m_results m_known m_reached m_way m_aside m_origin m_retreats m_contested m_moved m_past : Nat) (n : Nat) (co mp mt msh : Int32) (S : Nat → Bool) (Bo : Nat → Bool) (fu : Nat → Int32) (fa : Nat → Int32) (fg : Nat → Int32) (Co : Nat → Bool) (a b : Nat) (hn : n ≤ 12) (h_a : a < n) (h_b : b < n) : Met l y_Mo_mayGo w_Mo_mayGo ({ frames := 3, cells := 0, slots := 0, locals := 67 }) (tH D cI cZ cJ cS aT ceT [.ref g0, .int (nI a), .int (nI b)] sz [(g0, .inr (6, [.int co, .int (nI n), .ref m_sea, .ref m_center, .ref m_home, .ref m_borders, .int mp, .int mt, .ref m_owner, .ref m_units, .ref m_kind, .ref m_toX, .ref m_toY, .ref m_results, .ref m_known, .ref m_reached, .ref m_way, .ref m_aside, .ref m_origin, .ref m_retreats, .ref m_contested, .ref m_moved, .int msh, .ref m_past])), (m_sea, .inl (cZ, 12, .inl (fun j => bI (S j)))), (m_borders, .inl (cZ, 144, .inl (fun j => bI (Bo j)))), (m_units, .inl (cI, 12, .inl fu)), (m_aside, .inl (cI, 12, .inl fa)), (m_origin, .inl (cI, 12, .inl fg)), (m_contested, .inl (cZ, 12, .inl (fun j => bI (Co j))))]) (va_Qi (fun (r : Int32) (_ : Unit) => r = bI (!decide (fa a < 0) && (cGo Bo S (fa a) a b && decide (fu b < 0) && !Co b && !decide (fg a = nI b)))) (fun _ t => tB D (va_A [(g0, .inr (6, [.int co, .int (nI n), .ref m_sea, .ref m_center, .ref m_home, .ref m_borders, .int mp, .int mt, .ref m_owner, .ref m_units, .ref m_kind, .ref m_toX, .ref m_toY, .ref m_results, .ref m_known, .ref m_reached, .ref m_way, .ref m_aside, .ref m_origin, .ref m_retreats, .ref m_contested, .ref m_moved, .int msh, .ref m_past])), (m_sea, .inl (cZ, 12, .inl (fun j => bI (S j)))), (m_borders, .inl (cZ, 144, .inl (fun j => bI (Bo j)))), (m_units, .inl (cI, 12, .inl fu)), (m_aside, .inl (cI, 12, .inl fa)), (m_origin, .inl (cI, 12, .inl fg)), (m_contested, .inl (cZ, 12, .inl (fun j => bI (Co j))))] sz) [(g0, .inr (6, [.int 0, .int (nI n), .ref m_sea, .ref m_center, .ref m_home, .ref m_borders, .int mp, .int mt, .ref m_owner, .ref m_units, .ref m_kind, .ref m_toX, .ref m_toY, .ref m_results, .ref m_known, .ref m_reached, .ref m_way, .ref m_aside, .ref m_origin, .ref m_retreats, .ref m_contested, .ref m_moved, .int msh, .ref m_past])), (m_sea, .inl (cZ, 12, .inl (fun j => bI (S j)))), (m_borders, .inl (cZ, 144, .inl (fun j => bI (Bo j)))), (m_units, .inl (cI, 12, .inl fu)), (m_aside, .inl (cI, 12, .inl fa)), (m_origin, .inl (cI, 12, .inl fg)), (m_contested, .inl (cZ, 12, .inl (fun j => bI (Co j))))] t) (va_A [(g0, .inr (6, [.int co, .int (nI n), .ref m_sea, .ref m_center, .ref m_home, .ref m_borders, .int mp, .int mt, .ref m_owner, .ref m_units, .ref m_kind, .ref m_toX, .ref m_toY, .ref m_results, .ref m_known, .ref m_reached, .ref m_way, .ref m_aside, .ref m_origin, .ref m_retreats, .ref m_contested, .ref m_moved, .int msh, .ref m_past])), (m_sea, .inl (cZ, 12, .inl (fun j => bI (S j)))), (m_borders, .inl (cZ, 144, .inl (fun j => bI (Bo j)))), (m_units, .inl (cI, 12, .inl fu)), (m_aside, .inl (cI, 12, .inl fa)), (m_origin, .inl (cI, 12, .inl fg)), (m_contested, .inl (cZ, 12, .inl (fun j => bI (Co j))))] sz)) 0 0 (va_A [(g0, .inr (6, [.int co, .int (nI n), .ref m_sea, .ref m_center, .ref m_home, .ref m_borders, .int mp, .int mt, .ref m_owner, .ref m_units, .ref m_kind, .ref m_toX, .ref m_toY, .ref m_results, .ref m_known, .ref m_reached, .ref m_way, .ref m_aside, .ref m_origin, .ref m_retreats, .ref m_contested, .ref m_moved, .int msh, .ref m_past])), (m_sea, .inl (cZ, 12, .inl (fun j => bI (S j)))), (m_borders, .inl (cZ, 144, .inl (fun j => bI (Bo j)))), (m_units, .inl (cI, 12, .inl fu)), (m_aside, .inl (cI, 12, .inl fa)), (m_origin, .inl (cI, 12, .inl fg)), (m_contested, .inl (cZ, 12, .inl (fun j => bI (Co j))))] sz) := by
  refine Met.ofW (cc := b_Mo_mayGo) (maxL := 3) (ret := (some .boolean)) (by decide) rfl ?_
  intro p e s m args below meth c s₁ B hml hv
  obtain ⟨rfl, hsz, hP, hK, hD0, hX⟩ := hv
  have hx := B.exec
  have hb := B.bytes
  have hr := B.returns
  have hts0 := atoms_spec (ws := w_Mo_mayGo) B.pre
  have hts : ∀ w ∈ TB, w.before _ s = true := fun w h => hts0 w (List.mem_cons_of_mem _ h)
  have hown : s.vm.findClass R_Mo = some m.cls := findClass_of_methodNamed B.named
  have hlocks := B.notSynchronized
  subst hsz
  have hXl := tx_lt hX
  have hXn := tx_far hP hX
  have hD := hD0.self (sz := s.heap.size)
  generalize hAe : va_A [(g0, .inr (6, [.int co, .int (nI n), .ref m_sea, .ref m_center, .ref m_home, .ref m_borders, .int mp, .int mt, .ref m_owner, .ref m_units, .ref m_kind, .ref m_toX, .ref m_toY, .ref m_results, .ref m_known, .ref m_reached, .ref m_way, .ref m_aside, .ref m_origin, .ref m_retreats, .ref m_contested, .ref m_moved, .int msh, .ref m_past])), (m_sea, .inl (cZ, 12, .inl (fun j => bI (S j)))), (m_borders, .inl (cZ, 144, .inl (fun j => bI (Bo j)))), (m_units, .inl (cI, 12, .inl fu)), (m_aside, .inl (cI, 12, .inl fa)), (m_origin, .inl (cI, 12, .inl fg)), (m_contested, .inl (cZ, 12, .inl (fun j => bI (Co j))))] s.heap.size = A at hD hXn ⊢
  have hA : ∀ q : Nat, s.heap.size ≤ q → A q := fun q h => by rw [← hAe]; exact Or.inr h
  have hS : va_S A s.heap s.heap [] := va_S.rf
  have hXH : s.heap[aT]? = s.heap[aT]? := rfl
  have hl := lv_entry ([.ref g0, .int (nI a), .int (nI b)]) (n := 3) (Nat.le_of_ble_eq_true rfl)
  rw [lg_entry_eq]
  generalize (lg_sl ([.ref g0, .int (nI a), .int (nI b)]) ++ List.replicate (3 - (lg_sl ([.ref g0, .int (nI a), .int (nI b)])).length) Slot.unset).toArray = ls at hl ⊢
  have hl : lv_has ls 3 [(0, .ref g0), (1, .int (nI a)), (2, .int (nI b))] := hl
  refine lv_aload_n hx hb d_Mo_mayGo_0 rfl (lv_at hl 0 rfl) ?_
  refine lv_iconst (v := 0) hx hb d_Mo_mayGo_1 (by decide) ?_
  refine va_put (D := D) (ci := 6) (v := .int 0) (ty := .int) (C := R_Mo) (T := T_Mo) (N := 24) hx hb hts hin_Mo ty_Mo tyok_Mo nm_Mo hown hK hP hD hS 0 rfl rfl 0 (by decide) (hts _ wd_704) (fun _ h9 => h9) rfl (by decide +kernel) rfl rfl (Nat.le_of_ble_eq_true rfl) d_Mo_mayGo_2 (fun H locs hP hD hS => ?_)
  have hP : va_P D vwCl [(g0, .inr (6, [.int 0, .int (nI n), .ref m_sea, .ref m_center, .ref m_home, .ref m_borders, .int mp, .int mt, .ref m_owner, .ref m_units, .ref m_kind, .ref m_toX, .ref m_toY, .ref m_results, .ref m_known, .ref m_reached, .ref m_way, .ref m_aside, .ref m_origin, .ref m_retreats, .ref m_contested, .ref m_moved, .int msh, .ref m_past])), (m_sea, .inl (cZ, 12, .inl (fun j => bI (S j)))), (m_borders, .inl (cZ, 144, .inl (fun j => bI (Bo j)))), (m_units, .inl (cI, 12, .inl fu)), (m_aside, .inl (cI, 12, .inl fa)), (m_origin, .inl (cI, 12, .inl fg)), (m_contested, .inl (cZ, 12, .inl (fun j => bI (Co j))))] H := hP
  have hD : va_D A [(g0, .inr (6, [.int 0, .int (nI n), .ref m_sea, .ref m_center, .ref m_home, .ref m_borders, .int mp, .int mt, .ref m_owner, .ref m_units, .ref m_kind, .ref m_toX, .ref m_toY, .ref m_results, .ref m_known, .ref m_reached, .ref m_way, .ref m_aside, .ref m_origin, .ref m_retreats, .ref m_contested, .ref m_moved, .int msh, .ref m_past])), (m_sea, .inl (cZ, 12, .inl (fun j => bI (S j)))), (m_borders, .inl (cZ, 144, .inl (fun j => bI (Bo j)))), (m_units, .inl (cI, 12, .inl fu)), (m_aside, .inl (cI, 12, .inl fa)), (m_origin, .inl (cI, 12, .inl fg)), (m_contested, .inl (cZ, 12, .inl (fun j => bI (Co j))))] := hD
  refine lv_aload_n hx hb d_Mo_mayGo_5 rfl (lv_at hl 0 rfl) ?_
  refine lv_iload_n hx hb d_Mo_mayGo_6 rfl (lv_at hl 1 rfl) ?_
  have hPc := hP.sub (ws' := [(g0, .inr (6, [.int 0, .int (nI n), .ref m_sea, .ref m_center, .ref m_home, .ref m_borders, .int mp, .int mt, .ref m_owner, .ref m_units, .ref m_kind, .ref m_toX, .ref m_toY, .ref m_results, .ref m_known, .ref m_reached, .ref m_way, .ref m_aside, .ref m_origin, .ref m_retreats, .ref m_contested, .ref m_moved, .int msh, .ref m_past]))]) [0] rfl
  refine vp_callSi (va_Run.run (va_runV (As := [.int (nI a)]) (rest := []) ⟨hx, hb, hml, hown, hts⟩ (c_Mo_isAreaY l D cI cZ cJ cS aT ceT  g0 m_sea m_center m_home m_borders m_owner m_units m_kind m_toX m_toY m_results m_known m_reached m_way m_aside m_origin m_retreats m_contested m_moved m_past n 0 mp mt msh a hn h_a) (cwV 1 hts (tb_4 wd_790 wd_792 wp_36 wd_8 (tb_c wd_793)) rfl rfl rfl ⟨rfl, by decide, by decide, by decide +kernel⟩ ⟨Nat.le_of_ble_eq_true rfl, Nat.le_of_ble_eq_true rfl⟩) (tP_V hK hX (hS.2.1 aT hXl hXn) hPc (q := 0) rfl rfl) rfl rfl hl.1 rfl (lv_room (Nat.le_of_ble_eq_true rfl)) d_Mo_mayGo_7 ⟨Nat.le_of_ble_eq_true rfl, Nat.le_of_ble_eq_true rfl⟩)) (fun r1 hr9 => ?_)
  rw [hr9]
  refine lv_if_eq (tgt := 43) hx hb d_Mo_mayGo_10 (by decide) (fun h0 => absurd h0 (by decide)) (fun _ => ?_)
  refine lv_aload_n hx hb d_Mo_mayGo_13 rfl (lv_at hl 0 rfl) ?_
  refine lv_iload_n hx hb d_Mo_mayGo_14 rfl (lv_at hl 2 rfl) ?_
  have hPc := hP.sub (ws' := [(g0, .inr (6, [.int 0, .int (nI n), .ref m_sea, .ref m_center, .ref m_home, .ref m_borders, .int mp, .int mt, .ref m_owner, .ref m_units, .ref m_kind, .ref m_toX, .ref m_toY, .ref m_results, .ref m_known, .ref m_reached, .ref m_way, .ref m_aside, .ref m_origin, .ref m_retreats, .ref m_contested, .ref m_moved, .int msh, .ref m_past]))]) [0] rfl
  refine vp_callSi (va_Run.run (va_runV (As := [.int (nI b)]) (rest := []) ⟨hx, hb, hml, hown, hts⟩ (c_Mo_isAreaY l D cI cZ cJ cS aT ceT  g0 m_sea m_center m_home m_borders m_owner m_units m_kind m_toX m_toY m_results m_known m_reached m_way m_aside m_origin m_retreats m_contested m_moved m_past n 0 mp mt msh b hn h_b) (cwV 1 hts (tb_4 wd_790 wd_792 wp_36 wd_8 (tb_c wd_793)) rfl rfl rfl ⟨rfl, by decide, by decide, by decide +kernel⟩ ⟨Nat.le_of_ble_eq_true rfl, Nat.le_of_ble_eq_true rfl⟩) (tP_V hK hX (hS.2.1 aT hXl hXn) hPc (q := 0) rfl rfl) rfl rfl hl.1 rfl (lv_room (Nat.le_of_ble_eq_true rfl)) d_Mo_mayGo_15 ⟨Nat.le_of_ble_eq_true rfl, Nat.le_of_ble_eq_true rfl⟩)) (fun r3 hr9 => ?_)
  rw [hr9]
  refine lv_if_eq (tgt := 43) hx hb d_Mo_mayGo_18 (by decide) (fun h0 => absurd h0 (by decide)) (fun _ => ?_)
  refine lv_aload_n hx hb d_Mo_mayGo_21 rfl (lv_at hl 0 rfl) ?_
  refine va_get (D := D) (ci := 6) (v := .ref m_aside) (C := R_Mo) (T := T_Mo) (N := 24) hx hb hts hin_Mo hown hK hP 0 rfl rfl 17 (by decide) (hts _ wd_721) (fun _ h9 => h9) rfl d_Mo_mayGo_22 ?_
  refine lv_iload_n hx hb d_Mo_mayGo_25 rfl (lv_at hl 1 rfl) ?_
  refine tr_iald (v := fa a) hx hb hK hP 4 0 rfl rfl a (Nat.lt_of_lt_of_le h_a hn) (by decide) rfl d_Mo_mayGo_26 ?_
  refine lv_if_lt (tgt := 43) hx hb d_Mo_mayGo_27 (by decide) (fun hc5 => ?_) (fun hc5 => ?_)
  · -- 27 taken
    refine lv_iconst (v := 0) hx hb d_Mo_mayGo_43 (by decide) ?_
    have hP9 := hP.sub (ws' := [(g0, .inr (6, [.int 0, .int (nI n), .ref m_sea, .ref m_center, .ref m_home, .ref m_borders, .int mp, .int mt, .ref m_owner, .ref m_units, .ref m_kind, .ref m_toX, .ref m_toY, .ref m_results, .ref m_known, .ref m_reached, .ref m_way, .ref m_aside, .ref m_origin, .ref m_retreats, .ref m_contested, .ref m_moved, .int msh, .ref m_past])), (m_sea, .inl (cZ, 12, .inl (fun j => bI (S j)))), (m_borders, .inl (cZ, 144, .inl (fun j => bI (Bo j)))), (m_units, .inl (cI, 12, .inl fu)), (m_aside, .inl (cI, 12, .inl fa)), (m_origin, .inl (cI, 12, .inl fg)), (m_contested, .inl (cZ, 12, .inl (fun j => bI (Co j))))]) [0, 1, 2, 3, 4, 5, 6] rfl
    have hD9 := hD.sub (ws' := [(g0, .inr (6, [.int 0, .int (nI n), .ref m_sea, .ref m_center, .ref m_home, .ref m_borders, .int mp, .int mt, .ref m_owner, .ref m_units, .ref m_kind, .ref m_toX, .ref m_toY, .ref m_results, .ref m_known, .ref m_reached, .ref m_way, .ref m_aside, .ref m_origin, .ref m_retreats, .ref m_contested, .ref m_moved, .int msh, .ref m_past])), (m_sea, .inl (cZ, 12, .inl (fun j => bI (S j)))), (m_borders, .inl (cZ, 144, .inl (fun j => bI (Bo j)))), (m_units, .inl (cI, 12, .inl fu)), (m_aside, .inl (cI, 12, .inl fa)), (m_origin, .inl (cI, 12, .inl fg)), (m_contested, .inl (cZ, 12, .inl (fun j => bI (Co j))))]) [0, 1, 2, 3, 4, 5, 6] (by decide) rfl
    exact W.zret (v := 0) hx hb hr (by decide) (fun t ht hW => ⟨⟨0, (), rfl, (bI_f (by simp [hc5])).symm, by rw [ht]; exact hP9, hD9⟩, hS.F ht⟩) hS.2.2 d_Mo_mayGo_44
  · -- 27 not taken
    refine lv_aload_n hx hb d_Mo_mayGo_30 rfl (lv_at hl 0 rfl) ?_
    refine lv_iload_n hx hb d_Mo_mayGo_31 rfl (lv_at hl 1 rfl) ?_
    refine lv_iload_n hx hb d_Mo_mayGo_32 rfl (lv_at hl 2 rfl) ?_
    have hPc := hP.sub (ws' := [(g0, .inr (6, [.int 0, .int (nI n), .ref m_sea, .ref m_center, .ref m_home, .ref m_borders, .int mp, .int mt, .ref m_owner, .ref m_units, .ref m_kind, .ref m_toX, .ref m_toY, .ref m_results, .ref m_known, .ref m_reached, .ref m_way, .ref m_aside, .ref m_origin, .ref m_retreats, .ref m_contested, .ref m_moved, .int msh, .ref m_past])), (m_sea, .inl (cZ, 12, .inl (fun j => bI (S j)))), (m_borders, .inl (cZ, 144, .inl (fun j => bI (Bo j)))), (m_units, .inl (cI, 12, .inl fu)), (m_aside, .inl (cI, 12, .inl fa)), (m_origin, .inl (cI, 12, .inl fg)), (m_contested, .inl (cZ, 12, .inl (fun j => bI (Co j))))]) [0, 1, 2, 3, 4, 5, 6] rfl
    refine vp_callSi (va_Run.run (va_runV (As := [.int (nI a), .int (nI b)]) (rest := []) ⟨hx, hb, hml, hown, hts⟩ (c_Mo_free l D cI cZ cJ cS aT ceT  g0 m_sea m_center m_home m_borders m_owner m_units m_kind m_toX m_toY m_results m_known m_reached m_way m_aside m_origin m_retreats m_contested m_moved m_past n 0 mp mt msh S Bo fu fa fg Co a b (Nat.lt_of_lt_of_le h_a hn) (Nat.lt_of_lt_of_le h_b hn)) (cwV 2 hts (tb_4 wd_953 wd_955 wp_71 wd_8 (tb_c wd_956)) rfl rfl rfl ⟨rfl, by decide, by decide, by decide +kernel⟩ ⟨Nat.le_of_ble_eq_true rfl, Nat.le_of_ble_eq_true rfl⟩) (tP_V hK hX (hS.2.1 aT hXl hXn) hPc (q := 0) rfl rfl) rfl rfl hl.1 rfl (lv_room (Nat.le_of_ble_eq_true rfl)) d_Mo_mayGo_33 ⟨Nat.le_of_ble_eq_true rfl, Nat.le_of_ble_eq_true rfl⟩)) (fun r6 hr9 => ?_)
    rw [hr9]
    rcases bI_c (cGo Bo S (fa a) a b && decide (fu b < 0) && !Co b && !decide (fg a = nI b)) with ⟨hb8, e9⟩ | ⟨hb8, e9⟩
    · refine tr_top e9 ?_
      refine lv_if_eq (tgt := 43) hx hb d_Mo_mayGo_36 (by decide) (fun h0 => absurd h0 (by decide)) (fun _ => ?_)
      refine lv_iconst (v := 1) hx hb d_Mo_mayGo_39 (by decide) ?_
      refine lv_goto (tgt := 44) hx hb d_Mo_mayGo_40 (by decide) ?_
      have hP9 := hP.sub (ws' := [(g0, .inr (6, [.int 0, .int (nI n), .ref m_sea, .ref m_center, .ref m_home, .ref m_borders, .int mp, .int mt, .ref m_owner, .ref m_units, .ref m_kind, .ref m_toX, .ref m_toY, .ref m_results, .ref m_known, .ref m_reached, .ref m_way, .ref m_aside, .ref m_origin, .ref m_retreats, .ref m_contested, .ref m_moved, .int msh, .ref m_past])), (m_sea, .inl (cZ, 12, .inl (fun j => bI (S j)))), (m_borders, .inl (cZ, 144, .inl (fun j => bI (Bo j)))), (m_units, .inl (cI, 12, .inl fu)), (m_aside, .inl (cI, 12, .inl fa)), (m_origin, .inl (cI, 12, .inl fg)), (m_contested, .inl (cZ, 12, .inl (fun j => bI (Co j))))]) [0, 1, 2, 3, 4, 5, 6] rfl
      have hD9 := hD.sub (ws' := [(g0, .inr (6, [.int 0, .int (nI n), .ref m_sea, .ref m_center, .ref m_home, .ref m_borders, .int mp, .int mt, .ref m_owner, .ref m_units, .ref m_kind, .ref m_toX, .ref m_toY, .ref m_results, .ref m_known, .ref m_reached, .ref m_way, .ref m_aside, .ref m_origin, .ref m_retreats, .ref m_contested, .ref m_moved, .int msh, .ref m_past])), (m_sea, .inl (cZ, 12, .inl (fun j => bI (S j)))), (m_borders, .inl (cZ, 144, .inl (fun j => bI (Bo j)))), (m_units, .inl (cI, 12, .inl fu)), (m_aside, .inl (cI, 12, .inl fa)), (m_origin, .inl (cI, 12, .inl fg)), (m_contested, .inl (cZ, 12, .inl (fun j => bI (Co j))))]) [0, 1, 2, 3, 4, 5, 6] (by decide) rfl
      exact W.zret (v := 1) hx hb hr (by decide) (fun t ht hW => ⟨⟨1, (), rfl, (bI_t (by simp [hc5, hb8])).symm, by rw [ht]; exact hP9, hD9⟩, hS.F ht⟩) hS.2.2 d_Mo_mayGo_44
    · refine tr_top e9 ?_
      refine lv_if_eq (tgt := 43) hx hb d_Mo_mayGo_36 (by decide) (fun _ => ?_) (fun h0 => absurd (by decide) h0)
      refine lv_iconst (v := 0) hx hb d_Mo_mayGo_43 (by decide) ?_
      have hP9 := hP.sub (ws' := [(g0, .inr (6, [.int 0, .int (nI n), .ref m_sea, .ref m_center, .ref m_home, .ref m_borders, .int mp, .int mt, .ref m_owner, .ref m_units, .ref m_kind, .ref m_toX, .ref m_toY, .ref m_results, .ref m_known, .ref m_reached, .ref m_way, .ref m_aside, .ref m_origin, .ref m_retreats, .ref m_contested, .ref m_moved, .int msh, .ref m_past])), (m_sea, .inl (cZ, 12, .inl (fun j => bI (S j)))), (m_borders, .inl (cZ, 144, .inl (fun j => bI (Bo j)))), (m_units, .inl (cI, 12, .inl fu)), (m_aside, .inl (cI, 12, .inl fa)), (m_origin, .inl (cI, 12, .inl fg)), (m_contested, .inl (cZ, 12, .inl (fun j => bI (Co j))))]) [0, 1, 2, 3, 4, 5, 6] rfl
      have hD9 := hD.sub (ws' := [(g0, .inr (6, [.int 0, .int (nI n), .ref m_sea, .ref m_center, .ref m_home, .ref m_borders, .int mp, .int mt, .ref m_owner, .ref m_units, .ref m_kind, .ref m_toX, .ref m_toY, .ref m_results, .ref m_known, .ref m_reached, .ref m_way, .ref m_aside, .ref m_origin, .ref m_retreats, .ref m_contested, .ref m_moved, .int msh, .ref m_past])), (m_sea, .inl (cZ, 12, .inl (fun j => bI (S j)))), (m_borders, .inl (cZ, 144, .inl (fun j => bI (Bo j)))), (m_units, .inl (cI, 12, .inl fu)), (m_aside, .inl (cI, 12, .inl fa)), (m_origin, .inl (cI, 12, .inl fg)), (m_contested, .inl (cZ, 12, .inl (fun j => bI (Co j))))]) [0, 1, 2, 3, 4, 5, 6] (by decide) rfl
      exact W.zret (v := 0) hx hb hr (by decide) (fun t ht hW => ⟨⟨0, (), rfl, (bI_f (by simp [hc5, hb8])).symm, by rw [ht]; exact hP9, hD9⟩, hS.F ht⟩) hS.2.2 d_Mo_mayGo_44


set_option maxHeartbeats 4000000 in
set_option maxRecDepth 100000 in
theorem c_Mo_toldB (l : Launch) (D : va_G) (cI cZ cJ cS : ClassId) (aT : Nat) (ceT : Cell) (sz : Nat) (g0 m_sea m_center m_home m_borders m_owner m_units m_kind m_toX m_toY m_results m_known m_reached m_way m_aside m_origin m_retreats m_contested m_moved m_past : Nat) (co ar mp mt msh : Int32) (a b : Int32) (hno9 : ¬ (0 ≤ a ∧ a < ar)) : Met l y_Mo_told w_Mo_told ({ frames := 1, cells := 0, slots := 0, locals := 21 }) (tH D cI cZ cJ cS aT ceT [.ref g0, .int a, .int b] sz [(g0, .inr (6, [.int co, .int ar, .ref m_sea, .ref m_center, .ref m_home, .ref m_borders, .int mp, .int mt, .ref m_owner, .ref m_units, .ref m_kind, .ref m_toX, .ref m_toY, .ref m_results, .ref m_known, .ref m_reached, .ref m_way, .ref m_aside, .ref m_origin, .ref m_retreats, .ref m_contested, .ref m_moved, .int msh, .ref m_past]))]) (va_Qi (fun (r : Int32) (_ : Unit) => r = (-1)) (fun _ t => tB D (va_A [(g0, .inr (6, [.int co, .int ar, .ref m_sea, .ref m_center, .ref m_home, .ref m_borders, .int mp, .int mt, .ref m_owner, .ref m_units, .ref m_kind, .ref m_toX, .ref m_toY, .ref m_results, .ref m_known, .ref m_reached, .ref m_way, .ref m_aside, .ref m_origin, .ref m_retreats, .ref m_contested, .ref m_moved, .int msh, .ref m_past]))] sz) [(g0, .inr (6, [.int 0, .int ar, .ref m_sea, .ref m_center, .ref m_home, .ref m_borders, .int mp, .int mt, .ref m_owner, .ref m_units, .ref m_kind, .ref m_toX, .ref m_toY, .ref m_results, .ref m_known, .ref m_reached, .ref m_way, .ref m_aside, .ref m_origin, .ref m_retreats, .ref m_contested, .ref m_moved, .int msh, .ref m_past]))] t) (va_A [(g0, .inr (6, [.int co, .int ar, .ref m_sea, .ref m_center, .ref m_home, .ref m_borders, .int mp, .int mt, .ref m_owner, .ref m_units, .ref m_kind, .ref m_toX, .ref m_toY, .ref m_results, .ref m_known, .ref m_reached, .ref m_way, .ref m_aside, .ref m_origin, .ref m_retreats, .ref m_contested, .ref m_moved, .int msh, .ref m_past]))] sz)) 0 0 (va_A [(g0, .inr (6, [.int co, .int ar, .ref m_sea, .ref m_center, .ref m_home, .ref m_borders, .int mp, .int mt, .ref m_owner, .ref m_units, .ref m_kind, .ref m_toX, .ref m_toY, .ref m_results, .ref m_known, .ref m_reached, .ref m_way, .ref m_aside, .ref m_origin, .ref m_retreats, .ref m_contested, .ref m_moved, .int msh, .ref m_past]))] sz) := by
  refine Met.ofW (cc := b_Mo_told) (maxL := 3) (ret := (some .int)) (by decide) rfl ?_
  intro p e s m args below meth c s₁ B hml hv
  obtain ⟨rfl, hsz, hP, hK, hD0, hX⟩ := hv
  have hx := B.exec
  have hb := B.bytes
  have hr := B.returns
  have hts0 := atoms_spec (ws := w_Mo_told) B.pre
  have hts : ∀ w ∈ TB, w.before _ s = true := fun w h => hts0 w (List.mem_cons_of_mem _ h)
  have hown : s.vm.findClass R_Mo = some m.cls := findClass_of_methodNamed B.named
  have hlocks := B.notSynchronized
  subst hsz
  have hXl := tx_lt hX
  have hXn := tx_far hP hX
  have hD := hD0.self (sz := s.heap.size)
  generalize hAe : va_A [(g0, .inr (6, [.int co, .int ar, .ref m_sea, .ref m_center, .ref m_home, .ref m_borders, .int mp, .int mt, .ref m_owner, .ref m_units, .ref m_kind, .ref m_toX, .ref m_toY, .ref m_results, .ref m_known, .ref m_reached, .ref m_way, .ref m_aside, .ref m_origin, .ref m_retreats, .ref m_contested, .ref m_moved, .int msh, .ref m_past]))] s.heap.size = A at hD hXn ⊢
  have hA : ∀ q : Nat, s.heap.size ≤ q → A q := fun q h => by rw [← hAe]; exact Or.inr h
  have hS : va_S A s.heap s.heap [] := va_S.rf
  have hXH : s.heap[aT]? = s.heap[aT]? := rfl
  have hl := lv_entry ([.ref g0, .int a, .int b]) (n := 3) (Nat.le_of_ble_eq_true rfl)
  rw [lg_entry_eq]
  generalize (lg_sl ([.ref g0, .int a, .int b]) ++ List.replicate (3 - (lg_sl ([.ref g0, .int a, .int b])).length) Slot.unset).toArray = ls at hl ⊢
  have hl : lv_has ls 3 [(0, .ref g0), (1, .int a), (2, .int b)] := hl
  refine lv_aload_n hx hb d_Mo_told_0 rfl (lv_at hl 0 rfl) ?_
  refine lv_iconst (v := 0) hx hb d_Mo_told_1 (by decide) ?_
  refine va_put (D := D) (ci := 6) (v := .int 0) (ty := .int) (C := R_Mo) (T := T_Mo) (N := 24) hx hb hts hin_Mo ty_Mo tyok_Mo nm_Mo hown hK hP hD hS 0 rfl rfl 0 (by decide) (hts _ wd_704) (fun _ h9 => h9) rfl (by decide +kernel) rfl rfl (Nat.le_of_ble_eq_true rfl) d_Mo_told_2 (fun H locs hP hD hS => ?_)
  have hP : va_P D vwCl [(g0, .inr (6, [.int 0, .int ar, .ref m_sea, .ref m_center, .ref m_home, .ref m_borders, .int mp, .int mt, .ref m_owner, .ref m_units, .ref m_kind, .ref m_toX, .ref m_toY, .ref m_results, .ref m_known, .ref m_reached, .ref m_way, .ref m_aside, .ref m_origin, .ref m_retreats, .ref m_contested, .ref m_moved, .int msh, .ref m_past]))] H := hP
  have hD : va_D A [(g0, .inr (6, [.int 0, .int ar, .ref m_sea, .ref m_center, .ref m_home, .ref m_borders, .int mp, .int mt, .ref m_owner, .ref m_units, .ref m_kind, .ref m_toX, .ref m_toY, .ref m_results, .ref m_known, .ref m_reached, .ref m_way, .ref m_aside, .ref m_origin, .ref m_retreats, .ref m_contested, .ref m_moved, .int msh, .ref m_past]))] := hD
  refine lv_aload_n hx hb d_Mo_told_5 rfl (lv_at hl 0 rfl) ?_
  refine lv_iload_n hx hb d_Mo_told_6 rfl (lv_at hl 1 rfl) ?_
  have hPc := hP.sub (ws' := [(g0, .inr (6, [.int 0, .int ar, .ref m_sea, .ref m_center, .ref m_home, .ref m_borders, .int mp, .int mt, .ref m_owner, .ref m_units, .ref m_kind, .ref m_toX, .ref m_toY, .ref m_results, .ref m_known, .ref m_reached, .ref m_way, .ref m_aside, .ref m_origin, .ref m_retreats, .ref m_contested, .ref m_moved, .int msh, .ref m_past]))]) [0] rfl
  refine vp_callSi (va_Run.run (va_runV (As := [.int a]) (rest := []) ⟨hx, hb, hml, hown, hts⟩ (c_Mo_isArea l D cI cZ cJ cS aT ceT  g0 m_sea m_center m_home m_borders m_owner m_units m_kind m_toX m_toY m_results m_known m_reached m_way m_aside m_origin m_retreats m_contested m_moved m_past 0 ar mp mt msh a ) (cwV 1 hts (tb_4 wd_790 wd_792 wp_36 wd_8 (tb_c wd_793)) rfl rfl rfl ⟨rfl, by decide, by decide, by decide +kernel⟩ ⟨Nat.le_of_ble_eq_true rfl, Nat.le_of_ble_eq_true rfl⟩) (tP_V hK hX (hS.2.1 aT hXl hXn) hPc (q := 0) rfl rfl) rfl rfl hl.1 rfl (lv_room (Nat.le_of_ble_eq_true rfl)) d_Mo_told_7 ⟨Nat.le_of_ble_eq_true rfl, Nat.le_of_ble_eq_true rfl⟩)) (fun r1 hr9 => ?_)
  rcases hr9 with ⟨rfl, hq2⟩ | ⟨rfl, hq2⟩
  · exact absurd hq2 hno9
  · -- 7: false
    refine lv_if_eq (tgt := 30) hx hb d_Mo_told_10 (by decide) (fun _ => ?_) (fun h0 => absurd (by decide) h0)
    refine lv_iconst (v := (-1)) hx hb d_Mo_told_30 (by decide) ?_
    have hP9 := hP.sub (ws' := [(g0, .inr (6, [.int 0, .int ar, .ref m_sea, .ref m_center, .ref m_home, .ref m_borders, .int mp, .int mt, .ref m_owner, .ref m_units, .ref m_kind, .ref m_toX, .ref m_toY, .ref m_results, .ref m_known, .ref m_reached, .ref m_way, .ref m_aside, .ref m_origin, .ref m_retreats, .ref m_contested, .ref m_moved, .int msh, .ref m_past]))]) [0] rfl
    have hD9 := hD.sub (ws' := [(g0, .inr (6, [.int 0, .int ar, .ref m_sea, .ref m_center, .ref m_home, .ref m_borders, .int mp, .int mt, .ref m_owner, .ref m_units, .ref m_kind, .ref m_toX, .ref m_toY, .ref m_results, .ref m_known, .ref m_reached, .ref m_way, .ref m_aside, .ref m_origin, .ref m_retreats, .ref m_contested, .ref m_moved, .int msh, .ref m_past]))]) [0] (by decide) rfl
    exact W.iret (v := (-1)) hx hb hr (fun t ht hW => ⟨⟨(-1), (), rfl, rfl, by rw [ht]; exact hP9, hD9⟩, hS.F ht⟩) hS.2.2 d_Mo_told_31


set_option maxHeartbeats 4000000 in
set_option maxRecDepth 100000 in
theorem c_Mo_toldN (l : Launch) (D : va_G) (cI cZ cJ cS : ClassId) (aT : Nat) (ceT : Cell) (sz : Nat) (g0 m_sea m_center m_home m_borders m_owner m_units m_kind m_toX m_toY m_results m_known m_reached m_way m_aside m_origin m_retreats m_contested m_moved m_past : Nat) (n : Nat) (co mp mt msh : Int32) (fu : Nat → Int32) (a : Nat) (b : Int32) (hn : n ≤ 12) (h_a : a < n) (hno9 : ¬ (¬ fu a < 0 ∧ mp = 1)) : Met l y_Mo_told w_Mo_told ({ frames := 1, cells := 0, slots := 0, locals := 21 }) (tH D cI cZ cJ cS aT ceT [.ref g0, .int (nI a), .int b] sz [(g0, .inr (6, [.int co, .int (nI n), .ref m_sea, .ref m_center, .ref m_home, .ref m_borders, .int mp, .int mt, .ref m_owner, .ref m_units, .ref m_kind, .ref m_toX, .ref m_toY, .ref m_results, .ref m_known, .ref m_reached, .ref m_way, .ref m_aside, .ref m_origin, .ref m_retreats, .ref m_contested, .ref m_moved, .int msh, .ref m_past])), (m_units, .inl (cI, 12, .inl fu))]) (va_Qi (fun (r : Int32) (_ : Unit) => r = (-1)) (fun _ t => tB D (va_A [(g0, .inr (6, [.int co, .int (nI n), .ref m_sea, .ref m_center, .ref m_home, .ref m_borders, .int mp, .int mt, .ref m_owner, .ref m_units, .ref m_kind, .ref m_toX, .ref m_toY, .ref m_results, .ref m_known, .ref m_reached, .ref m_way, .ref m_aside, .ref m_origin, .ref m_retreats, .ref m_contested, .ref m_moved, .int msh, .ref m_past])), (m_units, .inl (cI, 12, .inl fu))] sz) [(g0, .inr (6, [.int 0, .int (nI n), .ref m_sea, .ref m_center, .ref m_home, .ref m_borders, .int mp, .int mt, .ref m_owner, .ref m_units, .ref m_kind, .ref m_toX, .ref m_toY, .ref m_results, .ref m_known, .ref m_reached, .ref m_way, .ref m_aside, .ref m_origin, .ref m_retreats, .ref m_contested, .ref m_moved, .int msh, .ref m_past])), (m_units, .inl (cI, 12, .inl fu))] t) (va_A [(g0, .inr (6, [.int co, .int (nI n), .ref m_sea, .ref m_center, .ref m_home, .ref m_borders, .int mp, .int mt, .ref m_owner, .ref m_units, .ref m_kind, .ref m_toX, .ref m_toY, .ref m_results, .ref m_known, .ref m_reached, .ref m_way, .ref m_aside, .ref m_origin, .ref m_retreats, .ref m_contested, .ref m_moved, .int msh, .ref m_past])), (m_units, .inl (cI, 12, .inl fu))] sz)) 0 0 (va_A [(g0, .inr (6, [.int co, .int (nI n), .ref m_sea, .ref m_center, .ref m_home, .ref m_borders, .int mp, .int mt, .ref m_owner, .ref m_units, .ref m_kind, .ref m_toX, .ref m_toY, .ref m_results, .ref m_known, .ref m_reached, .ref m_way, .ref m_aside, .ref m_origin, .ref m_retreats, .ref m_contested, .ref m_moved, .int msh, .ref m_past])), (m_units, .inl (cI, 12, .inl fu))] sz) := by
  refine Met.ofW (cc := b_Mo_told) (maxL := 3) (ret := (some .int)) (by decide) rfl ?_
  intro p e s m args below meth c s₁ B hml hv
  obtain ⟨rfl, hsz, hP, hK, hD0, hX⟩ := hv
  have hx := B.exec
  have hb := B.bytes
  have hr := B.returns
  have hts0 := atoms_spec (ws := w_Mo_told) B.pre
  have hts : ∀ w ∈ TB, w.before _ s = true := fun w h => hts0 w (List.mem_cons_of_mem _ h)
  have hown : s.vm.findClass R_Mo = some m.cls := findClass_of_methodNamed B.named
  have hlocks := B.notSynchronized
  subst hsz
  have hXl := tx_lt hX
  have hXn := tx_far hP hX
  have hD := hD0.self (sz := s.heap.size)
  generalize hAe : va_A [(g0, .inr (6, [.int co, .int (nI n), .ref m_sea, .ref m_center, .ref m_home, .ref m_borders, .int mp, .int mt, .ref m_owner, .ref m_units, .ref m_kind, .ref m_toX, .ref m_toY, .ref m_results, .ref m_known, .ref m_reached, .ref m_way, .ref m_aside, .ref m_origin, .ref m_retreats, .ref m_contested, .ref m_moved, .int msh, .ref m_past])), (m_units, .inl (cI, 12, .inl fu))] s.heap.size = A at hD hXn ⊢
  have hA : ∀ q : Nat, s.heap.size ≤ q → A q := fun q h => by rw [← hAe]; exact Or.inr h
  have hS : va_S A s.heap s.heap [] := va_S.rf
  have hXH : s.heap[aT]? = s.heap[aT]? := rfl
  have hl := lv_entry ([.ref g0, .int (nI a), .int b]) (n := 3) (Nat.le_of_ble_eq_true rfl)
  rw [lg_entry_eq]
  generalize (lg_sl ([.ref g0, .int (nI a), .int b]) ++ List.replicate (3 - (lg_sl ([.ref g0, .int (nI a), .int b])).length) Slot.unset).toArray = ls at hl ⊢
  have hl : lv_has ls 3 [(0, .ref g0), (1, .int (nI a)), (2, .int b)] := hl
  refine lv_aload_n hx hb d_Mo_told_0 rfl (lv_at hl 0 rfl) ?_
  refine lv_iconst (v := 0) hx hb d_Mo_told_1 (by decide) ?_
  refine va_put (D := D) (ci := 6) (v := .int 0) (ty := .int) (C := R_Mo) (T := T_Mo) (N := 24) hx hb hts hin_Mo ty_Mo tyok_Mo nm_Mo hown hK hP hD hS 0 rfl rfl 0 (by decide) (hts _ wd_704) (fun _ h9 => h9) rfl (by decide +kernel) rfl rfl (Nat.le_of_ble_eq_true rfl) d_Mo_told_2 (fun H locs hP hD hS => ?_)
  have hP : va_P D vwCl [(g0, .inr (6, [.int 0, .int (nI n), .ref m_sea, .ref m_center, .ref m_home, .ref m_borders, .int mp, .int mt, .ref m_owner, .ref m_units, .ref m_kind, .ref m_toX, .ref m_toY, .ref m_results, .ref m_known, .ref m_reached, .ref m_way, .ref m_aside, .ref m_origin, .ref m_retreats, .ref m_contested, .ref m_moved, .int msh, .ref m_past])), (m_units, .inl (cI, 12, .inl fu))] H := hP
  have hD : va_D A [(g0, .inr (6, [.int 0, .int (nI n), .ref m_sea, .ref m_center, .ref m_home, .ref m_borders, .int mp, .int mt, .ref m_owner, .ref m_units, .ref m_kind, .ref m_toX, .ref m_toY, .ref m_results, .ref m_known, .ref m_reached, .ref m_way, .ref m_aside, .ref m_origin, .ref m_retreats, .ref m_contested, .ref m_moved, .int msh, .ref m_past])), (m_units, .inl (cI, 12, .inl fu))] := hD
  refine lv_aload_n hx hb d_Mo_told_5 rfl (lv_at hl 0 rfl) ?_
  refine lv_iload_n hx hb d_Mo_told_6 rfl (lv_at hl 1 rfl) ?_
  have hPc := hP.sub (ws' := [(g0, .inr (6, [.int 0, .int (nI n), .ref m_sea, .ref m_center, .ref m_home, .ref m_borders, .int mp, .int mt, .ref m_owner, .ref m_units, .ref m_kind, .ref m_toX, .ref m_toY, .ref m_results, .ref m_known, .ref m_reached, .ref m_way, .ref m_aside, .ref m_origin, .ref m_retreats, .ref m_contested, .ref m_moved, .int msh, .ref m_past]))]) [0] rfl
  refine vp_callSi (va_Run.run (va_runV (As := [.int (nI a)]) (rest := []) ⟨hx, hb, hml, hown, hts⟩ (c_Mo_isAreaY l D cI cZ cJ cS aT ceT  g0 m_sea m_center m_home m_borders m_owner m_units m_kind m_toX m_toY m_results m_known m_reached m_way m_aside m_origin m_retreats m_contested m_moved m_past n 0 mp mt msh a hn h_a) (cwV 1 hts (tb_4 wd_790 wd_792 wp_36 wd_8 (tb_c wd_793)) rfl rfl rfl ⟨rfl, by decide, by decide, by decide +kernel⟩ ⟨Nat.le_of_ble_eq_true rfl, Nat.le_of_ble_eq_true rfl⟩) (tP_V hK hX (hS.2.1 aT hXl hXn) hPc (q := 0) rfl rfl) rfl rfl hl.1 rfl (lv_room (Nat.le_of_ble_eq_true rfl)) d_Mo_told_7 ⟨Nat.le_of_ble_eq_true rfl, Nat.le_of_ble_eq_true rfl⟩)) (fun r1 hr9 => ?_)
  rw [hr9]
  refine lv_if_eq (tgt := 30) hx hb d_Mo_told_10 (by decide) (fun h0 => absurd h0 (by decide)) (fun _ => ?_)
  refine lv_aload_n hx hb d_Mo_told_13 rfl (lv_at hl 0 rfl) ?_
  refine va_get (D := D) (ci := 6) (v := .ref m_units) (C := R_Mo) (T := T_Mo) (N := 24) hx hb hts hin_Mo hown hK hP 0 rfl rfl 9 (by decide) (hts _ wd_713) (fun _ h9 => h9) rfl d_Mo_told_14 ?_
  refine lv_iload_n hx hb d_Mo_told_17 rfl (lv_at hl 1 rfl) ?_
  refine tr_iald (v := fu a) hx hb hK hP 1 0 rfl rfl a (Nat.lt_of_lt_of_le h_a hn) (by decide) rfl d_Mo_told_18 ?_
  refine lv_if_lt (tgt := 30) hx hb d_Mo_told_19 (by decide) (fun hc3 => ?_) (fun hc3 => ?_)
  · -- 19 taken
    refine lv_iconst (v := (-1)) hx hb d_Mo_told_30 (by decide) ?_
    have hP9 := hP.sub (ws' := [(g0, .inr (6, [.int 0, .int (nI n), .ref m_sea, .ref m_center, .ref m_home, .ref m_borders, .int mp, .int mt, .ref m_owner, .ref m_units, .ref m_kind, .ref m_toX, .ref m_toY, .ref m_results, .ref m_known, .ref m_reached, .ref m_way, .ref m_aside, .ref m_origin, .ref m_retreats, .ref m_contested, .ref m_moved, .int msh, .ref m_past])), (m_units, .inl (cI, 12, .inl fu))]) [0, 1] rfl
    have hD9 := hD.sub (ws' := [(g0, .inr (6, [.int 0, .int (nI n), .ref m_sea, .ref m_center, .ref m_home, .ref m_borders, .int mp, .int mt, .ref m_owner, .ref m_units, .ref m_kind, .ref m_toX, .ref m_toY, .ref m_results, .ref m_known, .ref m_reached, .ref m_way, .ref m_aside, .ref m_origin, .ref m_retreats, .ref m_contested, .ref m_moved, .int msh, .ref m_past])), (m_units, .inl (cI, 12, .inl fu))]) [0, 1] (by decide) rfl
    exact W.iret (v := (-1)) hx hb hr (fun t ht hW => ⟨⟨(-1), (), rfl, rfl, by rw [ht]; exact hP9, hD9⟩, hS.F ht⟩) hS.2.2 d_Mo_told_31
  · -- 19 not taken
    refine lv_aload_n hx hb d_Mo_told_22 rfl (lv_at hl 0 rfl) ?_
    refine va_get (D := D) (ci := 6) (v := .int mp) (C := R_Mo) (T := T_Mo) (N := 24) hx hb hts hin_Mo hown hK hP 0 rfl rfl 6 (by decide) (hts _ wd_710) (fun _ h9 => h9) rfl d_Mo_told_23 ?_
    refine lv_iconst (v := 1) hx hb d_Mo_told_26 (by decide) ?_
    refine lv_icmp_eq (tgt := 32) hx hb d_Mo_told_27 (by decide) (fun hc4 => ?_) (fun hc4 => ?_)
    · -- 27 taken
      exact absurd ⟨hc3, hc4⟩ hno9
    · -- 27 not taken
      refine lv_iconst (v := (-1)) hx hb d_Mo_told_30 (by decide) ?_
      have hP9 := hP.sub (ws' := [(g0, .inr (6, [.int 0, .int (nI n), .ref m_sea, .ref m_center, .ref m_home, .ref m_borders, .int mp, .int mt, .ref m_owner, .ref m_units, .ref m_kind, .ref m_toX, .ref m_toY, .ref m_results, .ref m_known, .ref m_reached, .ref m_way, .ref m_aside, .ref m_origin, .ref m_retreats, .ref m_contested, .ref m_moved, .int msh, .ref m_past])), (m_units, .inl (cI, 12, .inl fu))]) [0, 1] rfl
      have hD9 := hD.sub (ws' := [(g0, .inr (6, [.int 0, .int (nI n), .ref m_sea, .ref m_center, .ref m_home, .ref m_borders, .int mp, .int mt, .ref m_owner, .ref m_units, .ref m_kind, .ref m_toX, .ref m_toY, .ref m_results, .ref m_known, .ref m_reached, .ref m_way, .ref m_aside, .ref m_origin, .ref m_retreats, .ref m_contested, .ref m_moved, .int msh, .ref m_past])), (m_units, .inl (cI, 12, .inl fu))]) [0, 1] (by decide) rfl
      exact W.iret (v := (-1)) hx hb hr (fun t ht hW => ⟨⟨(-1), (), rfl, rfl, by rw [ht]; exact hP9, hD9⟩, hS.F ht⟩) hS.2.2 d_Mo_told_31


set_option maxHeartbeats 4000000 in
set_option maxRecDepth 100000 in
theorem c_Mo_toldY (l : Launch) (D : va_G) (cI cZ cJ cS : ClassId) (aT : Nat) (ceT : Cell) (sz : Nat) (g0 m_sea m_center m_home m_borders m_owner m_units m_kind m_toX m_toY m_results m_known m_reached m_way m_aside m_origin m_retreats m_contested m_moved m_past : Nat) (n : Nat) (co mt msh : Int32) (fu : Nat → Int32) (Kd : Nat → Nat) (X : Nat → Nat) (Y : Nat → Nat) (a : Nat) (b : Int32) (hn : n ≤ 12) (h_a : a < n) (hu9 : ¬ fu a < 0) : Met l y_Mo_told w_Mo_told ({ frames := 1, cells := 0, slots := 0, locals := 21 }) (tH D cI cZ cJ cS aT ceT [.ref g0, .int (nI a), .int b] sz [(g0, .inr (6, [.int co, .int (nI n), .ref m_sea, .ref m_center, .ref m_home, .ref m_borders, .int 1, .int mt, .ref m_owner, .ref m_units, .ref m_kind, .ref m_toX, .ref m_toY, .ref m_results, .ref m_known, .ref m_reached, .ref m_way, .ref m_aside, .ref m_origin, .ref m_retreats, .ref m_contested, .ref m_moved, .int msh, .ref m_past])), (m_units, .inl (cI, 12, .inl fu)), (m_kind, .inl (cI, 12, .inl (fun j => nI (Kd j)))), (m_toX, .inl (cI, 12, .inl (fun j => nI (X j)))), (m_toY, .inl (cI, 12, .inl (fun j => nI (Y j))))]) (va_Qi (fun (r : Int32) (_ : Unit) => r = if b = 0 then nI (Kd a) else if b = 1 then nI (X a) else if b = 2 then nI (Y a) else -1) (fun _ t => tB D (va_A [(g0, .inr (6, [.int co, .int (nI n), .ref m_sea, .ref m_center, .ref m_home, .ref m_borders, .int 1, .int mt, .ref m_owner, .ref m_units, .ref m_kind, .ref m_toX, .ref m_toY, .ref m_results, .ref m_known, .ref m_reached, .ref m_way, .ref m_aside, .ref m_origin, .ref m_retreats, .ref m_contested, .ref m_moved, .int msh, .ref m_past])), (m_units, .inl (cI, 12, .inl fu)), (m_kind, .inl (cI, 12, .inl (fun j => nI (Kd j)))), (m_toX, .inl (cI, 12, .inl (fun j => nI (X j)))), (m_toY, .inl (cI, 12, .inl (fun j => nI (Y j))))] sz) [(g0, .inr (6, [.int 0, .int (nI n), .ref m_sea, .ref m_center, .ref m_home, .ref m_borders, .int 1, .int mt, .ref m_owner, .ref m_units, .ref m_kind, .ref m_toX, .ref m_toY, .ref m_results, .ref m_known, .ref m_reached, .ref m_way, .ref m_aside, .ref m_origin, .ref m_retreats, .ref m_contested, .ref m_moved, .int msh, .ref m_past])), (m_units, .inl (cI, 12, .inl fu)), (m_kind, .inl (cI, 12, .inl (fun j => nI (Kd j)))), (m_toX, .inl (cI, 12, .inl (fun j => nI (X j)))), (m_toY, .inl (cI, 12, .inl (fun j => nI (Y j))))] t) (va_A [(g0, .inr (6, [.int co, .int (nI n), .ref m_sea, .ref m_center, .ref m_home, .ref m_borders, .int 1, .int mt, .ref m_owner, .ref m_units, .ref m_kind, .ref m_toX, .ref m_toY, .ref m_results, .ref m_known, .ref m_reached, .ref m_way, .ref m_aside, .ref m_origin, .ref m_retreats, .ref m_contested, .ref m_moved, .int msh, .ref m_past])), (m_units, .inl (cI, 12, .inl fu)), (m_kind, .inl (cI, 12, .inl (fun j => nI (Kd j)))), (m_toX, .inl (cI, 12, .inl (fun j => nI (X j)))), (m_toY, .inl (cI, 12, .inl (fun j => nI (Y j))))] sz)) 0 0 (va_A [(g0, .inr (6, [.int co, .int (nI n), .ref m_sea, .ref m_center, .ref m_home, .ref m_borders, .int 1, .int mt, .ref m_owner, .ref m_units, .ref m_kind, .ref m_toX, .ref m_toY, .ref m_results, .ref m_known, .ref m_reached, .ref m_way, .ref m_aside, .ref m_origin, .ref m_retreats, .ref m_contested, .ref m_moved, .int msh, .ref m_past])), (m_units, .inl (cI, 12, .inl fu)), (m_kind, .inl (cI, 12, .inl (fun j => nI (Kd j)))), (m_toX, .inl (cI, 12, .inl (fun j => nI (X j)))), (m_toY, .inl (cI, 12, .inl (fun j => nI (Y j))))] sz) := by
  refine Met.ofW (cc := b_Mo_told) (maxL := 3) (ret := (some .int)) (by decide) rfl ?_
  intro p e s m args below meth c s₁ B hml hv
  obtain ⟨rfl, hsz, hP, hK, hD0, hX⟩ := hv
  have hx := B.exec
  have hb := B.bytes
  have hr := B.returns
  have hts0 := atoms_spec (ws := w_Mo_told) B.pre
  have hts : ∀ w ∈ TB, w.before _ s = true := fun w h => hts0 w (List.mem_cons_of_mem _ h)
  have hown : s.vm.findClass R_Mo = some m.cls := findClass_of_methodNamed B.named
  have hlocks := B.notSynchronized
  subst hsz
  have hXl := tx_lt hX
  have hXn := tx_far hP hX
  have hD := hD0.self (sz := s.heap.size)
  generalize hAe : va_A [(g0, .inr (6, [.int co, .int (nI n), .ref m_sea, .ref m_center, .ref m_home, .ref m_borders, .int 1, .int mt, .ref m_owner, .ref m_units, .ref m_kind, .ref m_toX, .ref m_toY, .ref m_results, .ref m_known, .ref m_reached, .ref m_way, .ref m_aside, .ref m_origin, .ref m_retreats, .ref m_contested, .ref m_moved, .int msh, .ref m_past])), (m_units, .inl (cI, 12, .inl fu)), (m_kind, .inl (cI, 12, .inl (fun j => nI (Kd j)))), (m_toX, .inl (cI, 12, .inl (fun j => nI (X j)))), (m_toY, .inl (cI, 12, .inl (fun j => nI (Y j))))] s.heap.size = A at hD hXn ⊢
  have hA : ∀ q : Nat, s.heap.size ≤ q → A q := fun q h => by rw [← hAe]; exact Or.inr h
  have hS : va_S A s.heap s.heap [] := va_S.rf
  have hXH : s.heap[aT]? = s.heap[aT]? := rfl
  have hl := lv_entry ([.ref g0, .int (nI a), .int b]) (n := 3) (Nat.le_of_ble_eq_true rfl)
  rw [lg_entry_eq]
  generalize (lg_sl ([.ref g0, .int (nI a), .int b]) ++ List.replicate (3 - (lg_sl ([.ref g0, .int (nI a), .int b])).length) Slot.unset).toArray = ls at hl ⊢
  have hl : lv_has ls 3 [(0, .ref g0), (1, .int (nI a)), (2, .int b)] := hl
  refine lv_aload_n hx hb d_Mo_told_0 rfl (lv_at hl 0 rfl) ?_
  refine lv_iconst (v := 0) hx hb d_Mo_told_1 (by decide) ?_
  refine va_put (D := D) (ci := 6) (v := .int 0) (ty := .int) (C := R_Mo) (T := T_Mo) (N := 24) hx hb hts hin_Mo ty_Mo tyok_Mo nm_Mo hown hK hP hD hS 0 rfl rfl 0 (by decide) (hts _ wd_704) (fun _ h9 => h9) rfl (by decide +kernel) rfl rfl (Nat.le_of_ble_eq_true rfl) d_Mo_told_2 (fun H locs hP hD hS => ?_)
  have hP : va_P D vwCl [(g0, .inr (6, [.int 0, .int (nI n), .ref m_sea, .ref m_center, .ref m_home, .ref m_borders, .int 1, .int mt, .ref m_owner, .ref m_units, .ref m_kind, .ref m_toX, .ref m_toY, .ref m_results, .ref m_known, .ref m_reached, .ref m_way, .ref m_aside, .ref m_origin, .ref m_retreats, .ref m_contested, .ref m_moved, .int msh, .ref m_past])), (m_units, .inl (cI, 12, .inl fu)), (m_kind, .inl (cI, 12, .inl (fun j => nI (Kd j)))), (m_toX, .inl (cI, 12, .inl (fun j => nI (X j)))), (m_toY, .inl (cI, 12, .inl (fun j => nI (Y j))))] H := hP
  have hD : va_D A [(g0, .inr (6, [.int 0, .int (nI n), .ref m_sea, .ref m_center, .ref m_home, .ref m_borders, .int 1, .int mt, .ref m_owner, .ref m_units, .ref m_kind, .ref m_toX, .ref m_toY, .ref m_results, .ref m_known, .ref m_reached, .ref m_way, .ref m_aside, .ref m_origin, .ref m_retreats, .ref m_contested, .ref m_moved, .int msh, .ref m_past])), (m_units, .inl (cI, 12, .inl fu)), (m_kind, .inl (cI, 12, .inl (fun j => nI (Kd j)))), (m_toX, .inl (cI, 12, .inl (fun j => nI (X j)))), (m_toY, .inl (cI, 12, .inl (fun j => nI (Y j))))] := hD
  refine lv_aload_n hx hb d_Mo_told_5 rfl (lv_at hl 0 rfl) ?_
  refine lv_iload_n hx hb d_Mo_told_6 rfl (lv_at hl 1 rfl) ?_
  have hPc := hP.sub (ws' := [(g0, .inr (6, [.int 0, .int (nI n), .ref m_sea, .ref m_center, .ref m_home, .ref m_borders, .int 1, .int mt, .ref m_owner, .ref m_units, .ref m_kind, .ref m_toX, .ref m_toY, .ref m_results, .ref m_known, .ref m_reached, .ref m_way, .ref m_aside, .ref m_origin, .ref m_retreats, .ref m_contested, .ref m_moved, .int msh, .ref m_past]))]) [0] rfl
  refine vp_callSi (va_Run.run (va_runV (As := [.int (nI a)]) (rest := []) ⟨hx, hb, hml, hown, hts⟩ (c_Mo_isAreaY l D cI cZ cJ cS aT ceT  g0 m_sea m_center m_home m_borders m_owner m_units m_kind m_toX m_toY m_results m_known m_reached m_way m_aside m_origin m_retreats m_contested m_moved m_past n 0 1 mt msh a hn h_a) (cwV 1 hts (tb_4 wd_790 wd_792 wp_36 wd_8 (tb_c wd_793)) rfl rfl rfl ⟨rfl, by decide, by decide, by decide +kernel⟩ ⟨Nat.le_of_ble_eq_true rfl, Nat.le_of_ble_eq_true rfl⟩) (tP_V hK hX (hS.2.1 aT hXl hXn) hPc (q := 0) rfl rfl) rfl rfl hl.1 rfl (lv_room (Nat.le_of_ble_eq_true rfl)) d_Mo_told_7 ⟨Nat.le_of_ble_eq_true rfl, Nat.le_of_ble_eq_true rfl⟩)) (fun r1 hr9 => ?_)
  rw [hr9]
  refine lv_if_eq (tgt := 30) hx hb d_Mo_told_10 (by decide) (fun h0 => absurd h0 (by decide)) (fun _ => ?_)
  refine lv_aload_n hx hb d_Mo_told_13 rfl (lv_at hl 0 rfl) ?_
  refine va_get (D := D) (ci := 6) (v := .ref m_units) (C := R_Mo) (T := T_Mo) (N := 24) hx hb hts hin_Mo hown hK hP 0 rfl rfl 9 (by decide) (hts _ wd_713) (fun _ h9 => h9) rfl d_Mo_told_14 ?_
  refine lv_iload_n hx hb d_Mo_told_17 rfl (lv_at hl 1 rfl) ?_
  refine tr_iald (v := fu a) hx hb hK hP 1 0 rfl rfl a (Nat.lt_of_lt_of_le h_a hn) (by decide) rfl d_Mo_told_18 ?_
  refine lv_if_lt (tgt := 30) hx hb d_Mo_told_19 (by decide) (fun h0 => absurd h0 hu9) (fun _ => ?_)
  refine lv_aload_n hx hb d_Mo_told_22 rfl (lv_at hl 0 rfl) ?_
  refine va_get (D := D) (ci := 6) (v := .int 1) (C := R_Mo) (T := T_Mo) (N := 24) hx hb hts hin_Mo hown hK hP 0 rfl rfl 6 (by decide) (hts _ wd_710) (fun _ h9 => h9) rfl d_Mo_told_23 ?_
  refine lv_iconst (v := 1) hx hb d_Mo_told_26 (by decide) ?_
  refine lv_icmp_eq (tgt := 32) hx hb d_Mo_told_27 (by decide) (fun _ => ?_) (fun h0 => absurd (by decide) h0)
  refine lv_iload_n hx hb d_Mo_told_32 rfl (lv_at hl 2 rfl) ?_
  refine lv_if_ne (tgt := 45) hx hb d_Mo_told_33 (by decide) (fun hc4 => ?_) (fun hc4 => ?_)
  · -- 33 taken
    refine lv_iload_n hx hb d_Mo_told_45 rfl (lv_at hl 2 rfl) ?_
    refine lv_iconst (v := 1) hx hb d_Mo_told_46 (by decide) ?_
    refine lv_icmp_ne (tgt := 59) hx hb d_Mo_told_47 (by decide) (fun hc5 => ?_) (fun hc5 => ?_)
    · -- 47 taken
      refine lv_iload_n hx hb d_Mo_told_59 rfl (lv_at hl 2 rfl) ?_
      refine lv_iconst (v := 2) hx hb d_Mo_told_60 (by decide) ?_
      refine lv_icmp_ne (tgt := 73) hx hb d_Mo_told_61 (by decide) (fun hc6 => ?_) (fun hc6 => ?_)
      · -- 61 taken
        refine lv_iconst (v := (-1)) hx hb d_Mo_told_73 (by decide) ?_
        have hP9 := hP.sub (ws' := [(g0, .inr (6, [.int 0, .int (nI n), .ref m_sea, .ref m_center, .ref m_home, .ref m_borders, .int 1, .int mt, .ref m_owner, .ref m_units, .ref m_kind, .ref m_toX, .ref m_toY, .ref m_results, .ref m_known, .ref m_reached, .ref m_way, .ref m_aside, .ref m_origin, .ref m_retreats, .ref m_contested, .ref m_moved, .int msh, .ref m_past])), (m_units, .inl (cI, 12, .inl fu)), (m_kind, .inl (cI, 12, .inl (fun j => nI (Kd j)))), (m_toX, .inl (cI, 12, .inl (fun j => nI (X j)))), (m_toY, .inl (cI, 12, .inl (fun j => nI (Y j))))]) [0, 1, 2, 3, 4] rfl
        have hD9 := hD.sub (ws' := [(g0, .inr (6, [.int 0, .int (nI n), .ref m_sea, .ref m_center, .ref m_home, .ref m_borders, .int 1, .int mt, .ref m_owner, .ref m_units, .ref m_kind, .ref m_toX, .ref m_toY, .ref m_results, .ref m_known, .ref m_reached, .ref m_way, .ref m_aside, .ref m_origin, .ref m_retreats, .ref m_contested, .ref m_moved, .int msh, .ref m_past])), (m_units, .inl (cI, 12, .inl fu)), (m_kind, .inl (cI, 12, .inl (fun j => nI (Kd j)))), (m_toX, .inl (cI, 12, .inl (fun j => nI (X j)))), (m_toY, .inl (cI, 12, .inl (fun j => nI (Y j))))]) [0, 1, 2, 3, 4] (by decide) rfl
        exact W.iret (v := (-1)) hx hb hr (fun t ht hW => ⟨⟨(-1), (), rfl, by simp [hc4, hc5, hc6], by rw [ht]; exact hP9, hD9⟩, hS.F ht⟩) hS.2.2 d_Mo_told_74
      · -- 61 not taken
        refine lv_aload_n hx hb d_Mo_told_64 rfl (lv_at hl 0 rfl) ?_
        refine va_get (D := D) (ci := 6) (v := .ref m_toY) (C := R_Mo) (T := T_Mo) (N := 24) hx hb hts hin_Mo hown hK hP 0 rfl rfl 12 (by decide) (hts _ wd_716) (fun _ h9 => h9) rfl d_Mo_told_65 ?_
        refine lv_iload_n hx hb d_Mo_told_68 rfl (lv_at hl 1 rfl) ?_
        refine tr_iald (v := nI (Y a)) hx hb hK hP 4 0 rfl rfl a (Nat.lt_of_lt_of_le h_a hn) (by decide) rfl d_Mo_told_69 ?_
        refine lv_goto (tgt := 74) hx hb d_Mo_told_70 (by decide) ?_
        have hP9 := hP.sub (ws' := [(g0, .inr (6, [.int 0, .int (nI n), .ref m_sea, .ref m_center, .ref m_home, .ref m_borders, .int 1, .int mt, .ref m_owner, .ref m_units, .ref m_kind, .ref m_toX, .ref m_toY, .ref m_results, .ref m_known, .ref m_reached, .ref m_way, .ref m_aside, .ref m_origin, .ref m_retreats, .ref m_contested, .ref m_moved, .int msh, .ref m_past])), (m_units, .inl (cI, 12, .inl fu)), (m_kind, .inl (cI, 12, .inl (fun j => nI (Kd j)))), (m_toX, .inl (cI, 12, .inl (fun j => nI (X j)))), (m_toY, .inl (cI, 12, .inl (fun j => nI (Y j))))]) [0, 1, 2, 3, 4] rfl
        have hD9 := hD.sub (ws' := [(g0, .inr (6, [.int 0, .int (nI n), .ref m_sea, .ref m_center, .ref m_home, .ref m_borders, .int 1, .int mt, .ref m_owner, .ref m_units, .ref m_kind, .ref m_toX, .ref m_toY, .ref m_results, .ref m_known, .ref m_reached, .ref m_way, .ref m_aside, .ref m_origin, .ref m_retreats, .ref m_contested, .ref m_moved, .int msh, .ref m_past])), (m_units, .inl (cI, 12, .inl fu)), (m_kind, .inl (cI, 12, .inl (fun j => nI (Kd j)))), (m_toX, .inl (cI, 12, .inl (fun j => nI (X j)))), (m_toY, .inl (cI, 12, .inl (fun j => nI (Y j))))]) [0, 1, 2, 3, 4] (by decide) rfl
        exact W.iret (v := nI (Y a)) hx hb hr (fun t ht hW => ⟨⟨nI (Y a), (), rfl, by simp [hc4, hc5, hc6], by rw [ht]; exact hP9, hD9⟩, hS.F ht⟩) hS.2.2 d_Mo_told_74
    · -- 47 not taken
      refine lv_aload_n hx hb d_Mo_told_50 rfl (lv_at hl 0 rfl) ?_
      refine va_get (D := D) (ci := 6) (v := .ref m_toX) (C := R_Mo) (T := T_Mo) (N := 24) hx hb hts hin_Mo hown hK hP 0 rfl rfl 11 (by decide) (hts _ wd_715) (fun _ h9 => h9) rfl d_Mo_told_51 ?_
      refine lv_iload_n hx hb d_Mo_told_54 rfl (lv_at hl 1 rfl) ?_
      refine tr_iald (v := nI (X a)) hx hb hK hP 3 0 rfl rfl a (Nat.lt_of_lt_of_le h_a hn) (by decide) rfl d_Mo_told_55 ?_
      refine lv_goto (tgt := 74) hx hb d_Mo_told_56 (by decide) ?_
      have hP9 := hP.sub (ws' := [(g0, .inr (6, [.int 0, .int (nI n), .ref m_sea, .ref m_center, .ref m_home, .ref m_borders, .int 1, .int mt, .ref m_owner, .ref m_units, .ref m_kind, .ref m_toX, .ref m_toY, .ref m_results, .ref m_known, .ref m_reached, .ref m_way, .ref m_aside, .ref m_origin, .ref m_retreats, .ref m_contested, .ref m_moved, .int msh, .ref m_past])), (m_units, .inl (cI, 12, .inl fu)), (m_kind, .inl (cI, 12, .inl (fun j => nI (Kd j)))), (m_toX, .inl (cI, 12, .inl (fun j => nI (X j)))), (m_toY, .inl (cI, 12, .inl (fun j => nI (Y j))))]) [0, 1, 2, 3, 4] rfl
      have hD9 := hD.sub (ws' := [(g0, .inr (6, [.int 0, .int (nI n), .ref m_sea, .ref m_center, .ref m_home, .ref m_borders, .int 1, .int mt, .ref m_owner, .ref m_units, .ref m_kind, .ref m_toX, .ref m_toY, .ref m_results, .ref m_known, .ref m_reached, .ref m_way, .ref m_aside, .ref m_origin, .ref m_retreats, .ref m_contested, .ref m_moved, .int msh, .ref m_past])), (m_units, .inl (cI, 12, .inl fu)), (m_kind, .inl (cI, 12, .inl (fun j => nI (Kd j)))), (m_toX, .inl (cI, 12, .inl (fun j => nI (X j)))), (m_toY, .inl (cI, 12, .inl (fun j => nI (Y j))))]) [0, 1, 2, 3, 4] (by decide) rfl
      exact W.iret (v := nI (X a)) hx hb hr (fun t ht hW => ⟨⟨nI (X a), (), rfl, by simp [hc4, hc5], by rw [ht]; exact hP9, hD9⟩, hS.F ht⟩) hS.2.2 d_Mo_told_74
  · -- 33 not taken
    refine lv_aload_n hx hb d_Mo_told_36 rfl (lv_at hl 0 rfl) ?_
    refine va_get (D := D) (ci := 6) (v := .ref m_kind) (C := R_Mo) (T := T_Mo) (N := 24) hx hb hts hin_Mo hown hK hP 0 rfl rfl 10 (by decide) (hts _ wd_714) (fun _ h9 => h9) rfl d_Mo_told_37 ?_
    refine lv_iload_n hx hb d_Mo_told_40 rfl (lv_at hl 1 rfl) ?_
    refine tr_iald (v := nI (Kd a)) hx hb hK hP 2 0 rfl rfl a (Nat.lt_of_lt_of_le h_a hn) (by decide) rfl d_Mo_told_41 ?_
    refine lv_goto (tgt := 74) hx hb d_Mo_told_42 (by decide) ?_
    have hP9 := hP.sub (ws' := [(g0, .inr (6, [.int 0, .int (nI n), .ref m_sea, .ref m_center, .ref m_home, .ref m_borders, .int 1, .int mt, .ref m_owner, .ref m_units, .ref m_kind, .ref m_toX, .ref m_toY, .ref m_results, .ref m_known, .ref m_reached, .ref m_way, .ref m_aside, .ref m_origin, .ref m_retreats, .ref m_contested, .ref m_moved, .int msh, .ref m_past])), (m_units, .inl (cI, 12, .inl fu)), (m_kind, .inl (cI, 12, .inl (fun j => nI (Kd j)))), (m_toX, .inl (cI, 12, .inl (fun j => nI (X j)))), (m_toY, .inl (cI, 12, .inl (fun j => nI (Y j))))]) [0, 1, 2, 3, 4] rfl
    have hD9 := hD.sub (ws' := [(g0, .inr (6, [.int 0, .int (nI n), .ref m_sea, .ref m_center, .ref m_home, .ref m_borders, .int 1, .int mt, .ref m_owner, .ref m_units, .ref m_kind, .ref m_toX, .ref m_toY, .ref m_results, .ref m_known, .ref m_reached, .ref m_way, .ref m_aside, .ref m_origin, .ref m_retreats, .ref m_contested, .ref m_moved, .int msh, .ref m_past])), (m_units, .inl (cI, 12, .inl fu)), (m_kind, .inl (cI, 12, .inl (fun j => nI (Kd j)))), (m_toX, .inl (cI, 12, .inl (fun j => nI (X j)))), (m_toY, .inl (cI, 12, .inl (fun j => nI (Y j))))]) [0, 1, 2, 3, 4] (by decide) rfl
    exact W.iret (v := nI (Kd a)) hx hb hr (fun t ht hW => ⟨⟨nI (Kd a), (), rfl, by simp [hc4], by rw [ht]; exact hP9, hD9⟩, hS.F ht⟩) hS.2.2 d_Mo_told_74


set_option maxHeartbeats 4000000 in
set_option maxRecDepth 100000 in
theorem c_Mo_countB (l : Launch) (D : va_G) (cI cZ cJ cS : ClassId) (aT : Nat) (ceT : Cell) (sz : Nat) (g0 m_sea m_center m_home m_borders m_owner m_units m_kind m_toX m_toY m_results m_known m_reached m_way m_aside m_origin m_retreats m_contested m_moved m_past : Nat) (co ar mp mt msh : Int32) (pl w : Int32) (hno9 : ¬ ((0 ≤ pl ∧ pl < 4) ∧ (w = 0 ∨ w = 1))) : Met l y_Mo_count w_Mo_count ({ frames := 1, cells := 0, slots := 0, locals := 21 }) (tH D cI cZ cJ cS aT ceT [.ref g0, .int pl, .int w] sz [(g0, .inr (6, [.int co, .int ar, .ref m_sea, .ref m_center, .ref m_home, .ref m_borders, .int mp, .int mt, .ref m_owner, .ref m_units, .ref m_kind, .ref m_toX, .ref m_toY, .ref m_results, .ref m_known, .ref m_reached, .ref m_way, .ref m_aside, .ref m_origin, .ref m_retreats, .ref m_contested, .ref m_moved, .int msh, .ref m_past]))]) (va_Qi (fun (r : Int32) (_ : Unit) => r = 0) (fun _ t => tB D (va_A [(g0, .inr (6, [.int co, .int ar, .ref m_sea, .ref m_center, .ref m_home, .ref m_borders, .int mp, .int mt, .ref m_owner, .ref m_units, .ref m_kind, .ref m_toX, .ref m_toY, .ref m_results, .ref m_known, .ref m_reached, .ref m_way, .ref m_aside, .ref m_origin, .ref m_retreats, .ref m_contested, .ref m_moved, .int msh, .ref m_past]))] sz) [(g0, .inr (6, [.int 0, .int ar, .ref m_sea, .ref m_center, .ref m_home, .ref m_borders, .int mp, .int mt, .ref m_owner, .ref m_units, .ref m_kind, .ref m_toX, .ref m_toY, .ref m_results, .ref m_known, .ref m_reached, .ref m_way, .ref m_aside, .ref m_origin, .ref m_retreats, .ref m_contested, .ref m_moved, .int msh, .ref m_past]))] t) (va_A [(g0, .inr (6, [.int co, .int ar, .ref m_sea, .ref m_center, .ref m_home, .ref m_borders, .int mp, .int mt, .ref m_owner, .ref m_units, .ref m_kind, .ref m_toX, .ref m_toY, .ref m_results, .ref m_known, .ref m_reached, .ref m_way, .ref m_aside, .ref m_origin, .ref m_retreats, .ref m_contested, .ref m_moved, .int msh, .ref m_past]))] sz)) 0 0 (va_A [(g0, .inr (6, [.int co, .int ar, .ref m_sea, .ref m_center, .ref m_home, .ref m_borders, .int mp, .int mt, .ref m_owner, .ref m_units, .ref m_kind, .ref m_toX, .ref m_toY, .ref m_results, .ref m_known, .ref m_reached, .ref m_way, .ref m_aside, .ref m_origin, .ref m_retreats, .ref m_contested, .ref m_moved, .int msh, .ref m_past]))] sz) := by
  refine Met.ofW (cc := b_Mo_count) (maxL := 3) (ret := (some .int)) (by decide) rfl ?_
  intro p e s m args below meth c s₁ B hml hv
  obtain ⟨rfl, hsz, hP, hK, hD0, hX⟩ := hv
  have hx := B.exec
  have hb := B.bytes
  have hr := B.returns
  have hts0 := atoms_spec (ws := w_Mo_count) B.pre
  have hts : ∀ w ∈ TB, w.before _ s = true := fun w h => hts0 w (List.mem_cons_of_mem _ h)
  have hown : s.vm.findClass R_Mo = some m.cls := findClass_of_methodNamed B.named
  have hlocks := B.notSynchronized
  subst hsz
  have hXl := tx_lt hX
  have hXn := tx_far hP hX
  have hD := hD0.self (sz := s.heap.size)
  generalize hAe : va_A [(g0, .inr (6, [.int co, .int ar, .ref m_sea, .ref m_center, .ref m_home, .ref m_borders, .int mp, .int mt, .ref m_owner, .ref m_units, .ref m_kind, .ref m_toX, .ref m_toY, .ref m_results, .ref m_known, .ref m_reached, .ref m_way, .ref m_aside, .ref m_origin, .ref m_retreats, .ref m_contested, .ref m_moved, .int msh, .ref m_past]))] s.heap.size = A at hD hXn ⊢
  have hA : ∀ q : Nat, s.heap.size ≤ q → A q := fun q h => by rw [← hAe]; exact Or.inr h
  have hS : va_S A s.heap s.heap [] := va_S.rf
  have hXH : s.heap[aT]? = s.heap[aT]? := rfl
  have hl := lv_entry ([.ref g0, .int pl, .int w]) (n := 3) (Nat.le_of_ble_eq_true rfl)
  rw [lg_entry_eq]
  generalize (lg_sl ([.ref g0, .int pl, .int w]) ++ List.replicate (3 - (lg_sl ([.ref g0, .int pl, .int w])).length) Slot.unset).toArray = ls at hl ⊢
  have hl : lv_has ls 3 [(0, .ref g0), (1, .int pl), (2, .int w)] := hl
  refine lv_aload_n hx hb d_Mo_count_0 rfl (lv_at hl 0 rfl) ?_
  refine lv_iconst (v := 0) hx hb d_Mo_count_1 (by decide) ?_
  refine va_put (D := D) (ci := 6) (v := .int 0) (ty := .int) (C := R_Mo) (T := T_Mo) (N := 24) hx hb hts hin_Mo ty_Mo tyok_Mo nm_Mo hown hK hP hD hS 0 rfl rfl 0 (by decide) (hts _ wd_704) (fun _ h9 => h9) rfl (by decide +kernel) rfl rfl (Nat.le_of_ble_eq_true rfl) d_Mo_count_2 (fun H locs hP hD hS => ?_)
  have hP : va_P D vwCl [(g0, .inr (6, [.int 0, .int ar, .ref m_sea, .ref m_center, .ref m_home, .ref m_borders, .int mp, .int mt, .ref m_owner, .ref m_units, .ref m_kind, .ref m_toX, .ref m_toY, .ref m_results, .ref m_known, .ref m_reached, .ref m_way, .ref m_aside, .ref m_origin, .ref m_retreats, .ref m_contested, .ref m_moved, .int msh, .ref m_past]))] H := hP
  have hD : va_D A [(g0, .inr (6, [.int 0, .int ar, .ref m_sea, .ref m_center, .ref m_home, .ref m_borders, .int mp, .int mt, .ref m_owner, .ref m_units, .ref m_kind, .ref m_toX, .ref m_toY, .ref m_results, .ref m_known, .ref m_reached, .ref m_way, .ref m_aside, .ref m_origin, .ref m_retreats, .ref m_contested, .ref m_moved, .int msh, .ref m_past]))] := hD
  refine lv_iload_n hx hb d_Mo_count_5 rfl (lv_at hl 1 rfl) ?_
  have hPc := hP.sub (ws' := []) [] rfl
  refine vp_callSi (va_Run.run (va_runS (As := [.int pl]) (rest := []) ⟨hx, hb, hml, hown, hts⟩ (c_Mo_isPlayer l D cI cZ cJ cS aT ceT  pl ) (va_cwS 1 hts (tb_3 wd_802 wd_803 wd_8 (tb_c wd_804)) rfl rfl rfl ⟨by decide, by decide, by decide +kernel⟩ ⟨Nat.le_of_ble_eq_true rfl, Nat.le_of_ble_eq_true rfl⟩) (tP_S hK hX (hS.2.1 aT hXl hXn) hPc) rfl rfl hl.1 rfl (lv_room (Nat.le_of_ble_eq_true rfl)) d_Mo_count_6 ⟨Nat.le_of_ble_eq_true rfl, Nat.le_of_ble_eq_true rfl⟩)) (fun r1 hr9 => ?_)
  rcases hr9 with ⟨rfl, hq2⟩ | ⟨rfl, hq2⟩
  · -- 6: true
    refine lv_if_eq (tgt := 39) hx hb d_Mo_count_9 (by decide) (fun h0 => absurd h0 (by decide)) (fun _ => ?_)
    refine lv_iload_n hx hb d_Mo_count_12 rfl (lv_at hl 2 rfl) ?_
    refine lv_if_eq (tgt := 21) hx hb d_Mo_count_13 (by decide) (fun hc4 => ?_) (fun hc4 => ?_)
    · -- 13 taken
      exact absurd (by revert hq2 hc4; simp only [Int32.lt_iff_toInt_lt, Int32.le_iff_toInt_le, ← Int32.toInt_inj, Int32.reduceToInt, i32_m1]; omega) hno9
    · -- 13 not taken
      refine lv_iload_n hx hb d_Mo_count_16 rfl (lv_at hl 2 rfl) ?_
      refine lv_iconst (v := 1) hx hb d_Mo_count_17 (by decide) ?_
      refine lv_icmp_ne (tgt := 39) hx hb d_Mo_count_18 (by decide) (fun hc5 => ?_) (fun hc5 => ?_)
      · -- 18 taken
        refine lv_iconst (v := 0) hx hb d_Mo_count_39 (by decide) ?_
        have hP9 := hP.sub (ws' := [(g0, .inr (6, [.int 0, .int ar, .ref m_sea, .ref m_center, .ref m_home, .ref m_borders, .int mp, .int mt, .ref m_owner, .ref m_units, .ref m_kind, .ref m_toX, .ref m_toY, .ref m_results, .ref m_known, .ref m_reached, .ref m_way, .ref m_aside, .ref m_origin, .ref m_retreats, .ref m_contested, .ref m_moved, .int msh, .ref m_past]))]) [0] rfl
        have hD9 := hD.sub (ws' := [(g0, .inr (6, [.int 0, .int ar, .ref m_sea, .ref m_center, .ref m_home, .ref m_borders, .int mp, .int mt, .ref m_owner, .ref m_units, .ref m_kind, .ref m_toX, .ref m_toY, .ref m_results, .ref m_known, .ref m_reached, .ref m_way, .ref m_aside, .ref m_origin, .ref m_retreats, .ref m_contested, .ref m_moved, .int msh, .ref m_past]))]) [0] (by decide) rfl
        exact W.iret (v := 0) hx hb hr (fun t ht hW => ⟨⟨0, (), rfl, rfl, by rw [ht]; exact hP9, hD9⟩, hS.F ht⟩) hS.2.2 d_Mo_count_40
      · -- 18 not taken
        exact absurd (by revert hq2 hc4 hc5; simp only [Int32.lt_iff_toInt_lt, Int32.le_iff_toInt_le, ← Int32.toInt_inj, Int32.reduceToInt, i32_m1]; omega) hno9
  · -- 6: false
    refine lv_if_eq (tgt := 39) hx hb d_Mo_count_9 (by decide) (fun _ => ?_) (fun h0 => absurd (by decide) h0)
    refine lv_iconst (v := 0) hx hb d_Mo_count_39 (by decide) ?_
    have hP9 := hP.sub (ws' := [(g0, .inr (6, [.int 0, .int ar, .ref m_sea, .ref m_center, .ref m_home, .ref m_borders, .int mp, .int mt, .ref m_owner, .ref m_units, .ref m_kind, .ref m_toX, .ref m_toY, .ref m_results, .ref m_known, .ref m_reached, .ref m_way, .ref m_aside, .ref m_origin, .ref m_retreats, .ref m_contested, .ref m_moved, .int msh, .ref m_past]))]) [0] rfl
    have hD9 := hD.sub (ws' := [(g0, .inr (6, [.int 0, .int ar, .ref m_sea, .ref m_center, .ref m_home, .ref m_borders, .int mp, .int mt, .ref m_owner, .ref m_units, .ref m_kind, .ref m_toX, .ref m_toY, .ref m_results, .ref m_known, .ref m_reached, .ref m_way, .ref m_aside, .ref m_origin, .ref m_retreats, .ref m_contested, .ref m_moved, .int msh, .ref m_past]))]) [0] (by decide) rfl
    exact W.iret (v := 0) hx hb hr (fun t ht hW => ⟨⟨0, (), rfl, rfl, by rw [ht]; exact hP9, hD9⟩, hS.F ht⟩) hS.2.2 d_Mo_count_40


set_option maxHeartbeats 4000000 in
set_option maxRecDepth 100000 in
theorem c_Mo_count0 (l : Launch) (D : va_G) (cI cZ cJ cS : ClassId) (aT : Nat) (ceT : Cell) (sz : Nat) (g0 m_sea m_center m_home m_borders m_owner m_units m_kind m_toX m_toY m_results m_known m_reached m_way m_aside m_origin m_retreats m_contested m_moved m_past : Nat) (n : Nat) (co mp mt msh : Int32) (Ce : Nat → Bool) (fw : Nat → Int32) (fu : Nat → Int32) (pl : Int32) (hn : n ≤ 12) (hpl : 0 ≤ pl ∧ pl < 4) : Met l y_Mo_count w_Mo_count ({ frames := 1, cells := 0, slots := 0, locals := 24 }) (tH D cI cZ cJ cS aT ceT [.ref g0, .int pl, .int 0] sz [(g0, .inr (6, [.int co, .int (nI n), .ref m_sea, .ref m_center, .ref m_home, .ref m_borders, .int mp, .int mt, .ref m_owner, .ref m_units, .ref m_kind, .ref m_toX, .ref m_toY, .ref m_results, .ref m_known, .ref m_reached, .ref m_way, .ref m_aside, .ref m_origin, .ref m_retreats, .ref m_contested, .ref m_moved, .int msh, .ref m_past])), (m_center, .inl (cZ, 12, .inl (fun j => bI (Ce j)))), (m_owner, .inl (cI, 12, .inl fw)), (m_units, .inl (cI, 12, .inl fu))]) (va_Qi (fun (r : Int32) (_ : Unit) => r = nI (numB (fun b => if false = true then !decide (fu b < 0) && decide (fu b / 2 = pl) else Ce b && decide (fw b = pl)) n)) (fun _ t => tB D (va_A [(g0, .inr (6, [.int co, .int (nI n), .ref m_sea, .ref m_center, .ref m_home, .ref m_borders, .int mp, .int mt, .ref m_owner, .ref m_units, .ref m_kind, .ref m_toX, .ref m_toY, .ref m_results, .ref m_known, .ref m_reached, .ref m_way, .ref m_aside, .ref m_origin, .ref m_retreats, .ref m_contested, .ref m_moved, .int msh, .ref m_past])), (m_center, .inl (cZ, 12, .inl (fun j => bI (Ce j)))), (m_owner, .inl (cI, 12, .inl fw)), (m_units, .inl (cI, 12, .inl fu))] sz) [(g0, .inr (6, [.int 0, .int (nI n), .ref m_sea, .ref m_center, .ref m_home, .ref m_borders, .int mp, .int mt, .ref m_owner, .ref m_units, .ref m_kind, .ref m_toX, .ref m_toY, .ref m_results, .ref m_known, .ref m_reached, .ref m_way, .ref m_aside, .ref m_origin, .ref m_retreats, .ref m_contested, .ref m_moved, .int msh, .ref m_past])), (m_center, .inl (cZ, 12, .inl (fun j => bI (Ce j)))), (m_owner, .inl (cI, 12, .inl fw)), (m_units, .inl (cI, 12, .inl fu))] t) (va_A [(g0, .inr (6, [.int co, .int (nI n), .ref m_sea, .ref m_center, .ref m_home, .ref m_borders, .int mp, .int mt, .ref m_owner, .ref m_units, .ref m_kind, .ref m_toX, .ref m_toY, .ref m_results, .ref m_known, .ref m_reached, .ref m_way, .ref m_aside, .ref m_origin, .ref m_retreats, .ref m_contested, .ref m_moved, .int msh, .ref m_past])), (m_center, .inl (cZ, 12, .inl (fun j => bI (Ce j)))), (m_owner, .inl (cI, 12, .inl fw)), (m_units, .inl (cI, 12, .inl fu))] sz)) 0 0 (va_A [(g0, .inr (6, [.int co, .int (nI n), .ref m_sea, .ref m_center, .ref m_home, .ref m_borders, .int mp, .int mt, .ref m_owner, .ref m_units, .ref m_kind, .ref m_toX, .ref m_toY, .ref m_results, .ref m_known, .ref m_reached, .ref m_way, .ref m_aside, .ref m_origin, .ref m_retreats, .ref m_contested, .ref m_moved, .int msh, .ref m_past])), (m_center, .inl (cZ, 12, .inl (fun j => bI (Ce j)))), (m_owner, .inl (cI, 12, .inl fw)), (m_units, .inl (cI, 12, .inl fu))] sz) := by
  refine Met.ofW (cc := b_Mo_count) (maxL := 3) (ret := (some .int)) (by decide) rfl ?_
  intro p e s m args below meth c s₁ B hml hv
  obtain ⟨rfl, hsz, hP, hK, hD0, hX⟩ := hv
  have hx := B.exec
  have hb := B.bytes
  have hr := B.returns
  have hts0 := atoms_spec (ws := w_Mo_count) B.pre
  have hts : ∀ w ∈ TB, w.before _ s = true := fun w h => hts0 w (List.mem_cons_of_mem _ h)
  have hown : s.vm.findClass R_Mo = some m.cls := findClass_of_methodNamed B.named
  have hlocks := B.notSynchronized
  subst hsz
  have hXl := tx_lt hX
  have hXn := tx_far hP hX
  have hD := hD0.self (sz := s.heap.size)
  generalize hAe : va_A [(g0, .inr (6, [.int co, .int (nI n), .ref m_sea, .ref m_center, .ref m_home, .ref m_borders, .int mp, .int mt, .ref m_owner, .ref m_units, .ref m_kind, .ref m_toX, .ref m_toY, .ref m_results, .ref m_known, .ref m_reached, .ref m_way, .ref m_aside, .ref m_origin, .ref m_retreats, .ref m_contested, .ref m_moved, .int msh, .ref m_past])), (m_center, .inl (cZ, 12, .inl (fun j => bI (Ce j)))), (m_owner, .inl (cI, 12, .inl fw)), (m_units, .inl (cI, 12, .inl fu))] s.heap.size = A at hD hXn ⊢
  have hA : ∀ q : Nat, s.heap.size ≤ q → A q := fun q h => by rw [← hAe]; exact Or.inr h
  have hS : va_S A s.heap s.heap [] := va_S.rf
  have hXH : s.heap[aT]? = s.heap[aT]? := rfl
  have hl := lv_entry ([.ref g0, .int pl, .int 0]) (n := 3) (Nat.le_of_ble_eq_true rfl)
  rw [lg_entry_eq]
  generalize (lg_sl ([.ref g0, .int pl, .int 0]) ++ List.replicate (3 - (lg_sl ([.ref g0, .int pl, .int 0])).length) Slot.unset).toArray = ls at hl ⊢
  have hl : lv_has ls 3 [(0, .ref g0), (1, .int pl), (2, .int 0)] := hl
  refine lv_aload_n hx hb d_Mo_count_0 rfl (lv_at hl 0 rfl) ?_
  refine lv_iconst (v := 0) hx hb d_Mo_count_1 (by decide) ?_
  refine va_put (D := D) (ci := 6) (v := .int 0) (ty := .int) (C := R_Mo) (T := T_Mo) (N := 24) hx hb hts hin_Mo ty_Mo tyok_Mo nm_Mo hown hK hP hD hS 0 rfl rfl 0 (by decide) (hts _ wd_704) (fun _ h9 => h9) rfl (by decide +kernel) rfl rfl (Nat.le_of_ble_eq_true rfl) d_Mo_count_2 (fun H locs hP hD hS => ?_)
  have hP : va_P D vwCl [(g0, .inr (6, [.int 0, .int (nI n), .ref m_sea, .ref m_center, .ref m_home, .ref m_borders, .int mp, .int mt, .ref m_owner, .ref m_units, .ref m_kind, .ref m_toX, .ref m_toY, .ref m_results, .ref m_known, .ref m_reached, .ref m_way, .ref m_aside, .ref m_origin, .ref m_retreats, .ref m_contested, .ref m_moved, .int msh, .ref m_past])), (m_center, .inl (cZ, 12, .inl (fun j => bI (Ce j)))), (m_owner, .inl (cI, 12, .inl fw)), (m_units, .inl (cI, 12, .inl fu))] H := hP
  have hD : va_D A [(g0, .inr (6, [.int 0, .int (nI n), .ref m_sea, .ref m_center, .ref m_home, .ref m_borders, .int mp, .int mt, .ref m_owner, .ref m_units, .ref m_kind, .ref m_toX, .ref m_toY, .ref m_results, .ref m_known, .ref m_reached, .ref m_way, .ref m_aside, .ref m_origin, .ref m_retreats, .ref m_contested, .ref m_moved, .int msh, .ref m_past])), (m_center, .inl (cZ, 12, .inl (fun j => bI (Ce j)))), (m_owner, .inl (cI, 12, .inl fw)), (m_units, .inl (cI, 12, .inl fu))] := hD
  refine lv_iload_n hx hb d_Mo_count_5 rfl (lv_at hl 1 rfl) ?_
  have hPc := hP.sub (ws' := []) [] rfl
  refine vp_callSi (va_Run.run (va_runS (As := [.int pl]) (rest := []) ⟨hx, hb, hml, hown, hts⟩ (c_Mo_isPlayer l D cI cZ cJ cS aT ceT  pl ) (va_cwS 1 hts (tb_3 wd_802 wd_803 wd_8 (tb_c wd_804)) rfl rfl rfl ⟨by decide, by decide, by decide +kernel⟩ ⟨Nat.le_of_ble_eq_true rfl, Nat.le_of_ble_eq_true rfl⟩) (tP_S hK hX (hS.2.1 aT hXl hXn) hPc) rfl rfl hl.1 rfl (lv_room (Nat.le_of_ble_eq_true rfl)) d_Mo_count_6 ⟨Nat.le_of_ble_eq_true rfl, Nat.le_of_ble_eq_true rfl⟩)) (fun r1 hr9 => ?_)
  rcases hr9 with ⟨rfl, hq2⟩ | ⟨rfl, hq2⟩
  · -- 6: true
    refine lv_if_eq (tgt := 39) hx hb d_Mo_count_9 (by decide) (fun h0 => absurd h0 (by decide)) (fun _ => ?_)
    refine lv_iload_n hx hb d_Mo_count_12 rfl (lv_at hl 2 rfl) ?_
    refine lv_if_eq (tgt := 21) hx hb d_Mo_count_13 (by decide) (fun _ => ?_) (fun h0 => absurd (by decide) h0)
    refine lv_aload_n hx hb d_Mo_count_21 rfl (lv_at hl 0 rfl) ?_
    refine lv_iload_n hx hb d_Mo_count_22 rfl (lv_at hl 1 rfl) ?_
    refine lv_iload_n hx hb d_Mo_count_23 rfl (lv_at hl 2 rfl) ?_
    refine lv_iconst (v := 1) hx hb d_Mo_count_24 (by decide) ?_
    refine lv_icmp_ne (tgt := 32) hx hb d_Mo_count_25 (by decide) (fun _ => ?_) (fun h0 => absurd h0 (by decide))
    refine lv_iconst (v := 0) hx hb d_Mo_count_32 (by decide) ?_
    have hPc := hP.sub (ws' := [(g0, .inr (6, [.int 0, .int (nI n), .ref m_sea, .ref m_center, .ref m_home, .ref m_borders, .int mp, .int mt, .ref m_owner, .ref m_units, .ref m_kind, .ref m_toX, .ref m_toY, .ref m_results, .ref m_known, .ref m_reached, .ref m_way, .ref m_aside, .ref m_origin, .ref m_retreats, .ref m_contested, .ref m_moved, .int msh, .ref m_past])), (m_center, .inl (cZ, 12, .inl (fun j => bI (Ce j)))), (m_owner, .inl (cI, 12, .inl fw)), (m_units, .inl (cI, 12, .inl fu))]) [0, 1, 2, 3] rfl
    refine vp_callSi (va_Run.run (va_runV (As := [.int pl, .int 0]) (rest := []) ⟨hx, hb, hml, hown, hts⟩ (c_Mo_counted l D cI cZ cJ cS aT ceT  g0 m_sea m_center m_home m_borders m_owner m_units m_kind m_toX m_toY m_results m_known m_reached m_way m_aside m_origin m_retreats m_contested m_moved m_past n 0 mp mt msh Ce fw fu pl false hn) (cwV 2 hts (tb_4 wd_941 wd_943 wp_69 wd_8 (tb_c wd_944)) rfl rfl rfl ⟨rfl, by decide, by decide, by decide +kernel⟩ ⟨Nat.le_of_ble_eq_true rfl, Nat.le_of_ble_eq_true rfl⟩) (tP_V hK hX (hS.2.1 aT hXl hXn) hPc (q := 0) rfl rfl) rfl rfl hl.1 rfl (lv_room (Nat.le_of_ble_eq_true rfl)) d_Mo_count_33 ⟨Nat.le_of_ble_eq_true rfl, Nat.le_of_ble_eq_true rfl⟩)) (fun r6 hr9 => ?_)
    rw [hr9]
    refine lv_goto (tgt := 40) hx hb d_Mo_count_36 (by decide) ?_
    have hP9 := hP.sub (ws' := [(g0, .inr (6, [.int 0, .int (nI n), .ref m_sea, .ref m_center, .ref m_home, .ref m_borders, .int mp, .int mt, .ref m_owner, .ref m_units, .ref m_kind, .ref m_toX, .ref m_toY, .ref m_results, .ref m_known, .ref m_reached, .ref m_way, .ref m_aside, .ref m_origin, .ref m_retreats, .ref m_contested, .ref m_moved, .int msh, .ref m_past])), (m_center, .inl (cZ, 12, .inl (fun j => bI (Ce j)))), (m_owner, .inl (cI, 12, .inl fw)), (m_units, .inl (cI, 12, .inl fu))]) [0, 1, 2, 3] rfl
    have hD9 := hD.sub (ws' := [(g0, .inr (6, [.int 0, .int (nI n), .ref m_sea, .ref m_center, .ref m_home, .ref m_borders, .int mp, .int mt, .ref m_owner, .ref m_units, .ref m_kind, .ref m_toX, .ref m_toY, .ref m_results, .ref m_known, .ref m_reached, .ref m_way, .ref m_aside, .ref m_origin, .ref m_retreats, .ref m_contested, .ref m_moved, .int msh, .ref m_past])), (m_center, .inl (cZ, 12, .inl (fun j => bI (Ce j)))), (m_owner, .inl (cI, 12, .inl fw)), (m_units, .inl (cI, 12, .inl fu))]) [0, 1, 2, 3] (by decide) rfl
    exact W.iret (v := nI (numB (fun b => if false = true then !decide (fu b < 0) && decide (fu b / 2 = pl) else Ce b && decide (fw b = pl)) n)) hx hb hr (fun t ht hW => ⟨⟨nI (numB (fun b => if false = true then !decide (fu b < 0) && decide (fu b / 2 = pl) else Ce b && decide (fw b = pl)) n), (), rfl, rfl, by rw [ht]; exact hP9, hD9⟩, hS.F ht⟩) hS.2.2 d_Mo_count_40
  · exact absurd hq2 (fun h => h hpl)


set_option maxHeartbeats 4000000 in
set_option maxRecDepth 100000 in
theorem c_Mo_count1 (l : Launch) (D : va_G) (cI cZ cJ cS : ClassId) (aT : Nat) (ceT : Cell) (sz : Nat) (g0 m_sea m_center m_home m_borders m_owner m_units m_kind m_toX m_toY m_results m_known m_reached m_way m_aside m_origin m_retreats m_contested m_moved m_past : Nat) (n : Nat) (co mp mt msh : Int32) (Ce : Nat → Bool) (fw : Nat → Int32) (fu : Nat → Int32) (pl : Int32) (hn : n ≤ 12) (hpl : 0 ≤ pl ∧ pl < 4) : Met l y_Mo_count w_Mo_count ({ frames := 1, cells := 0, slots := 0, locals := 24 }) (tH D cI cZ cJ cS aT ceT [.ref g0, .int pl, .int 1] sz [(g0, .inr (6, [.int co, .int (nI n), .ref m_sea, .ref m_center, .ref m_home, .ref m_borders, .int mp, .int mt, .ref m_owner, .ref m_units, .ref m_kind, .ref m_toX, .ref m_toY, .ref m_results, .ref m_known, .ref m_reached, .ref m_way, .ref m_aside, .ref m_origin, .ref m_retreats, .ref m_contested, .ref m_moved, .int msh, .ref m_past])), (m_center, .inl (cZ, 12, .inl (fun j => bI (Ce j)))), (m_owner, .inl (cI, 12, .inl fw)), (m_units, .inl (cI, 12, .inl fu))]) (va_Qi (fun (r : Int32) (_ : Unit) => r = nI (numB (fun b => if true = true then !decide (fu b < 0) && decide (fu b / 2 = pl) else Ce b && decide (fw b = pl)) n)) (fun _ t => tB D (va_A [(g0, .inr (6, [.int co, .int (nI n), .ref m_sea, .ref m_center, .ref m_home, .ref m_borders, .int mp, .int mt, .ref m_owner, .ref m_units, .ref m_kind, .ref m_toX, .ref m_toY, .ref m_results, .ref m_known, .ref m_reached, .ref m_way, .ref m_aside, .ref m_origin, .ref m_retreats, .ref m_contested, .ref m_moved, .int msh, .ref m_past])), (m_center, .inl (cZ, 12, .inl (fun j => bI (Ce j)))), (m_owner, .inl (cI, 12, .inl fw)), (m_units, .inl (cI, 12, .inl fu))] sz) [(g0, .inr (6, [.int 0, .int (nI n), .ref m_sea, .ref m_center, .ref m_home, .ref m_borders, .int mp, .int mt, .ref m_owner, .ref m_units, .ref m_kind, .ref m_toX, .ref m_toY, .ref m_results, .ref m_known, .ref m_reached, .ref m_way, .ref m_aside, .ref m_origin, .ref m_retreats, .ref m_contested, .ref m_moved, .int msh, .ref m_past])), (m_center, .inl (cZ, 12, .inl (fun j => bI (Ce j)))), (m_owner, .inl (cI, 12, .inl fw)), (m_units, .inl (cI, 12, .inl fu))] t) (va_A [(g0, .inr (6, [.int co, .int (nI n), .ref m_sea, .ref m_center, .ref m_home, .ref m_borders, .int mp, .int mt, .ref m_owner, .ref m_units, .ref m_kind, .ref m_toX, .ref m_toY, .ref m_results, .ref m_known, .ref m_reached, .ref m_way, .ref m_aside, .ref m_origin, .ref m_retreats, .ref m_contested, .ref m_moved, .int msh, .ref m_past])), (m_center, .inl (cZ, 12, .inl (fun j => bI (Ce j)))), (m_owner, .inl (cI, 12, .inl fw)), (m_units, .inl (cI, 12, .inl fu))] sz)) 0 0 (va_A [(g0, .inr (6, [.int co, .int (nI n), .ref m_sea, .ref m_center, .ref m_home, .ref m_borders, .int mp, .int mt, .ref m_owner, .ref m_units, .ref m_kind, .ref m_toX, .ref m_toY, .ref m_results, .ref m_known, .ref m_reached, .ref m_way, .ref m_aside, .ref m_origin, .ref m_retreats, .ref m_contested, .ref m_moved, .int msh, .ref m_past])), (m_center, .inl (cZ, 12, .inl (fun j => bI (Ce j)))), (m_owner, .inl (cI, 12, .inl fw)), (m_units, .inl (cI, 12, .inl fu))] sz) := by
  refine Met.ofW (cc := b_Mo_count) (maxL := 3) (ret := (some .int)) (by decide) rfl ?_
  intro p e s m args below meth c s₁ B hml hv
  obtain ⟨rfl, hsz, hP, hK, hD0, hX⟩ := hv
  have hx := B.exec
  have hb := B.bytes
  have hr := B.returns
  have hts0 := atoms_spec (ws := w_Mo_count) B.pre
  have hts : ∀ w ∈ TB, w.before _ s = true := fun w h => hts0 w (List.mem_cons_of_mem _ h)
  have hown : s.vm.findClass R_Mo = some m.cls := findClass_of_methodNamed B.named
  have hlocks := B.notSynchronized
  subst hsz
  have hXl := tx_lt hX
  have hXn := tx_far hP hX
  have hD := hD0.self (sz := s.heap.size)
  generalize hAe : va_A [(g0, .inr (6, [.int co, .int (nI n), .ref m_sea, .ref m_center, .ref m_home, .ref m_borders, .int mp, .int mt, .ref m_owner, .ref m_units, .ref m_kind, .ref m_toX, .ref m_toY, .ref m_results, .ref m_known, .ref m_reached, .ref m_way, .ref m_aside, .ref m_origin, .ref m_retreats, .ref m_contested, .ref m_moved, .int msh, .ref m_past])), (m_center, .inl (cZ, 12, .inl (fun j => bI (Ce j)))), (m_owner, .inl (cI, 12, .inl fw)), (m_units, .inl (cI, 12, .inl fu))] s.heap.size = A at hD hXn ⊢
  have hA : ∀ q : Nat, s.heap.size ≤ q → A q := fun q h => by rw [← hAe]; exact Or.inr h
  have hS : va_S A s.heap s.heap [] := va_S.rf
  have hXH : s.heap[aT]? = s.heap[aT]? := rfl
  have hl := lv_entry ([.ref g0, .int pl, .int 1]) (n := 3) (Nat.le_of_ble_eq_true rfl)
  rw [lg_entry_eq]
  generalize (lg_sl ([.ref g0, .int pl, .int 1]) ++ List.replicate (3 - (lg_sl ([.ref g0, .int pl, .int 1])).length) Slot.unset).toArray = ls at hl ⊢
  have hl : lv_has ls 3 [(0, .ref g0), (1, .int pl), (2, .int 1)] := hl
  refine lv_aload_n hx hb d_Mo_count_0 rfl (lv_at hl 0 rfl) ?_
  refine lv_iconst (v := 0) hx hb d_Mo_count_1 (by decide) ?_
  refine va_put (D := D) (ci := 6) (v := .int 0) (ty := .int) (C := R_Mo) (T := T_Mo) (N := 24) hx hb hts hin_Mo ty_Mo tyok_Mo nm_Mo hown hK hP hD hS 0 rfl rfl 0 (by decide) (hts _ wd_704) (fun _ h9 => h9) rfl (by decide +kernel) rfl rfl (Nat.le_of_ble_eq_true rfl) d_Mo_count_2 (fun H locs hP hD hS => ?_)
  have hP : va_P D vwCl [(g0, .inr (6, [.int 0, .int (nI n), .ref m_sea, .ref m_center, .ref m_home, .ref m_borders, .int mp, .int mt, .ref m_owner, .ref m_units, .ref m_kind, .ref m_toX, .ref m_toY, .ref m_results, .ref m_known, .ref m_reached, .ref m_way, .ref m_aside, .ref m_origin, .ref m_retreats, .ref m_contested, .ref m_moved, .int msh, .ref m_past])), (m_center, .inl (cZ, 12, .inl (fun j => bI (Ce j)))), (m_owner, .inl (cI, 12, .inl fw)), (m_units, .inl (cI, 12, .inl fu))] H := hP
  have hD : va_D A [(g0, .inr (6, [.int 0, .int (nI n), .ref m_sea, .ref m_center, .ref m_home, .ref m_borders, .int mp, .int mt, .ref m_owner, .ref m_units, .ref m_kind, .ref m_toX, .ref m_toY, .ref m_results, .ref m_known, .ref m_reached, .ref m_way, .ref m_aside, .ref m_origin, .ref m_retreats, .ref m_contested, .ref m_moved, .int msh, .ref m_past])), (m_center, .inl (cZ, 12, .inl (fun j => bI (Ce j)))), (m_owner, .inl (cI, 12, .inl fw)), (m_units, .inl (cI, 12, .inl fu))] := hD
  refine lv_iload_n hx hb d_Mo_count_5 rfl (lv_at hl 1 rfl) ?_
  have hPc := hP.sub (ws' := []) [] rfl
  refine vp_callSi (va_Run.run (va_runS (As := [.int pl]) (rest := []) ⟨hx, hb, hml, hown, hts⟩ (c_Mo_isPlayer l D cI cZ cJ cS aT ceT  pl ) (va_cwS 1 hts (tb_3 wd_802 wd_803 wd_8 (tb_c wd_804)) rfl rfl rfl ⟨by decide, by decide, by decide +kernel⟩ ⟨Nat.le_of_ble_eq_true rfl, Nat.le_of_ble_eq_true rfl⟩) (tP_S hK hX (hS.2.1 aT hXl hXn) hPc) rfl rfl hl.1 rfl (lv_room (Nat.le_of_ble_eq_true rfl)) d_Mo_count_6 ⟨Nat.le_of_ble_eq_true rfl, Nat.le_of_ble_eq_true rfl⟩)) (fun r1 hr9 => ?_)
  rcases hr9 with ⟨rfl, hq2⟩ | ⟨rfl, hq2⟩
  · -- 6: true
    refine lv_if_eq (tgt := 39) hx hb d_Mo_count_9 (by decide) (fun h0 => absurd h0 (by decide)) (fun _ => ?_)
    refine lv_iload_n hx hb d_Mo_count_12 rfl (lv_at hl 2 rfl) ?_
    refine lv_if_eq (tgt := 21) hx hb d_Mo_count_13 (by decide) (fun h0 => absurd h0 (by decide)) (fun _ => ?_)
    refine lv_iload_n hx hb d_Mo_count_16 rfl (lv_at hl 2 rfl) ?_
    refine lv_iconst (v := 1) hx hb d_Mo_count_17 (by decide) ?_
    refine lv_icmp_ne (tgt := 39) hx hb d_Mo_count_18 (by decide) (fun h0 => absurd (by decide) h0) (fun _ => ?_)
    refine lv_aload_n hx hb d_Mo_count_21 rfl (lv_at hl 0 rfl) ?_
    refine lv_iload_n hx hb d_Mo_count_22 rfl (lv_at hl 1 rfl) ?_
    refine lv_iload_n hx hb d_Mo_count_23 rfl (lv_at hl 2 rfl) ?_
    refine lv_iconst (v := 1) hx hb d_Mo_count_24 (by decide) ?_
    refine lv_icmp_ne (tgt := 32) hx hb d_Mo_count_25 (by decide) (fun h0 => absurd (by decide) h0) (fun _ => ?_)
    refine lv_iconst (v := 1) hx hb d_Mo_count_28 (by decide) ?_
    refine lv_goto (tgt := 33) hx hb d_Mo_count_29 (by decide) ?_
    have hPc := hP.sub (ws' := [(g0, .inr (6, [.int 0, .int (nI n), .ref m_sea, .ref m_center, .ref m_home, .ref m_borders, .int mp, .int mt, .ref m_owner, .ref m_units, .ref m_kind, .ref m_toX, .ref m_toY, .ref m_results, .ref m_known, .ref m_reached, .ref m_way, .ref m_aside, .ref m_origin, .ref m_retreats, .ref m_contested, .ref m_moved, .int msh, .ref m_past])), (m_center, .inl (cZ, 12, .inl (fun j => bI (Ce j)))), (m_owner, .inl (cI, 12, .inl fw)), (m_units, .inl (cI, 12, .inl fu))]) [0, 1, 2, 3] rfl
    refine vp_callSi (va_Run.run (va_runV (As := [.int pl, .int 1]) (rest := []) ⟨hx, hb, hml, hown, hts⟩ (c_Mo_counted l D cI cZ cJ cS aT ceT  g0 m_sea m_center m_home m_borders m_owner m_units m_kind m_toX m_toY m_results m_known m_reached m_way m_aside m_origin m_retreats m_contested m_moved m_past n 0 mp mt msh Ce fw fu pl true hn) (cwV 2 hts (tb_4 wd_941 wd_943 wp_69 wd_8 (tb_c wd_944)) rfl rfl rfl ⟨rfl, by decide, by decide, by decide +kernel⟩ ⟨Nat.le_of_ble_eq_true rfl, Nat.le_of_ble_eq_true rfl⟩) (tP_V hK hX (hS.2.1 aT hXl hXn) hPc (q := 0) rfl rfl) rfl rfl hl.1 rfl (lv_room (Nat.le_of_ble_eq_true rfl)) d_Mo_count_33 ⟨Nat.le_of_ble_eq_true rfl, Nat.le_of_ble_eq_true rfl⟩)) (fun r7 hr9 => ?_)
    rw [hr9]
    refine lv_goto (tgt := 40) hx hb d_Mo_count_36 (by decide) ?_
    have hP9 := hP.sub (ws' := [(g0, .inr (6, [.int 0, .int (nI n), .ref m_sea, .ref m_center, .ref m_home, .ref m_borders, .int mp, .int mt, .ref m_owner, .ref m_units, .ref m_kind, .ref m_toX, .ref m_toY, .ref m_results, .ref m_known, .ref m_reached, .ref m_way, .ref m_aside, .ref m_origin, .ref m_retreats, .ref m_contested, .ref m_moved, .int msh, .ref m_past])), (m_center, .inl (cZ, 12, .inl (fun j => bI (Ce j)))), (m_owner, .inl (cI, 12, .inl fw)), (m_units, .inl (cI, 12, .inl fu))]) [0, 1, 2, 3] rfl
    have hD9 := hD.sub (ws' := [(g0, .inr (6, [.int 0, .int (nI n), .ref m_sea, .ref m_center, .ref m_home, .ref m_borders, .int mp, .int mt, .ref m_owner, .ref m_units, .ref m_kind, .ref m_toX, .ref m_toY, .ref m_results, .ref m_known, .ref m_reached, .ref m_way, .ref m_aside, .ref m_origin, .ref m_retreats, .ref m_contested, .ref m_moved, .int msh, .ref m_past])), (m_center, .inl (cZ, 12, .inl (fun j => bI (Ce j)))), (m_owner, .inl (cI, 12, .inl fw)), (m_units, .inl (cI, 12, .inl fu))]) [0, 1, 2, 3] (by decide) rfl
    exact W.iret (v := nI (numB (fun b => if true = true then !decide (fu b < 0) && decide (fu b / 2 = pl) else Ce b && decide (fw b = pl)) n)) hx hb hr (fun t ht hW => ⟨⟨nI (numB (fun b => if true = true then !decide (fu b < 0) && decide (fu b / 2 = pl) else Ce b && decide (fw b = pl)) n), (), rfl, rfl, by rw [ht]; exact hP9, hD9⟩, hS.F ht⟩) hS.2.2 d_Mo_count_40
  · exact absurd hq2 (fun h => h hpl)


set_option maxHeartbeats 4000000 in
set_option maxRecDepth 100000 in
theorem c_Sw_toldB (l : Launch) (D : va_G) (cI cZ cJ cS : ClassId) (aT : Nat) (ceT : Cell) (h0 hm hh he ha hp : Nat) (qh qn : Nat) (n seas cen : Int32) (a b : Int32) (hno9 : ¬ (0 ≤ a ∧ a < n)) : Met l y_Sw_told w_Sw_told ({ frames := 1, cells := 0, slots := 0, locals := 21 }) (tP D cI cZ cJ cS aT ceT [.ref h0, .int a, .int b] [(h0, .inr (5, [.ref hm, .ref hh, .ref he, .ref ha, .ref hp, .int 1])), (hm, .inr (4, [.int n, .int seas, .int cen, .ref qh, .ref qn]))]) (vp_Si (fun r => r = (-1))) 0 0 (fun _ => False) := by
  refine Met.ofW (cc := b_Sw_told) (maxL := 3) (ret := (some .int)) (by decide) rfl ?_
  intro p e s m args below meth c s₁ B hml hv
  obtain ⟨rfl, hP, hK, hX⟩ := hv
  have hx := B.exec
  have hb := B.bytes
  have hr := B.returns
  have hts0 := atoms_spec (ws := w_Sw_told) B.pre
  have hts : ∀ w ∈ TB, w.before _ s = true := fun w h => hts0 w (List.mem_cons_of_mem _ h)
  have hown : s.vm.findClass R_Sw = some m.cls := findClass_of_methodNamed B.named
  have hlocks := B.notSynchronized
  have hXH : s.heap[aT]? = s.heap[aT]? := rfl
  have hl := lv_entry ([.ref h0, .int a, .int b]) (n := 3) (Nat.le_of_ble_eq_true rfl)
  rw [lg_entry_eq]
  generalize (lg_sl ([.ref h0, .int a, .int b]) ++ List.replicate (3 - (lg_sl ([.ref h0, .int a, .int b])).length) Slot.unset).toArray = ls at hl ⊢
  have hl : lv_has ls 3 [(0, .ref h0), (1, .int a), (2, .int b)] := hl
  refine lv_aload_n hx hb d_Sw_told_0 rfl (lv_at hl 0 rfl) ?_
  refine va_get (D := D) (ci := 5) (v := .int 1) (C := R_Sw) (T := T_Sw) (N := 6) hx hb hts hin_Sw hown hK hP 0 rfl rfl 5 (by decide) (hts _ wd_206) (fun _ h9 => h9) rfl d_Sw_told_1 ?_
  refine lv_iconst (v := 1) hx hb d_Sw_told_4 (by decide) ?_
  refine lv_icmp_ne (tgt := 30) hx hb d_Sw_told_5 (by decide) (fun h0 => absurd (by decide) h0) (fun _ => ?_)
  refine lv_aload_n hx hb d_Sw_told_8 rfl (lv_at hl 0 rfl) ?_
  refine va_get (D := D) (ci := 5) (v := .ref hm) (C := R_Sw) (T := T_Sw) (N := 6) hx hb hts hin_Sw hown hK hP 0 rfl rfl 0 (by decide) (hts _ wd_201) (fun _ h9 => h9) rfl d_Sw_told_9 ?_
  refine lv_iload_n hx hb d_Sw_told_12 rfl (lv_at hl 1 rfl) ?_
  have hPc := hP.sub (ws' := [(hm, .inr (4, [.int n, .int seas, .int cen, .ref qh, .ref qn]))]) [1] rfl
  refine vp_callSi (va_Run.run (va_runV (As := [.int a]) (rest := []) ⟨hx, hb, hml, hown, hts⟩ (c_Wm_has l D cI cZ cJ cS aT ceT  hm qh qn n seas cen a ) (cwV 1 hts (tb_4 wd_224 wd_225 wd_226 wd_2 (tb_c wd_227)) rfl rfl rfl ⟨rfl, by decide, by decide, by decide +kernel⟩ ⟨Nat.le_of_ble_eq_true rfl, Nat.le_of_ble_eq_true rfl⟩) (tP_V hK hX hXH hPc (q := 0) rfl rfl) rfl rfl hl.1 rfl (lv_room (Nat.le_of_ble_eq_true rfl)) d_Sw_told_13 ⟨Nat.le_of_ble_eq_true rfl, Nat.le_of_ble_eq_true rfl⟩)) (fun r2 hr9 => ?_)
  rcases hr9 with ⟨rfl, hq3⟩ | ⟨rfl, hq3⟩
  · exact absurd hq3 hno9
  · -- 13: false
    refine lv_if_eq (tgt := 30) hx hb d_Sw_told_16 (by decide) (fun _ => ?_) (fun h0 => absurd (by decide) h0)
    refine lv_iconst (v := (-1)) hx hb d_Sw_told_30 (by decide) ?_
    exact W.iret (v := (-1)) hx hb hr (fun t ht hW => ⟨(-1), rfl, rfl, ht⟩) (fun q hq => by cases hq) d_Sw_told_31


set_option maxHeartbeats 4000000 in
set_option maxRecDepth 100000 in
theorem c_Sw_toldN (l : Launch) (D : va_G) (cI cZ cJ cS : ClassId) (aT : Nat) (ceT : Cell) (h0 hm hh he ha hp : Nat) (qh qn n : Nat) (S Ce : Nat → Bool) (tn : Int32) (qu qo qx qy qr qw : Nat) (fu : Nat → Int32) (Oo X Y : Nat → Nat) (a : Nat) (b : Int32) (hn : n ≤ 12) (h_a : a < n) (hu9 : fu a = -1) : Met l y_Sw_told w_Sw_told ({ frames := 1, cells := 0, slots := 0, locals := 21 }) (tP D cI cZ cJ cS aT ceT [.ref h0, .int (nI a), .int b] [(h0, .inr (5, [.ref hm, .ref hh, .ref he, .ref ha, .ref hp, .int 1])), (hm, .inr (4, [.int (nI n), .int (mI S), .int (mI Ce), .ref qh, .ref qn])), (hh, .inr (3, [.int tn, .ref qu, .ref qo, .ref qx, .ref qy, .ref qr, .ref qw])), (qu, .inl (cI, 12, .inl fu)), (qo, .inl (cI, 12, .inl (fun j => nI (Oo j)))), (qx, .inl (cI, 12, .inl (fun j => nI (X j)))), (qy, .inl (cI, 12, .inl (fun j => nI (Y j))))]) (vp_Si (fun r => r = (-1))) 0 0 (fun _ => False) := by
  refine Met.ofW (cc := b_Sw_told) (maxL := 3) (ret := (some .int)) (by decide) rfl ?_
  intro p e s m args below meth c s₁ B hml hv
  obtain ⟨rfl, hP, hK, hX⟩ := hv
  have hx := B.exec
  have hb := B.bytes
  have hr := B.returns
  have hts0 := atoms_spec (ws := w_Sw_told) B.pre
  have hts : ∀ w ∈ TB, w.before _ s = true := fun w h => hts0 w (List.mem_cons_of_mem _ h)
  have hown : s.vm.findClass R_Sw = some m.cls := findClass_of_methodNamed B.named
  have hlocks := B.notSynchronized
  have hXH : s.heap[aT]? = s.heap[aT]? := rfl
  have hl := lv_entry ([.ref h0, .int (nI a), .int b]) (n := 3) (Nat.le_of_ble_eq_true rfl)
  rw [lg_entry_eq]
  generalize (lg_sl ([.ref h0, .int (nI a), .int b]) ++ List.replicate (3 - (lg_sl ([.ref h0, .int (nI a), .int b])).length) Slot.unset).toArray = ls at hl ⊢
  have hl : lv_has ls 3 [(0, .ref h0), (1, .int (nI a)), (2, .int b)] := hl
  refine lv_aload_n hx hb d_Sw_told_0 rfl (lv_at hl 0 rfl) ?_
  refine va_get (D := D) (ci := 5) (v := .int 1) (C := R_Sw) (T := T_Sw) (N := 6) hx hb hts hin_Sw hown hK hP 0 rfl rfl 5 (by decide) (hts _ wd_206) (fun _ h9 => h9) rfl d_Sw_told_1 ?_
  refine lv_iconst (v := 1) hx hb d_Sw_told_4 (by decide) ?_
  refine lv_icmp_ne (tgt := 30) hx hb d_Sw_told_5 (by decide) (fun h0 => absurd (by decide) h0) (fun _ => ?_)
  refine lv_aload_n hx hb d_Sw_told_8 rfl (lv_at hl 0 rfl) ?_
  refine va_get (D := D) (ci := 5) (v := .ref hm) (C := R_Sw) (T := T_Sw) (N := 6) hx hb hts hin_Sw hown hK hP 0 rfl rfl 0 (by decide) (hts _ wd_201) (fun _ h9 => h9) rfl d_Sw_told_9 ?_
  refine lv_iload_n hx hb d_Sw_told_12 rfl (lv_at hl 1 rfl) ?_
  have hPc := hP.sub (ws' := [(hm, .inr (4, [.int (nI n), .int (mI S), .int (mI Ce), .ref qh, .ref qn]))]) [1] rfl
  refine vp_callSi (va_Run.run (va_runV (As := [.int (nI a)]) (rest := []) ⟨hx, hb, hml, hown, hts⟩ (c_Wm_hasY l D cI cZ cJ cS aT ceT  hm qh qn n S Ce a hn h_a) (cwV 1 hts (tb_4 wd_224 wd_225 wd_226 wd_2 (tb_c wd_227)) rfl rfl rfl ⟨rfl, by decide, by decide, by decide +kernel⟩ ⟨Nat.le_of_ble_eq_true rfl, Nat.le_of_ble_eq_true rfl⟩) (tP_V hK hX hXH hPc (q := 0) rfl rfl) rfl rfl hl.1 rfl (lv_room (Nat.le_of_ble_eq_true rfl)) d_Sw_told_13 ⟨Nat.le_of_ble_eq_true rfl, Nat.le_of_ble_eq_true rfl⟩)) (fun r2 hr9 => ?_)
  rw [hr9]
  refine lv_if_eq (tgt := 30) hx hb d_Sw_told_16 (by decide) (fun h0 => absurd h0 (by decide)) (fun _ => ?_)
  refine lv_aload_n hx hb d_Sw_told_19 rfl (lv_at hl 0 rfl) ?_
  refine va_get (D := D) (ci := 5) (v := .ref hh) (C := R_Sw) (T := T_Sw) (N := 6) hx hb hts hin_Sw hown hK hP 0 rfl rfl 1 (by decide) (hts _ wd_202) (fun _ h9 => h9) rfl d_Sw_told_20 ?_
  refine lv_iload_n hx hb d_Sw_told_23 rfl (lv_at hl 1 rfl) ?_
  have hPc := hP.sub (ws' := [(hh, .inr (3, [.int tn, .ref qu, .ref qo, .ref qx, .ref qy, .ref qr, .ref qw])), (qu, .inl (cI, 12, .inl fu))]) [2, 3] rfl
  refine vp_callSi (va_Run.run (va_runV (As := [.int (nI a)]) (rest := []) ⟨hx, hb, hml, hown, hts⟩ (c_Sh_hasUnitP l D cI cZ cJ cS aT ceT  hh tn qu qo qx qy qr qw fu a (Nat.lt_of_lt_of_le h_a hn)) (cwV 1 hts (tb_4 wd_286 wd_287 wd_288 wd_3 (tb_c wd_289)) rfl rfl rfl ⟨rfl, by decide, by decide, by decide +kernel⟩ ⟨Nat.le_of_ble_eq_true rfl, Nat.le_of_ble_eq_true rfl⟩) (tP_V hK hX hXH hPc (q := 0) rfl rfl) rfl rfl hl.1 rfl (lv_room (Nat.le_of_ble_eq_true rfl)) d_Sw_told_24 ⟨Nat.le_of_ble_eq_true rfl, Nat.le_of_ble_eq_true rfl⟩)) (fun r4 hr9 => ?_)
  rw [hr9]
  refine tr_top (bI_f (show (!decide (fu a = -1)) = false by simp [hu9])) ?_
  refine lv_if_ne (tgt := 32) hx hb d_Sw_told_27 (by decide) (fun h0 => absurd (by decide) h0) (fun _ => ?_)
  refine lv_iconst (v := (-1)) hx hb d_Sw_told_30 (by decide) ?_
  exact W.iret (v := (-1)) hx hb hr (fun t ht hW => ⟨(-1), rfl, rfl, ht⟩) (fun q hq => by cases hq) d_Sw_told_31

theorem wd_70 : (Cond.fieldLink "SheetWar" (177 : Nat) "SheetWar$Sheet" "orders" "[I") ∈ TB := tb_t 70 (by decide +kernel) (by decide +kernel)
set_option maxHeartbeats 4000000 in
set_option maxRecDepth 100000 in
theorem c_Sw_told_0 (l : Launch) (D : va_G) (cI cZ cJ cS : ClassId) (aT : Nat) (ceT : Cell) (h0 hm hh he ha hp : Nat) (qh qn n : Nat) (S Ce : Nat → Bool) (tn : Int32) (qu qo qx qy qr qw : Nat) (fu : Nat → Int32) (Oo X Y : Nat → Nat) (a : Nat) (hn : n ≤ 12) (h_a : a < n) (hu9 : ¬ fu a = -1) : Met l y_Sw_told w_Sw_told ({ frames := 1, cells := 0, slots := 0, locals := 21 }) (tP D cI cZ cJ cS aT ceT [.ref h0, .int (nI a), .int 0] [(h0, .inr (5, [.ref hm, .ref hh, .ref he, .ref ha, .ref hp, .int 1])), (hm, .inr (4, [.int (nI n), .int (mI S), .int (mI Ce), .ref qh, .ref qn])), (hh, .inr (3, [.int tn, .ref qu, .ref qo, .ref qx, .ref qy, .ref qr, .ref qw])), (qu, .inl (cI, 12, .inl fu)), (qo, .inl (cI, 12, .inl (fun j => nI (Oo j)))), (qx, .inl (cI, 12, .inl (fun j => nI (X j)))), (qy, .inl (cI, 12, .inl (fun j => nI (Y j))))]) (vp_Si (fun r => r = nI (Oo a))) 0 0 (fun _ => False) := by
  refine Met.ofW (cc := b_Sw_told) (maxL := 3) (ret := (some .int)) (by decide) rfl ?_
  intro p e s m args below meth c s₁ B hml hv
  obtain ⟨rfl, hP, hK, hX⟩ := hv
  have hx := B.exec
  have hb := B.bytes
  have hr := B.returns
  have hts0 := atoms_spec (ws := w_Sw_told) B.pre
  have hts : ∀ w ∈ TB, w.before _ s = true := fun w h => hts0 w (List.mem_cons_of_mem _ h)
  have hown : s.vm.findClass R_Sw = some m.cls := findClass_of_methodNamed B.named
  have hlocks := B.notSynchronized
  have hXH : s.heap[aT]? = s.heap[aT]? := rfl
  have hl := lv_entry ([.ref h0, .int (nI a), .int 0]) (n := 3) (Nat.le_of_ble_eq_true rfl)
  rw [lg_entry_eq]
  generalize (lg_sl ([.ref h0, .int (nI a), .int 0]) ++ List.replicate (3 - (lg_sl ([.ref h0, .int (nI a), .int 0])).length) Slot.unset).toArray = ls at hl ⊢
  have hl : lv_has ls 3 [(0, .ref h0), (1, .int (nI a)), (2, .int 0)] := hl
  refine lv_aload_n hx hb d_Sw_told_0 rfl (lv_at hl 0 rfl) ?_
  refine va_get (D := D) (ci := 5) (v := .int 1) (C := R_Sw) (T := T_Sw) (N := 6) hx hb hts hin_Sw hown hK hP 0 rfl rfl 5 (by decide) (hts _ wd_206) (fun _ h9 => h9) rfl d_Sw_told_1 ?_
  refine lv_iconst (v := 1) hx hb d_Sw_told_4 (by decide) ?_
  refine lv_icmp_ne (tgt := 30) hx hb d_Sw_told_5 (by decide) (fun h0 => absurd (by decide) h0) (fun _ => ?_)
  refine lv_aload_n hx hb d_Sw_told_8 rfl (lv_at hl 0 rfl) ?_
  refine va_get (D := D) (ci := 5) (v := .ref hm) (C := R_Sw) (T := T_Sw) (N := 6) hx hb hts hin_Sw hown hK hP 0 rfl rfl 0 (by decide) (hts _ wd_201) (fun _ h9 => h9) rfl d_Sw_told_9 ?_
  refine lv_iload_n hx hb d_Sw_told_12 rfl (lv_at hl 1 rfl) ?_
  have hPc := hP.sub (ws' := [(hm, .inr (4, [.int (nI n), .int (mI S), .int (mI Ce), .ref qh, .ref qn]))]) [1] rfl
  refine vp_callSi (va_Run.run (va_runV (As := [.int (nI a)]) (rest := []) ⟨hx, hb, hml, hown, hts⟩ (c_Wm_hasY l D cI cZ cJ cS aT ceT  hm qh qn n S Ce a hn h_a) (cwV 1 hts (tb_4 wd_224 wd_225 wd_226 wd_2 (tb_c wd_227)) rfl rfl rfl ⟨rfl, by decide, by decide, by decide +kernel⟩ ⟨Nat.le_of_ble_eq_true rfl, Nat.le_of_ble_eq_true rfl⟩) (tP_V hK hX hXH hPc (q := 0) rfl rfl) rfl rfl hl.1 rfl (lv_room (Nat.le_of_ble_eq_true rfl)) d_Sw_told_13 ⟨Nat.le_of_ble_eq_true rfl, Nat.le_of_ble_eq_true rfl⟩)) (fun r2 hr9 => ?_)
  rw [hr9]
  refine lv_if_eq (tgt := 30) hx hb d_Sw_told_16 (by decide) (fun h0 => absurd h0 (by decide)) (fun _ => ?_)
  refine lv_aload_n hx hb d_Sw_told_19 rfl (lv_at hl 0 rfl) ?_
  refine va_get (D := D) (ci := 5) (v := .ref hh) (C := R_Sw) (T := T_Sw) (N := 6) hx hb hts hin_Sw hown hK hP 0 rfl rfl 1 (by decide) (hts _ wd_202) (fun _ h9 => h9) rfl d_Sw_told_20 ?_
  refine lv_iload_n hx hb d_Sw_told_23 rfl (lv_at hl 1 rfl) ?_
  have hPc := hP.sub (ws' := [(hh, .inr (3, [.int tn, .ref qu, .ref qo, .ref qx, .ref qy, .ref qr, .ref qw])), (qu, .inl (cI, 12, .inl fu))]) [2, 3] rfl
  refine vp_callSi (va_Run.run (va_runV (As := [.int (nI a)]) (rest := []) ⟨hx, hb, hml, hown, hts⟩ (c_Sh_hasUnitP l D cI cZ cJ cS aT ceT  hh tn qu qo qx qy qr qw fu a (Nat.lt_of_lt_of_le h_a hn)) (cwV 1 hts (tb_4 wd_286 wd_287 wd_288 wd_3 (tb_c wd_289)) rfl rfl rfl ⟨rfl, by decide, by decide, by decide +kernel⟩ ⟨Nat.le_of_ble_eq_true rfl, Nat.le_of_ble_eq_true rfl⟩) (tP_V hK hX hXH hPc (q := 0) rfl rfl) rfl rfl hl.1 rfl (lv_room (Nat.le_of_ble_eq_true rfl)) d_Sw_told_24 ⟨Nat.le_of_ble_eq_true rfl, Nat.le_of_ble_eq_true rfl⟩)) (fun r4 hr9 => ?_)
  rw [hr9]
  refine tr_top (bI_t (show (!decide (fu a = -1)) = true by simp [hu9])) ?_
  refine lv_if_ne (tgt := 32) hx hb d_Sw_told_27 (by decide) (fun _ => ?_) (fun h0 => absurd h0 (by decide))
  refine lv_iload_n hx hb d_Sw_told_32 rfl (lv_at hl 2 rfl) ?_
  refine lv_tableIn (off := 27) (tgt := 60) hx hb d_Sw_told_33 (by decide) (by decide) rfl (by decide) ?_
  refine lv_aload_n hx hb d_Sw_told_60 rfl (lv_at hl 0 rfl) ?_
  refine va_get (D := D) (ci := 5) (v := .ref hh) (C := R_Sw) (T := T_Sw) (N := 6) hx hb hts hin_Sw hown hK hP 0 rfl rfl 1 (by decide) (hts _ wd_202) (fun _ h9 => h9) rfl d_Sw_told_61 ?_
  refine va_get (D := D) (ci := 3) (v := .ref qo) (C := R_Sh) (T := T_Sh) (N := 7) hx hb hts hin_Sh hown hK hP 2 rfl rfl 2 (by decide) (hts _ wd_70) (fun _ h9 => h9) rfl d_Sw_told_64 ?_
  refine lv_iload_n hx hb d_Sw_told_67 rfl (lv_at hl 1 rfl) ?_
  refine tr_iald (v := nI (Oo a)) hx hb hK hP 4 0 rfl rfl a (Nat.lt_of_lt_of_le h_a hn) (by decide) rfl d_Sw_told_68 ?_
  exact W.iret (v := nI (Oo a)) hx hb hr (fun t ht hW => ⟨nI (Oo a), rfl, rfl, ht⟩) (fun q hq => by cases hq) d_Sw_told_69

theorem wd_73 : (Cond.fieldLink "SheetWar" (180 : Nat) "SheetWar$Sheet" "xs" "[I") ∈ TB := tb_t 73 (by decide +kernel) (by decide +kernel)
set_option maxHeartbeats 4000000 in
set_option maxRecDepth 100000 in
theorem c_Sw_told_1 (l : Launch) (D : va_G) (cI cZ cJ cS : ClassId) (aT : Nat) (ceT : Cell) (h0 hm hh he ha hp : Nat) (qh qn n : Nat) (S Ce : Nat → Bool) (tn : Int32) (qu qo qx qy qr qw : Nat) (fu : Nat → Int32) (Oo X Y : Nat → Nat) (a : Nat) (hn : n ≤ 12) (h_a : a < n) (hu9 : ¬ fu a = -1) : Met l y_Sw_told w_Sw_told ({ frames := 1, cells := 0, slots := 0, locals := 21 }) (tP D cI cZ cJ cS aT ceT [.ref h0, .int (nI a), .int 1] [(h0, .inr (5, [.ref hm, .ref hh, .ref he, .ref ha, .ref hp, .int 1])), (hm, .inr (4, [.int (nI n), .int (mI S), .int (mI Ce), .ref qh, .ref qn])), (hh, .inr (3, [.int tn, .ref qu, .ref qo, .ref qx, .ref qy, .ref qr, .ref qw])), (qu, .inl (cI, 12, .inl fu)), (qo, .inl (cI, 12, .inl (fun j => nI (Oo j)))), (qx, .inl (cI, 12, .inl (fun j => nI (X j)))), (qy, .inl (cI, 12, .inl (fun j => nI (Y j))))]) (vp_Si (fun r => r = nI (X a))) 0 0 (fun _ => False) := by
  refine Met.ofW (cc := b_Sw_told) (maxL := 3) (ret := (some .int)) (by decide) rfl ?_
  intro p e s m args below meth c s₁ B hml hv
  obtain ⟨rfl, hP, hK, hX⟩ := hv
  have hx := B.exec
  have hb := B.bytes
  have hr := B.returns
  have hts0 := atoms_spec (ws := w_Sw_told) B.pre
  have hts : ∀ w ∈ TB, w.before _ s = true := fun w h => hts0 w (List.mem_cons_of_mem _ h)
  have hown : s.vm.findClass R_Sw = some m.cls := findClass_of_methodNamed B.named
  have hlocks := B.notSynchronized
  have hXH : s.heap[aT]? = s.heap[aT]? := rfl
  have hl := lv_entry ([.ref h0, .int (nI a), .int 1]) (n := 3) (Nat.le_of_ble_eq_true rfl)
  rw [lg_entry_eq]
  generalize (lg_sl ([.ref h0, .int (nI a), .int 1]) ++ List.replicate (3 - (lg_sl ([.ref h0, .int (nI a), .int 1])).length) Slot.unset).toArray = ls at hl ⊢
  have hl : lv_has ls 3 [(0, .ref h0), (1, .int (nI a)), (2, .int 1)] := hl
  refine lv_aload_n hx hb d_Sw_told_0 rfl (lv_at hl 0 rfl) ?_
  refine va_get (D := D) (ci := 5) (v := .int 1) (C := R_Sw) (T := T_Sw) (N := 6) hx hb hts hin_Sw hown hK hP 0 rfl rfl 5 (by decide) (hts _ wd_206) (fun _ h9 => h9) rfl d_Sw_told_1 ?_
  refine lv_iconst (v := 1) hx hb d_Sw_told_4 (by decide) ?_
  refine lv_icmp_ne (tgt := 30) hx hb d_Sw_told_5 (by decide) (fun h0 => absurd (by decide) h0) (fun _ => ?_)
  refine lv_aload_n hx hb d_Sw_told_8 rfl (lv_at hl 0 rfl) ?_
  refine va_get (D := D) (ci := 5) (v := .ref hm) (C := R_Sw) (T := T_Sw) (N := 6) hx hb hts hin_Sw hown hK hP 0 rfl rfl 0 (by decide) (hts _ wd_201) (fun _ h9 => h9) rfl d_Sw_told_9 ?_
  refine lv_iload_n hx hb d_Sw_told_12 rfl (lv_at hl 1 rfl) ?_
  have hPc := hP.sub (ws' := [(hm, .inr (4, [.int (nI n), .int (mI S), .int (mI Ce), .ref qh, .ref qn]))]) [1] rfl
  refine vp_callSi (va_Run.run (va_runV (As := [.int (nI a)]) (rest := []) ⟨hx, hb, hml, hown, hts⟩ (c_Wm_hasY l D cI cZ cJ cS aT ceT  hm qh qn n S Ce a hn h_a) (cwV 1 hts (tb_4 wd_224 wd_225 wd_226 wd_2 (tb_c wd_227)) rfl rfl rfl ⟨rfl, by decide, by decide, by decide +kernel⟩ ⟨Nat.le_of_ble_eq_true rfl, Nat.le_of_ble_eq_true rfl⟩) (tP_V hK hX hXH hPc (q := 0) rfl rfl) rfl rfl hl.1 rfl (lv_room (Nat.le_of_ble_eq_true rfl)) d_Sw_told_13 ⟨Nat.le_of_ble_eq_true rfl, Nat.le_of_ble_eq_true rfl⟩)) (fun r2 hr9 => ?_)
  rw [hr9]
  refine lv_if_eq (tgt := 30) hx hb d_Sw_told_16 (by decide) (fun h0 => absurd h0 (by decide)) (fun _ => ?_)
  refine lv_aload_n hx hb d_Sw_told_19 rfl (lv_at hl 0 rfl) ?_
  refine va_get (D := D) (ci := 5) (v := .ref hh) (C := R_Sw) (T := T_Sw) (N := 6) hx hb hts hin_Sw hown hK hP 0 rfl rfl 1 (by decide) (hts _ wd_202) (fun _ h9 => h9) rfl d_Sw_told_20 ?_
  refine lv_iload_n hx hb d_Sw_told_23 rfl (lv_at hl 1 rfl) ?_
  have hPc := hP.sub (ws' := [(hh, .inr (3, [.int tn, .ref qu, .ref qo, .ref qx, .ref qy, .ref qr, .ref qw])), (qu, .inl (cI, 12, .inl fu))]) [2, 3] rfl
  refine vp_callSi (va_Run.run (va_runV (As := [.int (nI a)]) (rest := []) ⟨hx, hb, hml, hown, hts⟩ (c_Sh_hasUnitP l D cI cZ cJ cS aT ceT  hh tn qu qo qx qy qr qw fu a (Nat.lt_of_lt_of_le h_a hn)) (cwV 1 hts (tb_4 wd_286 wd_287 wd_288 wd_3 (tb_c wd_289)) rfl rfl rfl ⟨rfl, by decide, by decide, by decide +kernel⟩ ⟨Nat.le_of_ble_eq_true rfl, Nat.le_of_ble_eq_true rfl⟩) (tP_V hK hX hXH hPc (q := 0) rfl rfl) rfl rfl hl.1 rfl (lv_room (Nat.le_of_ble_eq_true rfl)) d_Sw_told_24 ⟨Nat.le_of_ble_eq_true rfl, Nat.le_of_ble_eq_true rfl⟩)) (fun r4 hr9 => ?_)
  rw [hr9]
  refine tr_top (bI_t (show (!decide (fu a = -1)) = true by simp [hu9])) ?_
  refine lv_if_ne (tgt := 32) hx hb d_Sw_told_27 (by decide) (fun _ => ?_) (fun h0 => absurd h0 (by decide))
  refine lv_iload_n hx hb d_Sw_told_32 rfl (lv_at hl 2 rfl) ?_
  refine lv_tableIn (off := 37) (tgt := 70) hx hb d_Sw_told_33 (by decide) (by decide) rfl (by decide) ?_
  refine lv_aload_n hx hb d_Sw_told_70 rfl (lv_at hl 0 rfl) ?_
  refine va_get (D := D) (ci := 5) (v := .ref hh) (C := R_Sw) (T := T_Sw) (N := 6) hx hb hts hin_Sw hown hK hP 0 rfl rfl 1 (by decide) (hts _ wd_202) (fun _ h9 => h9) rfl d_Sw_told_71 ?_
  refine va_get (D := D) (ci := 3) (v := .ref qx) (C := R_Sh) (T := T_Sh) (N := 7) hx hb hts hin_Sh hown hK hP 2 rfl rfl 3 (by decide) (hts _ wd_73) (fun _ h9 => h9) rfl d_Sw_told_74 ?_
  refine lv_iload_n hx hb d_Sw_told_77 rfl (lv_at hl 1 rfl) ?_
  refine tr_iald (v := nI (X a)) hx hb hK hP 5 0 rfl rfl a (Nat.lt_of_lt_of_le h_a hn) (by decide) rfl d_Sw_told_78 ?_
  exact W.iret (v := nI (X a)) hx hb hr (fun t ht hW => ⟨nI (X a), rfl, rfl, ht⟩) (fun q hq => by cases hq) d_Sw_told_79

theorem wd_76 : (Cond.fieldLink "SheetWar" (183 : Nat) "SheetWar$Sheet" "ys" "[I") ∈ TB := tb_t 76 (by decide +kernel) (by decide +kernel)
set_option maxHeartbeats 4000000 in
set_option maxRecDepth 100000 in
theorem c_Sw_told_2 (l : Launch) (D : va_G) (cI cZ cJ cS : ClassId) (aT : Nat) (ceT : Cell) (h0 hm hh he ha hp : Nat) (qh qn n : Nat) (S Ce : Nat → Bool) (tn : Int32) (qu qo qx qy qr qw : Nat) (fu : Nat → Int32) (Oo X Y : Nat → Nat) (a : Nat) (hn : n ≤ 12) (h_a : a < n) (hu9 : ¬ fu a = -1) : Met l y_Sw_told w_Sw_told ({ frames := 1, cells := 0, slots := 0, locals := 21 }) (tP D cI cZ cJ cS aT ceT [.ref h0, .int (nI a), .int 2] [(h0, .inr (5, [.ref hm, .ref hh, .ref he, .ref ha, .ref hp, .int 1])), (hm, .inr (4, [.int (nI n), .int (mI S), .int (mI Ce), .ref qh, .ref qn])), (hh, .inr (3, [.int tn, .ref qu, .ref qo, .ref qx, .ref qy, .ref qr, .ref qw])), (qu, .inl (cI, 12, .inl fu)), (qo, .inl (cI, 12, .inl (fun j => nI (Oo j)))), (qx, .inl (cI, 12, .inl (fun j => nI (X j)))), (qy, .inl (cI, 12, .inl (fun j => nI (Y j))))]) (vp_Si (fun r => r = nI (Y a))) 0 0 (fun _ => False) := by
  refine Met.ofW (cc := b_Sw_told) (maxL := 3) (ret := (some .int)) (by decide) rfl ?_
  intro p e s m args below meth c s₁ B hml hv
  obtain ⟨rfl, hP, hK, hX⟩ := hv
  have hx := B.exec
  have hb := B.bytes
  have hr := B.returns
  have hts0 := atoms_spec (ws := w_Sw_told) B.pre
  have hts : ∀ w ∈ TB, w.before _ s = true := fun w h => hts0 w (List.mem_cons_of_mem _ h)
  have hown : s.vm.findClass R_Sw = some m.cls := findClass_of_methodNamed B.named
  have hlocks := B.notSynchronized
  have hXH : s.heap[aT]? = s.heap[aT]? := rfl
  have hl := lv_entry ([.ref h0, .int (nI a), .int 2]) (n := 3) (Nat.le_of_ble_eq_true rfl)
  rw [lg_entry_eq]
  generalize (lg_sl ([.ref h0, .int (nI a), .int 2]) ++ List.replicate (3 - (lg_sl ([.ref h0, .int (nI a), .int 2])).length) Slot.unset).toArray = ls at hl ⊢
  have hl : lv_has ls 3 [(0, .ref h0), (1, .int (nI a)), (2, .int 2)] := hl
  refine lv_aload_n hx hb d_Sw_told_0 rfl (lv_at hl 0 rfl) ?_
  refine va_get (D := D) (ci := 5) (v := .int 1) (C := R_Sw) (T := T_Sw) (N := 6) hx hb hts hin_Sw hown hK hP 0 rfl rfl 5 (by decide) (hts _ wd_206) (fun _ h9 => h9) rfl d_Sw_told_1 ?_
  refine lv_iconst (v := 1) hx hb d_Sw_told_4 (by decide) ?_
  refine lv_icmp_ne (tgt := 30) hx hb d_Sw_told_5 (by decide) (fun h0 => absurd (by decide) h0) (fun _ => ?_)
  refine lv_aload_n hx hb d_Sw_told_8 rfl (lv_at hl 0 rfl) ?_
  refine va_get (D := D) (ci := 5) (v := .ref hm) (C := R_Sw) (T := T_Sw) (N := 6) hx hb hts hin_Sw hown hK hP 0 rfl rfl 0 (by decide) (hts _ wd_201) (fun _ h9 => h9) rfl d_Sw_told_9 ?_
  refine lv_iload_n hx hb d_Sw_told_12 rfl (lv_at hl 1 rfl) ?_
  have hPc := hP.sub (ws' := [(hm, .inr (4, [.int (nI n), .int (mI S), .int (mI Ce), .ref qh, .ref qn]))]) [1] rfl
  refine vp_callSi (va_Run.run (va_runV (As := [.int (nI a)]) (rest := []) ⟨hx, hb, hml, hown, hts⟩ (c_Wm_hasY l D cI cZ cJ cS aT ceT  hm qh qn n S Ce a hn h_a) (cwV 1 hts (tb_4 wd_224 wd_225 wd_226 wd_2 (tb_c wd_227)) rfl rfl rfl ⟨rfl, by decide, by decide, by decide +kernel⟩ ⟨Nat.le_of_ble_eq_true rfl, Nat.le_of_ble_eq_true rfl⟩) (tP_V hK hX hXH hPc (q := 0) rfl rfl) rfl rfl hl.1 rfl (lv_room (Nat.le_of_ble_eq_true rfl)) d_Sw_told_13 ⟨Nat.le_of_ble_eq_true rfl, Nat.le_of_ble_eq_true rfl⟩)) (fun r2 hr9 => ?_)
  rw [hr9]
  refine lv_if_eq (tgt := 30) hx hb d_Sw_told_16 (by decide) (fun h0 => absurd h0 (by decide)) (fun _ => ?_)
  refine lv_aload_n hx hb d_Sw_told_19 rfl (lv_at hl 0 rfl) ?_
  refine va_get (D := D) (ci := 5) (v := .ref hh) (C := R_Sw) (T := T_Sw) (N := 6) hx hb hts hin_Sw hown hK hP 0 rfl rfl 1 (by decide) (hts _ wd_202) (fun _ h9 => h9) rfl d_Sw_told_20 ?_
  refine lv_iload_n hx hb d_Sw_told_23 rfl (lv_at hl 1 rfl) ?_
  have hPc := hP.sub (ws' := [(hh, .inr (3, [.int tn, .ref qu, .ref qo, .ref qx, .ref qy, .ref qr, .ref qw])), (qu, .inl (cI, 12, .inl fu))]) [2, 3] rfl
  refine vp_callSi (va_Run.run (va_runV (As := [.int (nI a)]) (rest := []) ⟨hx, hb, hml, hown, hts⟩ (c_Sh_hasUnitP l D cI cZ cJ cS aT ceT  hh tn qu qo qx qy qr qw fu a (Nat.lt_of_lt_of_le h_a hn)) (cwV 1 hts (tb_4 wd_286 wd_287 wd_288 wd_3 (tb_c wd_289)) rfl rfl rfl ⟨rfl, by decide, by decide, by decide +kernel⟩ ⟨Nat.le_of_ble_eq_true rfl, Nat.le_of_ble_eq_true rfl⟩) (tP_V hK hX hXH hPc (q := 0) rfl rfl) rfl rfl hl.1 rfl (lv_room (Nat.le_of_ble_eq_true rfl)) d_Sw_told_24 ⟨Nat.le_of_ble_eq_true rfl, Nat.le_of_ble_eq_true rfl⟩)) (fun r4 hr9 => ?_)
  rw [hr9]
  refine tr_top (bI_t (show (!decide (fu a = -1)) = true by simp [hu9])) ?_
  refine lv_if_ne (tgt := 32) hx hb d_Sw_told_27 (by decide) (fun _ => ?_) (fun h0 => absurd h0 (by decide))
  refine lv_iload_n hx hb d_Sw_told_32 rfl (lv_at hl 2 rfl) ?_
  refine lv_tableIn (off := 47) (tgt := 80) hx hb d_Sw_told_33 (by decide) (by decide) rfl (by decide) ?_
  refine lv_aload_n hx hb d_Sw_told_80 rfl (lv_at hl 0 rfl) ?_
  refine va_get (D := D) (ci := 5) (v := .ref hh) (C := R_Sw) (T := T_Sw) (N := 6) hx hb hts hin_Sw hown hK hP 0 rfl rfl 1 (by decide) (hts _ wd_202) (fun _ h9 => h9) rfl d_Sw_told_81 ?_
  refine va_get (D := D) (ci := 3) (v := .ref qy) (C := R_Sh) (T := T_Sh) (N := 7) hx hb hts hin_Sh hown hK hP 2 rfl rfl 4 (by decide) (hts _ wd_76) (fun _ h9 => h9) rfl d_Sw_told_84 ?_
  refine lv_iload_n hx hb d_Sw_told_87 rfl (lv_at hl 1 rfl) ?_
  refine tr_iald (v := nI (Y a)) hx hb hK hP 6 0 rfl rfl a (Nat.lt_of_lt_of_le h_a hn) (by decide) rfl d_Sw_told_88 ?_
  exact W.iret (v := nI (Y a)) hx hb hr (fun t ht hW => ⟨nI (Y a), rfl, rfl, ht⟩) (fun q hq => by cases hq) d_Sw_told_89


set_option maxHeartbeats 4000000 in
set_option maxRecDepth 100000 in
theorem c_Sw_toldX (l : Launch) (D : va_G) (cI cZ cJ cS : ClassId) (aT : Nat) (ceT : Cell) (h0 hm hh he ha hp : Nat) (qh qn n : Nat) (S Ce : Nat → Bool) (tn : Int32) (qu qo qx qy qr qw : Nat) (fu : Nat → Int32) (Oo X Y : Nat → Nat) (a : Nat) (b : Int32) (hn : n ≤ 12) (h_a : a < n) (hu9 : ¬ fu a = -1) (hw9 : ¬ b = 0 ∧ ¬ b = 1 ∧ ¬ b = 2) : Met l y_Sw_told w_Sw_told ({ frames := 1, cells := 0, slots := 0, locals := 21 }) (tP D cI cZ cJ cS aT ceT [.ref h0, .int (nI a), .int b] [(h0, .inr (5, [.ref hm, .ref hh, .ref he, .ref ha, .ref hp, .int 1])), (hm, .inr (4, [.int (nI n), .int (mI S), .int (mI Ce), .ref qh, .ref qn])), (hh, .inr (3, [.int tn, .ref qu, .ref qo, .ref qx, .ref qy, .ref qr, .ref qw])), (qu, .inl (cI, 12, .inl fu)), (qo, .inl (cI, 12, .inl (fun j => nI (Oo j)))), (qx, .inl (cI, 12, .inl (fun j => nI (X j)))), (qy, .inl (cI, 12, .inl (fun j => nI (Y j))))]) (vp_Si (fun r => r = (-1))) 0 0 (fun _ => False) := by
  refine Met.ofW (cc := b_Sw_told) (maxL := 3) (ret := (some .int)) (by decide) rfl ?_
  intro p e s m args below meth c s₁ B hml hv
  obtain ⟨rfl, hP, hK, hX⟩ := hv
  have hx := B.exec
  have hb := B.bytes
  have hr := B.returns
  have hts0 := atoms_spec (ws := w_Sw_told) B.pre
  have hts : ∀ w ∈ TB, w.before _ s = true := fun w h => hts0 w (List.mem_cons_of_mem _ h)
  have hown : s.vm.findClass R_Sw = some m.cls := findClass_of_methodNamed B.named
  have hlocks := B.notSynchronized
  have hXH : s.heap[aT]? = s.heap[aT]? := rfl
  have hl := lv_entry ([.ref h0, .int (nI a), .int b]) (n := 3) (Nat.le_of_ble_eq_true rfl)
  rw [lg_entry_eq]
  generalize (lg_sl ([.ref h0, .int (nI a), .int b]) ++ List.replicate (3 - (lg_sl ([.ref h0, .int (nI a), .int b])).length) Slot.unset).toArray = ls at hl ⊢
  have hl : lv_has ls 3 [(0, .ref h0), (1, .int (nI a)), (2, .int b)] := hl
  refine lv_aload_n hx hb d_Sw_told_0 rfl (lv_at hl 0 rfl) ?_
  refine va_get (D := D) (ci := 5) (v := .int 1) (C := R_Sw) (T := T_Sw) (N := 6) hx hb hts hin_Sw hown hK hP 0 rfl rfl 5 (by decide) (hts _ wd_206) (fun _ h9 => h9) rfl d_Sw_told_1 ?_
  refine lv_iconst (v := 1) hx hb d_Sw_told_4 (by decide) ?_
  refine lv_icmp_ne (tgt := 30) hx hb d_Sw_told_5 (by decide) (fun h0 => absurd (by decide) h0) (fun _ => ?_)
  refine lv_aload_n hx hb d_Sw_told_8 rfl (lv_at hl 0 rfl) ?_
  refine va_get (D := D) (ci := 5) (v := .ref hm) (C := R_Sw) (T := T_Sw) (N := 6) hx hb hts hin_Sw hown hK hP 0 rfl rfl 0 (by decide) (hts _ wd_201) (fun _ h9 => h9) rfl d_Sw_told_9 ?_
  refine lv_iload_n hx hb d_Sw_told_12 rfl (lv_at hl 1 rfl) ?_
  have hPc := hP.sub (ws' := [(hm, .inr (4, [.int (nI n), .int (mI S), .int (mI Ce), .ref qh, .ref qn]))]) [1] rfl
  refine vp_callSi (va_Run.run (va_runV (As := [.int (nI a)]) (rest := []) ⟨hx, hb, hml, hown, hts⟩ (c_Wm_hasY l D cI cZ cJ cS aT ceT  hm qh qn n S Ce a hn h_a) (cwV 1 hts (tb_4 wd_224 wd_225 wd_226 wd_2 (tb_c wd_227)) rfl rfl rfl ⟨rfl, by decide, by decide, by decide +kernel⟩ ⟨Nat.le_of_ble_eq_true rfl, Nat.le_of_ble_eq_true rfl⟩) (tP_V hK hX hXH hPc (q := 0) rfl rfl) rfl rfl hl.1 rfl (lv_room (Nat.le_of_ble_eq_true rfl)) d_Sw_told_13 ⟨Nat.le_of_ble_eq_true rfl, Nat.le_of_ble_eq_true rfl⟩)) (fun r2 hr9 => ?_)
  rw [hr9]
  refine lv_if_eq (tgt := 30) hx hb d_Sw_told_16 (by decide) (fun h0 => absurd h0 (by decide)) (fun _ => ?_)
  refine lv_aload_n hx hb d_Sw_told_19 rfl (lv_at hl 0 rfl) ?_
  refine va_get (D := D) (ci := 5) (v := .ref hh) (C := R_Sw) (T := T_Sw) (N := 6) hx hb hts hin_Sw hown hK hP 0 rfl rfl 1 (by decide) (hts _ wd_202) (fun _ h9 => h9) rfl d_Sw_told_20 ?_
  refine lv_iload_n hx hb d_Sw_told_23 rfl (lv_at hl 1 rfl) ?_
  have hPc := hP.sub (ws' := [(hh, .inr (3, [.int tn, .ref qu, .ref qo, .ref qx, .ref qy, .ref qr, .ref qw])), (qu, .inl (cI, 12, .inl fu))]) [2, 3] rfl
  refine vp_callSi (va_Run.run (va_runV (As := [.int (nI a)]) (rest := []) ⟨hx, hb, hml, hown, hts⟩ (c_Sh_hasUnitP l D cI cZ cJ cS aT ceT  hh tn qu qo qx qy qr qw fu a (Nat.lt_of_lt_of_le h_a hn)) (cwV 1 hts (tb_4 wd_286 wd_287 wd_288 wd_3 (tb_c wd_289)) rfl rfl rfl ⟨rfl, by decide, by decide, by decide +kernel⟩ ⟨Nat.le_of_ble_eq_true rfl, Nat.le_of_ble_eq_true rfl⟩) (tP_V hK hX hXH hPc (q := 0) rfl rfl) rfl rfl hl.1 rfl (lv_room (Nat.le_of_ble_eq_true rfl)) d_Sw_told_24 ⟨Nat.le_of_ble_eq_true rfl, Nat.le_of_ble_eq_true rfl⟩)) (fun r4 hr9 => ?_)
  rw [hr9]
  refine tr_top (bI_t (show (!decide (fu a = -1)) = true by simp [hu9])) ?_
  refine lv_if_ne (tgt := 32) hx hb d_Sw_told_27 (by decide) (fun _ => ?_) (fun h0 => absurd h0 (by decide))
  refine lv_iload_n hx hb d_Sw_told_32 rfl (lv_at hl 2 rfl) ?_
  refine lv_tableOut (tgt := 90) hx hb d_Sw_told_33 (by revert hw9; simp only [Int32.lt_iff_toInt_lt, Int32.le_iff_toInt_le, ← Int32.toInt_inj, Int32.reduceToInt, i32_m1]; omega) (by decide) ?_
  refine lv_iconst (v := (-1)) hx hb d_Sw_told_90 (by decide) ?_
  exact W.iret (v := (-1)) hx hb hr (fun t ht hW => ⟨(-1), rfl, rfl, ht⟩) (fun q hq => by cases hq) d_Sw_told_91


set_option maxHeartbeats 4000000 in
set_option maxRecDepth 100000 in
theorem c_Sw_mayGoN (l : Launch) (D : va_G) (cI cZ cJ cS : ClassId) (aT : Nat) (ceT : Cell) (h0 hm hh he ha hp : Nat) (ph : Int32) (qh qn : Nat) (n seas cen : Int32) (a b : Int32) (hno9 : ¬ ((0 ≤ a ∧ a < n) ∧ (0 ≤ b ∧ b < n))) : Met l y_Sw_mayGo w_Sw_mayGo ({ frames := 1, cells := 0, slots := 0, locals := 21 }) (tP D cI cZ cJ cS aT ceT [.ref h0, .int a, .int b] [(h0, .inr (5, [.ref hm, .ref hh, .ref he, .ref ha, .ref hp, .int ph])), (hm, .inr (4, [.int n, .int seas, .int cen, .ref qh, .ref qn]))]) (vp_Si (fun r => r = 0)) 0 0 (fun _ => False) := by
  refine Met.ofW (cc := b_Sw_mayGo) (maxL := 3) (ret := (some .boolean)) (by decide) rfl ?_
  intro p e s m args below meth c s₁ B hml hv
  obtain ⟨rfl, hP, hK, hX⟩ := hv
  have hx := B.exec
  have hb := B.bytes
  have hr := B.returns
  have hts0 := atoms_spec (ws := w_Sw_mayGo) B.pre
  have hts : ∀ w ∈ TB, w.before _ s = true := fun w h => hts0 w (List.mem_cons_of_mem _ h)
  have hown : s.vm.findClass R_Sw = some m.cls := findClass_of_methodNamed B.named
  have hlocks := B.notSynchronized
  have hXH : s.heap[aT]? = s.heap[aT]? := rfl
  have hl := lv_entry ([.ref h0, .int a, .int b]) (n := 3) (Nat.le_of_ble_eq_true rfl)
  rw [lg_entry_eq]
  generalize (lg_sl ([.ref h0, .int a, .int b]) ++ List.replicate (3 - (lg_sl ([.ref h0, .int a, .int b])).length) Slot.unset).toArray = ls at hl ⊢
  have hl : lv_has ls 3 [(0, .ref h0), (1, .int a), (2, .int b)] := hl
  refine lv_aload_n hx hb d_Sw_mayGo_0 rfl (lv_at hl 0 rfl) ?_
  refine va_get (D := D) (ci := 5) (v := .ref hm) (C := R_Sw) (T := T_Sw) (N := 6) hx hb hts hin_Sw hown hK hP 0 rfl rfl 0 (by decide) (hts _ wd_201) (fun _ h9 => h9) rfl d_Sw_mayGo_1 ?_
  refine lv_iload_n hx hb d_Sw_mayGo_4 rfl (lv_at hl 1 rfl) ?_
  have hPc := hP.sub (ws' := [(hm, .inr (4, [.int n, .int seas, .int cen, .ref qh, .ref qn]))]) [1] rfl
  refine vp_callSi (va_Run.run (va_runV (As := [.int a]) (rest := []) ⟨hx, hb, hml, hown, hts⟩ (c_Wm_has l D cI cZ cJ cS aT ceT  hm qh qn n seas cen a ) (cwV 1 hts (tb_4 wd_224 wd_225 wd_226 wd_2 (tb_c wd_227)) rfl rfl rfl ⟨rfl, by decide, by decide, by decide +kernel⟩ ⟨Nat.le_of_ble_eq_true rfl, Nat.le_of_ble_eq_true rfl⟩) (tP_V hK hX hXH hPc (q := 0) rfl rfl) rfl rfl hl.1 rfl (lv_room (Nat.le_of_ble_eq_true rfl)) d_Sw_mayGo_5 ⟨Nat.le_of_ble_eq_true rfl, Nat.le_of_ble_eq_true rfl⟩)) (fun r1 hr9 => ?_)
  rcases hr9 with ⟨rfl, hq2⟩ | ⟨rfl, hq2⟩
  · -- 5: true
    refine lv_if_eq (tgt := 46) hx hb d_Sw_mayGo_8 (by decide) (fun h0 => absurd h0 (by decide)) (fun _ => ?_)
    refine lv_aload_n hx hb d_Sw_mayGo_11 rfl (lv_at hl 0 rfl) ?_
    refine va_get (D := D) (ci := 5) (v := .ref hm) (C := R_Sw) (T := T_Sw) (N := 6) hx hb hts hin_Sw hown hK hP 0 rfl rfl 0 (by decide) (hts _ wd_201) (fun _ h9 => h9) rfl d_Sw_mayGo_12 ?_
    refine lv_iload_n hx hb d_Sw_mayGo_15 rfl (lv_at hl 2 rfl) ?_
    have hPc := hP.sub (ws' := [(hm, .inr (4, [.int n, .int seas, .int cen, .ref qh, .ref qn]))]) [1] rfl
    refine vp_callSi (va_Run.run (va_runV (As := [.int b]) (rest := []) ⟨hx, hb, hml, hown, hts⟩ (c_Wm_has l D cI cZ cJ cS aT ceT  hm qh qn n seas cen b ) (cwV 1 hts (tb_4 wd_224 wd_225 wd_226 wd_2 (tb_c wd_227)) rfl rfl rfl ⟨rfl, by decide, by decide, by decide +kernel⟩ ⟨Nat.le_of_ble_eq_true rfl, Nat.le_of_ble_eq_true rfl⟩) (tP_V hK hX hXH hPc (q := 0) rfl rfl) rfl rfl hl.1 rfl (lv_room (Nat.le_of_ble_eq_true rfl)) d_Sw_mayGo_16 ⟨Nat.le_of_ble_eq_true rfl, Nat.le_of_ble_eq_true rfl⟩)) (fun r4 hr9 => ?_)
    rcases hr9 with ⟨rfl, hq5⟩ | ⟨rfl, hq5⟩
    · -- 16: true
      refine lv_if_eq (tgt := 46) hx hb d_Sw_mayGo_19 (by decide) (fun h0 => absurd h0 (by decide)) (fun _ => ?_)
      exact absurd ⟨hq2, hq5⟩ hno9
    · -- 16: false
      refine lv_if_eq (tgt := 46) hx hb d_Sw_mayGo_19 (by decide) (fun _ => ?_) (fun h0 => absurd (by decide) h0)
      refine lv_iconst (v := 0) hx hb d_Sw_mayGo_46 (by decide) ?_
      exact W.zret (v := 0) hx hb hr (by decide) (fun t ht hW => ⟨0, rfl, rfl, ht⟩) (fun q hq => by cases hq) d_Sw_mayGo_47
  · -- 5: false
    refine lv_if_eq (tgt := 46) hx hb d_Sw_mayGo_8 (by decide) (fun _ => ?_) (fun h0 => absurd (by decide) h0)
    refine lv_iconst (v := 0) hx hb d_Sw_mayGo_46 (by decide) ?_
    exact W.zret (v := 0) hx hb hr (by decide) (fun t ht hW => ⟨0, rfl, rfl, ht⟩) (fun q hq => by cases hq) d_Sw_mayGo_47
