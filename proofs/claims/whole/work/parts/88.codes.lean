
set_option maxHeartbeats 4000000 in
set_option maxRecDepth 100000 in
theorem c_Mo_order_1 (l : Launch) (D : va_G) (cI cZ cJ cS : ClassId) (aT : Nat) (ceT : Cell) (sz : Nat) (g0 m_sea m_center m_home m_borders m_owner m_units m_kind m_toX m_toY m_results m_known m_reached m_way m_aside m_origin m_retreats m_contested m_moved m_past : Nat) (co ar mp mt msh : Int32) (pl a k x y : Int32) (hno9 : ¬ okO pl a k x y ar) : Met l y_Mo_order w_Mo_order ({ frames := 1, cells := 0, slots := 0, locals := 21 }) (tH D cI cZ cJ cS aT ceT [.ref g0, .int pl, .int a, .int k, .int x, .int y] sz [(g0, .inr (6, [.int co, .int ar, .ref m_sea, .ref m_center, .ref m_home, .ref m_borders, .int mp, .int mt, .ref m_owner, .ref m_units, .ref m_kind, .ref m_toX, .ref m_toY, .ref m_results, .ref m_known, .ref m_reached, .ref m_way, .ref m_aside, .ref m_origin, .ref m_retreats, .ref m_contested, .ref m_moved, .int msh, .ref m_past]))]) (va_Qi (fun (r : Int32) (_ : Unit) => r = 0) (fun _ t => tB D (va_A [(g0, .inr (6, [.int co, .int ar, .ref m_sea, .ref m_center, .ref m_home, .ref m_borders, .int mp, .int mt, .ref m_owner, .ref m_units, .ref m_kind, .ref m_toX, .ref m_toY, .ref m_results, .ref m_known, .ref m_reached, .ref m_way, .ref m_aside, .ref m_origin, .ref m_retreats, .ref m_contested, .ref m_moved, .int msh, .ref m_past]))] sz) [(g0, .inr (6, [.int 1, .int ar, .ref m_sea, .ref m_center, .ref m_home, .ref m_borders, .int mp, .int mt, .ref m_owner, .ref m_units, .ref m_kind, .ref m_toX, .ref m_toY, .ref m_results, .ref m_known, .ref m_reached, .ref m_way, .ref m_aside, .ref m_origin, .ref m_retreats, .ref m_contested, .ref m_moved, .int msh, .ref m_past]))] t) (va_A [(g0, .inr (6, [.int co, .int ar, .ref m_sea, .ref m_center, .ref m_home, .ref m_borders, .int mp, .int mt, .ref m_owner, .ref m_units, .ref m_kind, .ref m_toX, .ref m_toY, .ref m_results, .ref m_known, .ref m_reached, .ref m_way, .ref m_aside, .ref m_origin, .ref m_retreats, .ref m_contested, .ref m_moved, .int msh, .ref m_past]))] sz)) 0 0 (va_A [(g0, .inr (6, [.int co, .int ar, .ref m_sea, .ref m_center, .ref m_home, .ref m_borders, .int mp, .int mt, .ref m_owner, .ref m_units, .ref m_kind, .ref m_toX, .ref m_toY, .ref m_results, .ref m_known, .ref m_reached, .ref m_way, .ref m_aside, .ref m_origin, .ref m_retreats, .ref m_contested, .ref m_moved, .int msh, .ref m_past]))] sz) := by
  refine Met.ofW (cc := b_Mo_order) (maxL := 7) (ret := (some .int)) (by decide) rfl ?_
  intro p e s m args below meth c s₁ B hml hv
  obtain ⟨rfl, hsz, hP, hK, hD0, hX⟩ := hv
  have hx := B.exec
  have hb := B.bytes
  have hr := B.returns
  have hts0 := atoms_spec (ws := w_Mo_order) B.pre
  have hts : ∀ w ∈ TB, w.before _ s = true := fun w h => hts0 w (List.mem_cons_of_mem _ h)
  have hown : s.vm.findClass R_Mo = some m.cls := findClass_of_methodNamed B.named
  have hlocks := B.notSynchronized
  subst hsz
  have hXl := tx_lt hX
  have hXn := tx_far hP hX
  have hD := hD0.self (sz := s.heap.size)
  generalize hAe : va_A [(g0, .inr (6, [.int co, .int ar, .ref m_sea, .ref m_center, .ref m_home, .ref m_borders, .int mp, .int mt, .ref m_owner, .ref m_units, .ref m_kind, .ref m_toX, .ref m_toY, .ref m_results, .ref m_known, .ref m_reached, .ref m_way, .ref m_aside, .ref m_origin, .ref m_retreats, .ref m_contested, .ref m_moved, .int msh, .ref m_past]))] s.heap.size = A at hD hXn ⊢
  have hA : ∀ q : Nat, s.heap.size ≤ q → A q := fun q h => by rw [← hAe]; exact Or.inr h
  have hS : va_S A s.heap s.heap [] := va_S.rf
  have hXH : s.heap[aT]? = s.heap[aT]? := rfl
  have hl := lv_entry ([.ref g0, .int pl, .int a, .int k, .int x, .int y]) (n := 7) (Nat.le_of_ble_eq_true rfl)
  rw [lg_entry_eq]
  generalize (lg_sl ([.ref g0, .int pl, .int a, .int k, .int x, .int y]) ++ List.replicate (7 - (lg_sl ([.ref g0, .int pl, .int a, .int k, .int x, .int y])).length) Slot.unset).toArray = ls at hl ⊢
  have hl : lv_has ls 7 [(0, .ref g0), (1, .int pl), (2, .int a), (3, .int k), (4, .int x), (5, .int y)] := hl
  refine lv_iload_n hx hb d_Mo_order_0 rfl (lv_at hl 3 rfl) ?_
  refine lv_iconst (v := 1) hx hb d_Mo_order_1 (by decide) ?_
  refine lv_icmp_lt (tgt := 19) hx hb d_Mo_order_2 (by decide) (fun hc1 => ?_) (fun hc1 => ?_)
  · -- 2 taken
    refine lv_iload_n hx hb d_Mo_order_19 rfl (lv_at hl 3 rfl) ?_
    refine lv_iconst (v := 2) hx hb d_Mo_order_20 (by decide) ?_
    refine lv_icmp_lt (tgt := 38) hx hb d_Mo_order_21 (by decide) (fun hc2 => ?_) (fun hc2 => ?_)
    · -- 21 taken
      refine lv_iconst (v := 1) hx hb d_Mo_order_38 (by decide) ?_
      refine lv_goto (tgt := 43) hx hb d_Mo_order_39 (by decide) ?_
      refine lv_istore (lv' := [(6, .int 1), (0, .ref g0), (1, .int pl), (2, .int a), (3, .int k), (4, .int x), (5, .int y)]) hx hb d_Mo_order_43 hl (by decide) rfl (fun ls hl => ?_)
      refine lv_aload_n hx hb d_Mo_order_45 rfl (lv_at hl 1 rfl) ?_
      refine lv_iload_n hx hb d_Mo_order_46 rfl (lv_at hl 2 rfl) ?_
      have hPc := hP.sub (ws' := []) [] rfl
      refine vp_callSi (va_Run.run (va_runS (As := [.int pl]) (rest := [.ref g0]) ⟨hx, hb, hml, hown, hts⟩ (c_Mo_isPlayer l D cI cZ cJ cS aT ceT  pl ) (va_cwS 1 hts (tb_3 wd_802 wd_803 wd_8 (tb_c wd_804)) rfl rfl rfl ⟨by decide, by decide, by decide +kernel⟩ ⟨Nat.le_of_ble_eq_true rfl, Nat.le_of_ble_eq_true rfl⟩) (tP_S hK hX (hS.2.1 aT hXl hXn) hPc) rfl rfl hl.1 rfl (lv_room (Nat.le_of_ble_eq_true rfl)) d_Mo_order_47 ⟨Nat.le_of_ble_eq_true rfl, Nat.le_of_ble_eq_true rfl⟩)) (fun r3 hr9 => ?_)
      rcases hr9 with ⟨rfl, hq4⟩ | ⟨rfl, hq4⟩
      · -- 47: true
        refine lv_if_eq (tgt := 75) hx hb d_Mo_order_50 (by decide) (fun h0 => absurd h0 (by decide)) (fun _ => ?_)
        refine lv_aload_n hx hb d_Mo_order_53 rfl (lv_at hl 1 rfl) ?_
        refine lv_iload_n hx hb d_Mo_order_54 rfl (lv_at hl 3 rfl) ?_
        have hPc := hP.sub (ws' := [(g0, .inr (6, [.int co, .int ar, .ref m_sea, .ref m_center, .ref m_home, .ref m_borders, .int mp, .int mt, .ref m_owner, .ref m_units, .ref m_kind, .ref m_toX, .ref m_toY, .ref m_results, .ref m_known, .ref m_reached, .ref m_way, .ref m_aside, .ref m_origin, .ref m_retreats, .ref m_contested, .ref m_moved, .int msh, .ref m_past]))]) [0] rfl
        refine vp_callSi (va_Run.run (va_runV (As := [.int a]) (rest := [.ref g0]) ⟨hx, hb, hml, hown, hts⟩ (c_Mo_isArea l D cI cZ cJ cS aT ceT  g0 m_sea m_center m_home m_borders m_owner m_units m_kind m_toX m_toY m_results m_known m_reached m_way m_aside m_origin m_retreats m_contested m_moved m_past co ar mp mt msh a ) (cwV 1 hts (tb_4 wd_790 wd_792 wp_36 wd_8 (tb_c wd_793)) rfl rfl rfl ⟨rfl, by decide, by decide, by decide +kernel⟩ ⟨Nat.le_of_ble_eq_true rfl, Nat.le_of_ble_eq_true rfl⟩) (tP_V hK hX (hS.2.1 aT hXl hXn) hPc (q := 0) rfl rfl) rfl rfl hl.1 rfl (lv_room (Nat.le_of_ble_eq_true rfl)) d_Mo_order_55 ⟨Nat.le_of_ble_eq_true rfl, Nat.le_of_ble_eq_true rfl⟩)) (fun r6 hr9 => ?_)
        rcases hr9 with ⟨rfl, hq7⟩ | ⟨rfl, hq7⟩
        · -- 55: true
          refine lv_if_eq (tgt := 75) hx hb d_Mo_order_58 (by decide) (fun h0 => absurd h0 (by decide)) (fun _ => ?_)
          refine lv_iload_n hx hb d_Mo_order_61 rfl (lv_at hl 4 rfl) ?_
          refine lv_if_lt (tgt := 75) hx hb d_Mo_order_62 (by decide) (fun hc9 => ?_) (fun hc9 => ?_)
          · -- 62 taken
            refine lv_iconst (v := 1) hx hb d_Mo_order_75 (by decide) ?_
            refine lv_goto (tgt := 92) hx hb d_Mo_order_76 (by decide) ?_
            refine va_put (D := D) (ci := 6) (v := .int 1) (ty := .int) (C := R_Mo) (T := T_Mo) (N := 24) hx hb hts hin_Mo ty_Mo tyok_Mo nm_Mo hown hK hP hD hS 0 rfl rfl 0 (by decide) (hts _ wd_704) (fun _ h9 => h9) rfl (by decide +kernel) rfl rfl (Nat.le_of_ble_eq_true rfl) d_Mo_order_92 (fun H locs hP hD hS => ?_)
            have hP : va_P D vwCl [(g0, .inr (6, [.int 1, .int ar, .ref m_sea, .ref m_center, .ref m_home, .ref m_borders, .int mp, .int mt, .ref m_owner, .ref m_units, .ref m_kind, .ref m_toX, .ref m_toY, .ref m_results, .ref m_known, .ref m_reached, .ref m_way, .ref m_aside, .ref m_origin, .ref m_retreats, .ref m_contested, .ref m_moved, .int msh, .ref m_past]))] H := hP
            have hD : va_D A [(g0, .inr (6, [.int 1, .int ar, .ref m_sea, .ref m_center, .ref m_home, .ref m_borders, .int mp, .int mt, .ref m_owner, .ref m_units, .ref m_kind, .ref m_toX, .ref m_toY, .ref m_results, .ref m_known, .ref m_reached, .ref m_way, .ref m_aside, .ref m_origin, .ref m_retreats, .ref m_contested, .ref m_moved, .int msh, .ref m_past]))] := hD
            refine lv_aload_n hx hb d_Mo_order_95 rfl (lv_at hl 1 rfl) ?_
            refine va_get (D := D) (ci := 6) (v := .int 1) (C := R_Mo) (T := T_Mo) (N := 24) hx hb hts hin_Mo hown hK hP 0 rfl rfl 0 (by decide) (hts _ wd_704) (fun _ h9 => h9) rfl d_Mo_order_96 ?_
            refine lv_if_eq (tgt := 104) hx hb d_Mo_order_99 (by decide) (fun h0 => absurd h0 (by decide)) (fun _ => ?_)
            refine lv_iconst (v := 0) hx hb d_Mo_order_102 (by decide) ?_
            have hP9 := hP.sub (ws' := [(g0, .inr (6, [.int 1, .int ar, .ref m_sea, .ref m_center, .ref m_home, .ref m_borders, .int mp, .int mt, .ref m_owner, .ref m_units, .ref m_kind, .ref m_toX, .ref m_toY, .ref m_results, .ref m_known, .ref m_reached, .ref m_way, .ref m_aside, .ref m_origin, .ref m_retreats, .ref m_contested, .ref m_moved, .int msh, .ref m_past]))]) [0] rfl
            have hD9 := hD.sub (ws' := [(g0, .inr (6, [.int 1, .int ar, .ref m_sea, .ref m_center, .ref m_home, .ref m_borders, .int mp, .int mt, .ref m_owner, .ref m_units, .ref m_kind, .ref m_toX, .ref m_toY, .ref m_results, .ref m_known, .ref m_reached, .ref m_way, .ref m_aside, .ref m_origin, .ref m_retreats, .ref m_contested, .ref m_moved, .int msh, .ref m_past]))]) [0] (by decide) rfl
            exact W.iret (v := 0) hx hb hr (fun t ht hW => ⟨⟨0, (), rfl, rfl, by rw [ht]; exact hP9, hD9⟩, hS.F ht⟩) hS.2.2 d_Mo_order_103
          · -- 62 not taken
            refine lv_iload_n hx hb d_Mo_order_65 rfl (lv_at hl 4 rfl) ?_
            refine lv_iconst (v := 3) hx hb d_Mo_order_66 (by decide) ?_
            refine lv_icmp_gt (tgt := 75) hx hb d_Mo_order_67 (by decide) (fun hc11 => ?_) (fun hc11 => ?_)
            · -- 67 taken
              refine lv_iconst (v := 1) hx hb d_Mo_order_75 (by decide) ?_
              refine lv_goto (tgt := 92) hx hb d_Mo_order_76 (by decide) ?_
              refine va_put (D := D) (ci := 6) (v := .int 1) (ty := .int) (C := R_Mo) (T := T_Mo) (N := 24) hx hb hts hin_Mo ty_Mo tyok_Mo nm_Mo hown hK hP hD hS 0 rfl rfl 0 (by decide) (hts _ wd_704) (fun _ h9 => h9) rfl (by decide +kernel) rfl rfl (Nat.le_of_ble_eq_true rfl) d_Mo_order_92 (fun H locs hP hD hS => ?_)
              have hP : va_P D vwCl [(g0, .inr (6, [.int 1, .int ar, .ref m_sea, .ref m_center, .ref m_home, .ref m_borders, .int mp, .int mt, .ref m_owner, .ref m_units, .ref m_kind, .ref m_toX, .ref m_toY, .ref m_results, .ref m_known, .ref m_reached, .ref m_way, .ref m_aside, .ref m_origin, .ref m_retreats, .ref m_contested, .ref m_moved, .int msh, .ref m_past]))] H := hP
              have hD : va_D A [(g0, .inr (6, [.int 1, .int ar, .ref m_sea, .ref m_center, .ref m_home, .ref m_borders, .int mp, .int mt, .ref m_owner, .ref m_units, .ref m_kind, .ref m_toX, .ref m_toY, .ref m_results, .ref m_known, .ref m_reached, .ref m_way, .ref m_aside, .ref m_origin, .ref m_retreats, .ref m_contested, .ref m_moved, .int msh, .ref m_past]))] := hD
              refine lv_aload_n hx hb d_Mo_order_95 rfl (lv_at hl 1 rfl) ?_
              refine va_get (D := D) (ci := 6) (v := .int 1) (C := R_Mo) (T := T_Mo) (N := 24) hx hb hts hin_Mo hown hK hP 0 rfl rfl 0 (by decide) (hts _ wd_704) (fun _ h9 => h9) rfl d_Mo_order_96 ?_
              refine lv_if_eq (tgt := 104) hx hb d_Mo_order_99 (by decide) (fun h0 => absurd h0 (by decide)) (fun _ => ?_)
              refine lv_iconst (v := 0) hx hb d_Mo_order_102 (by decide) ?_
              have hP9 := hP.sub (ws' := [(g0, .inr (6, [.int 1, .int ar, .ref m_sea, .ref m_center, .ref m_home, .ref m_borders, .int mp, .int mt, .ref m_owner, .ref m_units, .ref m_kind, .ref m_toX, .ref m_toY, .ref m_results, .ref m_known, .ref m_reached, .ref m_way, .ref m_aside, .ref m_origin, .ref m_retreats, .ref m_contested, .ref m_moved, .int msh, .ref m_past]))]) [0] rfl
              have hD9 := hD.sub (ws' := [(g0, .inr (6, [.int 1, .int ar, .ref m_sea, .ref m_center, .ref m_home, .ref m_borders, .int mp, .int mt, .ref m_owner, .ref m_units, .ref m_kind, .ref m_toX, .ref m_toY, .ref m_results, .ref m_known, .ref m_reached, .ref m_way, .ref m_aside, .ref m_origin, .ref m_retreats, .ref m_contested, .ref m_moved, .int msh, .ref m_past]))]) [0] (by decide) rfl
              exact W.iret (v := 0) hx hb hr (fun t ht hW => ⟨⟨0, (), rfl, rfl, by rw [ht]; exact hP9, hD9⟩, hS.F ht⟩) hS.2.2 d_Mo_order_103
            · -- 67 not taken
              refine lv_iload hx hb d_Mo_order_70 (lv_at hl 0 rfl) ?_
              refine lv_if_ne (tgt := 79) hx hb d_Mo_order_72 (by decide) (fun _ => ?_) (fun h0 => absurd h0 (by decide))
              exact absurd (by unfold okO; revert hc1 hc2 hq4 hq7 hc9 hc11; simp only [Int32.lt_iff_toInt_lt, Int32.le_iff_toInt_le, ← Int32.toInt_inj, Int32.reduceToInt, i32_m1]; omega) hno9
        · -- 55: false
          refine lv_if_eq (tgt := 75) hx hb d_Mo_order_58 (by decide) (fun _ => ?_) (fun h0 => absurd (by decide) h0)
          refine lv_iconst (v := 1) hx hb d_Mo_order_75 (by decide) ?_
          refine lv_goto (tgt := 92) hx hb d_Mo_order_76 (by decide) ?_
          refine va_put (D := D) (ci := 6) (v := .int 1) (ty := .int) (C := R_Mo) (T := T_Mo) (N := 24) hx hb hts hin_Mo ty_Mo tyok_Mo nm_Mo hown hK hP hD hS 0 rfl rfl 0 (by decide) (hts _ wd_704) (fun _ h9 => h9) rfl (by decide +kernel) rfl rfl (Nat.le_of_ble_eq_true rfl) d_Mo_order_92 (fun H locs hP hD hS => ?_)
          have hP : va_P D vwCl [(g0, .inr (6, [.int 1, .int ar, .ref m_sea, .ref m_center, .ref m_home, .ref m_borders, .int mp, .int mt, .ref m_owner, .ref m_units, .ref m_kind, .ref m_toX, .ref m_toY, .ref m_results, .ref m_known, .ref m_reached, .ref m_way, .ref m_aside, .ref m_origin, .ref m_retreats, .ref m_contested, .ref m_moved, .int msh, .ref m_past]))] H := hP
          have hD : va_D A [(g0, .inr (6, [.int 1, .int ar, .ref m_sea, .ref m_center, .ref m_home, .ref m_borders, .int mp, .int mt, .ref m_owner, .ref m_units, .ref m_kind, .ref m_toX, .ref m_toY, .ref m_results, .ref m_known, .ref m_reached, .ref m_way, .ref m_aside, .ref m_origin, .ref m_retreats, .ref m_contested, .ref m_moved, .int msh, .ref m_past]))] := hD
          refine lv_aload_n hx hb d_Mo_order_95 rfl (lv_at hl 1 rfl) ?_
          refine va_get (D := D) (ci := 6) (v := .int 1) (C := R_Mo) (T := T_Mo) (N := 24) hx hb hts hin_Mo hown hK hP 0 rfl rfl 0 (by decide) (hts _ wd_704) (fun _ h9 => h9) rfl d_Mo_order_96 ?_
          refine lv_if_eq (tgt := 104) hx hb d_Mo_order_99 (by decide) (fun h0 => absurd h0 (by decide)) (fun _ => ?_)
          refine lv_iconst (v := 0) hx hb d_Mo_order_102 (by decide) ?_
          have hP9 := hP.sub (ws' := [(g0, .inr (6, [.int 1, .int ar, .ref m_sea, .ref m_center, .ref m_home, .ref m_borders, .int mp, .int mt, .ref m_owner, .ref m_units, .ref m_kind, .ref m_toX, .ref m_toY, .ref m_results, .ref m_known, .ref m_reached, .ref m_way, .ref m_aside, .ref m_origin, .ref m_retreats, .ref m_contested, .ref m_moved, .int msh, .ref m_past]))]) [0] rfl
          have hD9 := hD.sub (ws' := [(g0, .inr (6, [.int 1, .int ar, .ref m_sea, .ref m_center, .ref m_home, .ref m_borders, .int mp, .int mt, .ref m_owner, .ref m_units, .ref m_kind, .ref m_toX, .ref m_toY, .ref m_results, .ref m_known, .ref m_reached, .ref m_way, .ref m_aside, .ref m_origin, .ref m_retreats, .ref m_contested, .ref m_moved, .int msh, .ref m_past]))]) [0] (by decide) rfl
          exact W.iret (v := 0) hx hb hr (fun t ht hW => ⟨⟨0, (), rfl, rfl, by rw [ht]; exact hP9, hD9⟩, hS.F ht⟩) hS.2.2 d_Mo_order_103
      · -- 47: false
        refine lv_if_eq (tgt := 75) hx hb d_Mo_order_50 (by decide) (fun _ => ?_) (fun h0 => absurd (by decide) h0)
        refine lv_iconst (v := 1) hx hb d_Mo_order_75 (by decide) ?_
        refine lv_goto (tgt := 92) hx hb d_Mo_order_76 (by decide) ?_
        refine va_put (D := D) (ci := 6) (v := .int 1) (ty := .int) (C := R_Mo) (T := T_Mo) (N := 24) hx hb hts hin_Mo ty_Mo tyok_Mo nm_Mo hown hK hP hD hS 0 rfl rfl 0 (by decide) (hts _ wd_704) (fun _ h9 => h9) rfl (by decide +kernel) rfl rfl (Nat.le_of_ble_eq_true rfl) d_Mo_order_92 (fun H locs hP hD hS => ?_)
        have hP : va_P D vwCl [(g0, .inr (6, [.int 1, .int ar, .ref m_sea, .ref m_center, .ref m_home, .ref m_borders, .int mp, .int mt, .ref m_owner, .ref m_units, .ref m_kind, .ref m_toX, .ref m_toY, .ref m_results, .ref m_known, .ref m_reached, .ref m_way, .ref m_aside, .ref m_origin, .ref m_retreats, .ref m_contested, .ref m_moved, .int msh, .ref m_past]))] H := hP
        have hD : va_D A [(g0, .inr (6, [.int 1, .int ar, .ref m_sea, .ref m_center, .ref m_home, .ref m_borders, .int mp, .int mt, .ref m_owner, .ref m_units, .ref m_kind, .ref m_toX, .ref m_toY, .ref m_results, .ref m_known, .ref m_reached, .ref m_way, .ref m_aside, .ref m_origin, .ref m_retreats, .ref m_contested, .ref m_moved, .int msh, .ref m_past]))] := hD
        refine lv_aload_n hx hb d_Mo_order_95 rfl (lv_at hl 1 rfl) ?_
        refine va_get (D := D) (ci := 6) (v := .int 1) (C := R_Mo) (T := T_Mo) (N := 24) hx hb hts hin_Mo hown hK hP 0 rfl rfl 0 (by decide) (hts _ wd_704) (fun _ h9 => h9) rfl d_Mo_order_96 ?_
        refine lv_if_eq (tgt := 104) hx hb d_Mo_order_99 (by decide) (fun h0 => absurd h0 (by decide)) (fun _ => ?_)
        refine lv_iconst (v := 0) hx hb d_Mo_order_102 (by decide) ?_
        have hP9 := hP.sub (ws' := [(g0, .inr (6, [.int 1, .int ar, .ref m_sea, .ref m_center, .ref m_home, .ref m_borders, .int mp, .int mt, .ref m_owner, .ref m_units, .ref m_kind, .ref m_toX, .ref m_toY, .ref m_results, .ref m_known, .ref m_reached, .ref m_way, .ref m_aside, .ref m_origin, .ref m_retreats, .ref m_contested, .ref m_moved, .int msh, .ref m_past]))]) [0] rfl
        have hD9 := hD.sub (ws' := [(g0, .inr (6, [.int 1, .int ar, .ref m_sea, .ref m_center, .ref m_home, .ref m_borders, .int mp, .int mt, .ref m_owner, .ref m_units, .ref m_kind, .ref m_toX, .ref m_toY, .ref m_results, .ref m_known, .ref m_reached, .ref m_way, .ref m_aside, .ref m_origin, .ref m_retreats, .ref m_contested, .ref m_moved, .int msh, .ref m_past]))]) [0] (by decide) rfl
        exact W.iret (v := 0) hx hb hr (fun t ht hW => ⟨⟨0, (), rfl, rfl, by rw [ht]; exact hP9, hD9⟩, hS.F ht⟩) hS.2.2 d_Mo_order_103
    · -- 21 not taken
      refine lv_iload_n hx hb d_Mo_order_24 rfl (lv_at hl 3 rfl) ?_
      refine lv_iconst (v := 3) hx hb d_Mo_order_25 (by decide) ?_
      refine lv_icmp_gt (tgt := 38) hx hb d_Mo_order_26 (by decide) (fun hc18 => ?_) (fun hc18 => ?_)
      · -- 26 taken
        refine lv_iconst (v := 1) hx hb d_Mo_order_38 (by decide) ?_
        refine lv_goto (tgt := 43) hx hb d_Mo_order_39 (by decide) ?_
        refine lv_istore (lv' := [(6, .int 1), (0, .ref g0), (1, .int pl), (2, .int a), (3, .int k), (4, .int x), (5, .int y)]) hx hb d_Mo_order_43 hl (by decide) rfl (fun ls hl => ?_)
        refine lv_aload_n hx hb d_Mo_order_45 rfl (lv_at hl 1 rfl) ?_
        refine lv_iload_n hx hb d_Mo_order_46 rfl (lv_at hl 2 rfl) ?_
        have hPc := hP.sub (ws' := []) [] rfl
        refine vp_callSi (va_Run.run (va_runS (As := [.int pl]) (rest := [.ref g0]) ⟨hx, hb, hml, hown, hts⟩ (c_Mo_isPlayer l D cI cZ cJ cS aT ceT  pl ) (va_cwS 1 hts (tb_3 wd_802 wd_803 wd_8 (tb_c wd_804)) rfl rfl rfl ⟨by decide, by decide, by decide +kernel⟩ ⟨Nat.le_of_ble_eq_true rfl, Nat.le_of_ble_eq_true rfl⟩) (tP_S hK hX (hS.2.1 aT hXl hXn) hPc) rfl rfl hl.1 rfl (lv_room (Nat.le_of_ble_eq_true rfl)) d_Mo_order_47 ⟨Nat.le_of_ble_eq_true rfl, Nat.le_of_ble_eq_true rfl⟩)) (fun r19 hr9 => ?_)
        rcases hr9 with ⟨rfl, hq20⟩ | ⟨rfl, hq20⟩
        · -- 47: true
          refine lv_if_eq (tgt := 75) hx hb d_Mo_order_50 (by decide) (fun h0 => absurd h0 (by decide)) (fun _ => ?_)
          refine lv_aload_n hx hb d_Mo_order_53 rfl (lv_at hl 1 rfl) ?_
          refine lv_iload_n hx hb d_Mo_order_54 rfl (lv_at hl 3 rfl) ?_
          have hPc := hP.sub (ws' := [(g0, .inr (6, [.int co, .int ar, .ref m_sea, .ref m_center, .ref m_home, .ref m_borders, .int mp, .int mt, .ref m_owner, .ref m_units, .ref m_kind, .ref m_toX, .ref m_toY, .ref m_results, .ref m_known, .ref m_reached, .ref m_way, .ref m_aside, .ref m_origin, .ref m_retreats, .ref m_contested, .ref m_moved, .int msh, .ref m_past]))]) [0] rfl
          refine vp_callSi (va_Run.run (va_runV (As := [.int a]) (rest := [.ref g0]) ⟨hx, hb, hml, hown, hts⟩ (c_Mo_isArea l D cI cZ cJ cS aT ceT  g0 m_sea m_center m_home m_borders m_owner m_units m_kind m_toX m_toY m_results m_known m_reached m_way m_aside m_origin m_retreats m_contested m_moved m_past co ar mp mt msh a ) (cwV 1 hts (tb_4 wd_790 wd_792 wp_36 wd_8 (tb_c wd_793)) rfl rfl rfl ⟨rfl, by decide, by decide, by decide +kernel⟩ ⟨Nat.le_of_ble_eq_true rfl, Nat.le_of_ble_eq_true rfl⟩) (tP_V hK hX (hS.2.1 aT hXl hXn) hPc (q := 0) rfl rfl) rfl rfl hl.1 rfl (lv_room (Nat.le_of_ble_eq_true rfl)) d_Mo_order_55 ⟨Nat.le_of_ble_eq_true rfl, Nat.le_of_ble_eq_true rfl⟩)) (fun r22 hr9 => ?_)
          rcases hr9 with ⟨rfl, hq23⟩ | ⟨rfl, hq23⟩
          · -- 55: true
            refine lv_if_eq (tgt := 75) hx hb d_Mo_order_58 (by decide) (fun h0 => absurd h0 (by decide)) (fun _ => ?_)
            refine lv_iload_n hx hb d_Mo_order_61 rfl (lv_at hl 4 rfl) ?_
            refine lv_if_lt (tgt := 75) hx hb d_Mo_order_62 (by decide) (fun hc25 => ?_) (fun hc25 => ?_)
            · -- 62 taken
              refine lv_iconst (v := 1) hx hb d_Mo_order_75 (by decide) ?_
              refine lv_goto (tgt := 92) hx hb d_Mo_order_76 (by decide) ?_
              refine va_put (D := D) (ci := 6) (v := .int 1) (ty := .int) (C := R_Mo) (T := T_Mo) (N := 24) hx hb hts hin_Mo ty_Mo tyok_Mo nm_Mo hown hK hP hD hS 0 rfl rfl 0 (by decide) (hts _ wd_704) (fun _ h9 => h9) rfl (by decide +kernel) rfl rfl (Nat.le_of_ble_eq_true rfl) d_Mo_order_92 (fun H locs hP hD hS => ?_)
              have hP : va_P D vwCl [(g0, .inr (6, [.int 1, .int ar, .ref m_sea, .ref m_center, .ref m_home, .ref m_borders, .int mp, .int mt, .ref m_owner, .ref m_units, .ref m_kind, .ref m_toX, .ref m_toY, .ref m_results, .ref m_known, .ref m_reached, .ref m_way, .ref m_aside, .ref m_origin, .ref m_retreats, .ref m_contested, .ref m_moved, .int msh, .ref m_past]))] H := hP
              have hD : va_D A [(g0, .inr (6, [.int 1, .int ar, .ref m_sea, .ref m_center, .ref m_home, .ref m_borders, .int mp, .int mt, .ref m_owner, .ref m_units, .ref m_kind, .ref m_toX, .ref m_toY, .ref m_results, .ref m_known, .ref m_reached, .ref m_way, .ref m_aside, .ref m_origin, .ref m_retreats, .ref m_contested, .ref m_moved, .int msh, .ref m_past]))] := hD
              refine lv_aload_n hx hb d_Mo_order_95 rfl (lv_at hl 1 rfl) ?_
              refine va_get (D := D) (ci := 6) (v := .int 1) (C := R_Mo) (T := T_Mo) (N := 24) hx hb hts hin_Mo hown hK hP 0 rfl rfl 0 (by decide) (hts _ wd_704) (fun _ h9 => h9) rfl d_Mo_order_96 ?_
              refine lv_if_eq (tgt := 104) hx hb d_Mo_order_99 (by decide) (fun h0 => absurd h0 (by decide)) (fun _ => ?_)
              refine lv_iconst (v := 0) hx hb d_Mo_order_102 (by decide) ?_
              have hP9 := hP.sub (ws' := [(g0, .inr (6, [.int 1, .int ar, .ref m_sea, .ref m_center, .ref m_home, .ref m_borders, .int mp, .int mt, .ref m_owner, .ref m_units, .ref m_kind, .ref m_toX, .ref m_toY, .ref m_results, .ref m_known, .ref m_reached, .ref m_way, .ref m_aside, .ref m_origin, .ref m_retreats, .ref m_contested, .ref m_moved, .int msh, .ref m_past]))]) [0] rfl
              have hD9 := hD.sub (ws' := [(g0, .inr (6, [.int 1, .int ar, .ref m_sea, .ref m_center, .ref m_home, .ref m_borders, .int mp, .int mt, .ref m_owner, .ref m_units, .ref m_kind, .ref m_toX, .ref m_toY, .ref m_results, .ref m_known, .ref m_reached, .ref m_way, .ref m_aside, .ref m_origin, .ref m_retreats, .ref m_contested, .ref m_moved, .int msh, .ref m_past]))]) [0] (by decide) rfl
              exact W.iret (v := 0) hx hb hr (fun t ht hW => ⟨⟨0, (), rfl, rfl, by rw [ht]; exact hP9, hD9⟩, hS.F ht⟩) hS.2.2 d_Mo_order_103
            · -- 62 not taken
              refine lv_iload_n hx hb d_Mo_order_65 rfl (lv_at hl 4 rfl) ?_
              refine lv_iconst (v := 3) hx hb d_Mo_order_66 (by decide) ?_
              refine lv_icmp_gt (tgt := 75) hx hb d_Mo_order_67 (by decide) (fun hc27 => ?_) (fun hc27 => ?_)
              · -- 67 taken
                refine lv_iconst (v := 1) hx hb d_Mo_order_75 (by decide) ?_
                refine lv_goto (tgt := 92) hx hb d_Mo_order_76 (by decide) ?_
                refine va_put (D := D) (ci := 6) (v := .int 1) (ty := .int) (C := R_Mo) (T := T_Mo) (N := 24) hx hb hts hin_Mo ty_Mo tyok_Mo nm_Mo hown hK hP hD hS 0 rfl rfl 0 (by decide) (hts _ wd_704) (fun _ h9 => h9) rfl (by decide +kernel) rfl rfl (Nat.le_of_ble_eq_true rfl) d_Mo_order_92 (fun H locs hP hD hS => ?_)
                have hP : va_P D vwCl [(g0, .inr (6, [.int 1, .int ar, .ref m_sea, .ref m_center, .ref m_home, .ref m_borders, .int mp, .int mt, .ref m_owner, .ref m_units, .ref m_kind, .ref m_toX, .ref m_toY, .ref m_results, .ref m_known, .ref m_reached, .ref m_way, .ref m_aside, .ref m_origin, .ref m_retreats, .ref m_contested, .ref m_moved, .int msh, .ref m_past]))] H := hP
                have hD : va_D A [(g0, .inr (6, [.int 1, .int ar, .ref m_sea, .ref m_center, .ref m_home, .ref m_borders, .int mp, .int mt, .ref m_owner, .ref m_units, .ref m_kind, .ref m_toX, .ref m_toY, .ref m_results, .ref m_known, .ref m_reached, .ref m_way, .ref m_aside, .ref m_origin, .ref m_retreats, .ref m_contested, .ref m_moved, .int msh, .ref m_past]))] := hD
                refine lv_aload_n hx hb d_Mo_order_95 rfl (lv_at hl 1 rfl) ?_
                refine va_get (D := D) (ci := 6) (v := .int 1) (C := R_Mo) (T := T_Mo) (N := 24) hx hb hts hin_Mo hown hK hP 0 rfl rfl 0 (by decide) (hts _ wd_704) (fun _ h9 => h9) rfl d_Mo_order_96 ?_
                refine lv_if_eq (tgt := 104) hx hb d_Mo_order_99 (by decide) (fun h0 => absurd h0 (by decide)) (fun _ => ?_)
                refine lv_iconst (v := 0) hx hb d_Mo_order_102 (by decide) ?_
                have hP9 := hP.sub (ws' := [(g0, .inr (6, [.int 1, .int ar, .ref m_sea, .ref m_center, .ref m_home, .ref m_borders, .int mp, .int mt, .ref m_owner, .ref m_units, .ref m_kind, .ref m_toX, .ref m_toY, .ref m_results, .ref m_known, .ref m_reached, .ref m_way, .ref m_aside, .ref m_origin, .ref m_retreats, .ref m_contested, .ref m_moved, .int msh, .ref m_past]))]) [0] rfl
                have hD9 := hD.sub (ws' := [(g0, .inr (6, [.int 1, .int ar, .ref m_sea, .ref m_center, .ref m_home, .ref m_borders, .int mp, .int mt, .ref m_owner, .ref m_units, .ref m_kind, .ref m_toX, .ref m_toY, .ref m_results, .ref m_known, .ref m_reached, .ref m_way, .ref m_aside, .ref m_origin, .ref m_retreats, .ref m_contested, .ref m_moved, .int msh, .ref m_past]))]) [0] (by decide) rfl
                exact W.iret (v := 0) hx hb hr (fun t ht hW => ⟨⟨0, (), rfl, rfl, by rw [ht]; exact hP9, hD9⟩, hS.F ht⟩) hS.2.2 d_Mo_order_103
              · -- 67 not taken
                refine lv_iload hx hb d_Mo_order_70 (lv_at hl 0 rfl) ?_
                refine lv_if_ne (tgt := 79) hx hb d_Mo_order_72 (by decide) (fun _ => ?_) (fun h0 => absurd h0 (by decide))
                exact absurd (by unfold okO; revert hc1 hc2 hc18 hq20 hq23 hc25 hc27; simp only [Int32.lt_iff_toInt_lt, Int32.le_iff_toInt_le, ← Int32.toInt_inj, Int32.reduceToInt, i32_m1]; omega) hno9
          · -- 55: false
            refine lv_if_eq (tgt := 75) hx hb d_Mo_order_58 (by decide) (fun _ => ?_) (fun h0 => absurd (by decide) h0)
            refine lv_iconst (v := 1) hx hb d_Mo_order_75 (by decide) ?_
            refine lv_goto (tgt := 92) hx hb d_Mo_order_76 (by decide) ?_
            refine va_put (D := D) (ci := 6) (v := .int 1) (ty := .int) (C := R_Mo) (T := T_Mo) (N := 24) hx hb hts hin_Mo ty_Mo tyok_Mo nm_Mo hown hK hP hD hS 0 rfl rfl 0 (by decide) (hts _ wd_704) (fun _ h9 => h9) rfl (by decide +kernel) rfl rfl (Nat.le_of_ble_eq_true rfl) d_Mo_order_92 (fun H locs hP hD hS => ?_)
            have hP : va_P D vwCl [(g0, .inr (6, [.int 1, .int ar, .ref m_sea, .ref m_center, .ref m_home, .ref m_borders, .int mp, .int mt, .ref m_owner, .ref m_units, .ref m_kind, .ref m_toX, .ref m_toY, .ref m_results, .ref m_known, .ref m_reached, .ref m_way, .ref m_aside, .ref m_origin, .ref m_retreats, .ref m_contested, .ref m_moved, .int msh, .ref m_past]))] H := hP
            have hD : va_D A [(g0, .inr (6, [.int 1, .int ar, .ref m_sea, .ref m_center, .ref m_home, .ref m_borders, .int mp, .int mt, .ref m_owner, .ref m_units, .ref m_kind, .ref m_toX, .ref m_toY, .ref m_results, .ref m_known, .ref m_reached, .ref m_way, .ref m_aside, .ref m_origin, .ref m_retreats, .ref m_contested, .ref m_moved, .int msh, .ref m_past]))] := hD
            refine lv_aload_n hx hb d_Mo_order_95 rfl (lv_at hl 1 rfl) ?_
            refine va_get (D := D) (ci := 6) (v := .int 1) (C := R_Mo) (T := T_Mo) (N := 24) hx hb hts hin_Mo hown hK hP 0 rfl rfl 0 (by decide) (hts _ wd_704) (fun _ h9 => h9) rfl d_Mo_order_96 ?_
            refine lv_if_eq (tgt := 104) hx hb d_Mo_order_99 (by decide) (fun h0 => absurd h0 (by decide)) (fun _ => ?_)
            refine lv_iconst (v := 0) hx hb d_Mo_order_102 (by decide) ?_
            have hP9 := hP.sub (ws' := [(g0, .inr (6, [.int 1, .int ar, .ref m_sea, .ref m_center, .ref m_home, .ref m_borders, .int mp, .int mt, .ref m_owner, .ref m_units, .ref m_kind, .ref m_toX, .ref m_toY, .ref m_results, .ref m_known, .ref m_reached, .ref m_way, .ref m_aside, .ref m_origin, .ref m_retreats, .ref m_contested, .ref m_moved, .int msh, .ref m_past]))]) [0] rfl
            have hD9 := hD.sub (ws' := [(g0, .inr (6, [.int 1, .int ar, .ref m_sea, .ref m_center, .ref m_home, .ref m_borders, .int mp, .int mt, .ref m_owner, .ref m_units, .ref m_kind, .ref m_toX, .ref m_toY, .ref m_results, .ref m_known, .ref m_reached, .ref m_way, .ref m_aside, .ref m_origin, .ref m_retreats, .ref m_contested, .ref m_moved, .int msh, .ref m_past]))]) [0] (by decide) rfl
            exact W.iret (v := 0) hx hb hr (fun t ht hW => ⟨⟨0, (), rfl, rfl, by rw [ht]; exact hP9, hD9⟩, hS.F ht⟩) hS.2.2 d_Mo_order_103
        · -- 47: false
          refine lv_if_eq (tgt := 75) hx hb d_Mo_order_50 (by decide) (fun _ => ?_) (fun h0 => absurd (by decide) h0)
          refine lv_iconst (v := 1) hx hb d_Mo_order_75 (by decide) ?_
          refine lv_goto (tgt := 92) hx hb d_Mo_order_76 (by decide) ?_
          refine va_put (D := D) (ci := 6) (v := .int 1) (ty := .int) (C := R_Mo) (T := T_Mo) (N := 24) hx hb hts hin_Mo ty_Mo tyok_Mo nm_Mo hown hK hP hD hS 0 rfl rfl 0 (by decide) (hts _ wd_704) (fun _ h9 => h9) rfl (by decide +kernel) rfl rfl (Nat.le_of_ble_eq_true rfl) d_Mo_order_92 (fun H locs hP hD hS => ?_)
          have hP : va_P D vwCl [(g0, .inr (6, [.int 1, .int ar, .ref m_sea, .ref m_center, .ref m_home, .ref m_borders, .int mp, .int mt, .ref m_owner, .ref m_units, .ref m_kind, .ref m_toX, .ref m_toY, .ref m_results, .ref m_known, .ref m_reached, .ref m_way, .ref m_aside, .ref m_origin, .ref m_retreats, .ref m_contested, .ref m_moved, .int msh, .ref m_past]))] H := hP
          have hD : va_D A [(g0, .inr (6, [.int 1, .int ar, .ref m_sea, .ref m_center, .ref m_home, .ref m_borders, .int mp, .int mt, .ref m_owner, .ref m_units, .ref m_kind, .ref m_toX, .ref m_toY, .ref m_results, .ref m_known, .ref m_reached, .ref m_way, .ref m_aside, .ref m_origin, .ref m_retreats, .ref m_contested, .ref m_moved, .int msh, .ref m_past]))] := hD
          refine lv_aload_n hx hb d_Mo_order_95 rfl (lv_at hl 1 rfl) ?_
          refine va_get (D := D) (ci := 6) (v := .int 1) (C := R_Mo) (T := T_Mo) (N := 24) hx hb hts hin_Mo hown hK hP 0 rfl rfl 0 (by decide) (hts _ wd_704) (fun _ h9 => h9) rfl d_Mo_order_96 ?_
          refine lv_if_eq (tgt := 104) hx hb d_Mo_order_99 (by decide) (fun h0 => absurd h0 (by decide)) (fun _ => ?_)
          refine lv_iconst (v := 0) hx hb d_Mo_order_102 (by decide) ?_
          have hP9 := hP.sub (ws' := [(g0, .inr (6, [.int 1, .int ar, .ref m_sea, .ref m_center, .ref m_home, .ref m_borders, .int mp, .int mt, .ref m_owner, .ref m_units, .ref m_kind, .ref m_toX, .ref m_toY, .ref m_results, .ref m_known, .ref m_reached, .ref m_way, .ref m_aside, .ref m_origin, .ref m_retreats, .ref m_contested, .ref m_moved, .int msh, .ref m_past]))]) [0] rfl
          have hD9 := hD.sub (ws' := [(g0, .inr (6, [.int 1, .int ar, .ref m_sea, .ref m_center, .ref m_home, .ref m_borders, .int mp, .int mt, .ref m_owner, .ref m_units, .ref m_kind, .ref m_toX, .ref m_toY, .ref m_results, .ref m_known, .ref m_reached, .ref m_way, .ref m_aside, .ref m_origin, .ref m_retreats, .ref m_contested, .ref m_moved, .int msh, .ref m_past]))]) [0] (by decide) rfl
          exact W.iret (v := 0) hx hb hr (fun t ht hW => ⟨⟨0, (), rfl, rfl, by rw [ht]; exact hP9, hD9⟩, hS.F ht⟩) hS.2.2 d_Mo_order_103
      · -- 26 not taken
        refine lv_aload_n hx hb d_Mo_order_29 rfl (lv_at hl 0 rfl) ?_
        refine lv_iload hx hb d_Mo_order_30 (lv_at hl 5 rfl) ?_
        have hPc := hP.sub (ws' := [(g0, .inr (6, [.int co, .int ar, .ref m_sea, .ref m_center, .ref m_home, .ref m_borders, .int mp, .int mt, .ref m_owner, .ref m_units, .ref m_kind, .ref m_toX, .ref m_toY, .ref m_results, .ref m_known, .ref m_reached, .ref m_way, .ref m_aside, .ref m_origin, .ref m_retreats, .ref m_contested, .ref m_moved, .int msh, .ref m_past]))]) [0] rfl
        refine vp_callSi (va_Run.run (va_runV (As := [.int y]) (rest := []) ⟨hx, hb, hml, hown, hts⟩ (c_Mo_isArea l D cI cZ cJ cS aT ceT  g0 m_sea m_center m_home m_borders m_owner m_units m_kind m_toX m_toY m_results m_known m_reached m_way m_aside m_origin m_retreats m_contested m_moved m_past co ar mp mt msh y ) (cwV 1 hts (tb_4 wd_790 wd_792 wp_36 wd_8 (tb_c wd_793)) rfl rfl rfl ⟨rfl, by decide, by decide, by decide +kernel⟩ ⟨Nat.le_of_ble_eq_true rfl, Nat.le_of_ble_eq_true rfl⟩) (tP_V hK hX (hS.2.1 aT hXl hXn) hPc (q := 0) rfl rfl) rfl rfl hl.1 rfl (lv_room (Nat.le_of_ble_eq_true rfl)) d_Mo_order_32 ⟨Nat.le_of_ble_eq_true rfl, Nat.le_of_ble_eq_true rfl⟩)) (fun r34 hr9 => ?_)
        rcases hr9 with ⟨rfl, hq35⟩ | ⟨rfl, hq35⟩
        · -- 32: true
          refine lv_if_eq (tgt := 42) hx hb d_Mo_order_35 (by decide) (fun h0 => absurd h0 (by decide)) (fun _ => ?_)
          refine lv_iconst (v := 1) hx hb d_Mo_order_38 (by decide) ?_
          refine lv_goto (tgt := 43) hx hb d_Mo_order_39 (by decide) ?_
          refine lv_istore (lv' := [(6, .int 1), (0, .ref g0), (1, .int pl), (2, .int a), (3, .int k), (4, .int x), (5, .int y)]) hx hb d_Mo_order_43 hl (by decide) rfl (fun ls hl => ?_)
          refine lv_aload_n hx hb d_Mo_order_45 rfl (lv_at hl 1 rfl) ?_
          refine lv_iload_n hx hb d_Mo_order_46 rfl (lv_at hl 2 rfl) ?_
          have hPc := hP.sub (ws' := []) [] rfl
          refine vp_callSi (va_Run.run (va_runS (As := [.int pl]) (rest := [.ref g0]) ⟨hx, hb, hml, hown, hts⟩ (c_Mo_isPlayer l D cI cZ cJ cS aT ceT  pl ) (va_cwS 1 hts (tb_3 wd_802 wd_803 wd_8 (tb_c wd_804)) rfl rfl rfl ⟨by decide, by decide, by decide +kernel⟩ ⟨Nat.le_of_ble_eq_true rfl, Nat.le_of_ble_eq_true rfl⟩) (tP_S hK hX (hS.2.1 aT hXl hXn) hPc) rfl rfl hl.1 rfl (lv_room (Nat.le_of_ble_eq_true rfl)) d_Mo_order_47 ⟨Nat.le_of_ble_eq_true rfl, Nat.le_of_ble_eq_true rfl⟩)) (fun r37 hr9 => ?_)
          rcases hr9 with ⟨rfl, hq38⟩ | ⟨rfl, hq38⟩
          · -- 47: true
            refine lv_if_eq (tgt := 75) hx hb d_Mo_order_50 (by decide) (fun h0 => absurd h0 (by decide)) (fun _ => ?_)
            refine lv_aload_n hx hb d_Mo_order_53 rfl (lv_at hl 1 rfl) ?_
            refine lv_iload_n hx hb d_Mo_order_54 rfl (lv_at hl 3 rfl) ?_
            have hPc := hP.sub (ws' := [(g0, .inr (6, [.int co, .int ar, .ref m_sea, .ref m_center, .ref m_home, .ref m_borders, .int mp, .int mt, .ref m_owner, .ref m_units, .ref m_kind, .ref m_toX, .ref m_toY, .ref m_results, .ref m_known, .ref m_reached, .ref m_way, .ref m_aside, .ref m_origin, .ref m_retreats, .ref m_contested, .ref m_moved, .int msh, .ref m_past]))]) [0] rfl
            refine vp_callSi (va_Run.run (va_runV (As := [.int a]) (rest := [.ref g0]) ⟨hx, hb, hml, hown, hts⟩ (c_Mo_isArea l D cI cZ cJ cS aT ceT  g0 m_sea m_center m_home m_borders m_owner m_units m_kind m_toX m_toY m_results m_known m_reached m_way m_aside m_origin m_retreats m_contested m_moved m_past co ar mp mt msh a ) (cwV 1 hts (tb_4 wd_790 wd_792 wp_36 wd_8 (tb_c wd_793)) rfl rfl rfl ⟨rfl, by decide, by decide, by decide +kernel⟩ ⟨Nat.le_of_ble_eq_true rfl, Nat.le_of_ble_eq_true rfl⟩) (tP_V hK hX (hS.2.1 aT hXl hXn) hPc (q := 0) rfl rfl) rfl rfl hl.1 rfl (lv_room (Nat.le_of_ble_eq_true rfl)) d_Mo_order_55 ⟨Nat.le_of_ble_eq_true rfl, Nat.le_of_ble_eq_true rfl⟩)) (fun r40 hr9 => ?_)
            rcases hr9 with ⟨rfl, hq41⟩ | ⟨rfl, hq41⟩
            · -- 55: true
              refine lv_if_eq (tgt := 75) hx hb d_Mo_order_58 (by decide) (fun h0 => absurd h0 (by decide)) (fun _ => ?_)
              refine lv_iload_n hx hb d_Mo_order_61 rfl (lv_at hl 4 rfl) ?_
              refine lv_if_lt (tgt := 75) hx hb d_Mo_order_62 (by decide) (fun hc43 => ?_) (fun hc43 => ?_)
              · -- 62 taken
                refine lv_iconst (v := 1) hx hb d_Mo_order_75 (by decide) ?_
                refine lv_goto (tgt := 92) hx hb d_Mo_order_76 (by decide) ?_
                refine va_put (D := D) (ci := 6) (v := .int 1) (ty := .int) (C := R_Mo) (T := T_Mo) (N := 24) hx hb hts hin_Mo ty_Mo tyok_Mo nm_Mo hown hK hP hD hS 0 rfl rfl 0 (by decide) (hts _ wd_704) (fun _ h9 => h9) rfl (by decide +kernel) rfl rfl (Nat.le_of_ble_eq_true rfl) d_Mo_order_92 (fun H locs hP hD hS => ?_)
                have hP : va_P D vwCl [(g0, .inr (6, [.int 1, .int ar, .ref m_sea, .ref m_center, .ref m_home, .ref m_borders, .int mp, .int mt, .ref m_owner, .ref m_units, .ref m_kind, .ref m_toX, .ref m_toY, .ref m_results, .ref m_known, .ref m_reached, .ref m_way, .ref m_aside, .ref m_origin, .ref m_retreats, .ref m_contested, .ref m_moved, .int msh, .ref m_past]))] H := hP
                have hD : va_D A [(g0, .inr (6, [.int 1, .int ar, .ref m_sea, .ref m_center, .ref m_home, .ref m_borders, .int mp, .int mt, .ref m_owner, .ref m_units, .ref m_kind, .ref m_toX, .ref m_toY, .ref m_results, .ref m_known, .ref m_reached, .ref m_way, .ref m_aside, .ref m_origin, .ref m_retreats, .ref m_contested, .ref m_moved, .int msh, .ref m_past]))] := hD
                refine lv_aload_n hx hb d_Mo_order_95 rfl (lv_at hl 1 rfl) ?_
                refine va_get (D := D) (ci := 6) (v := .int 1) (C := R_Mo) (T := T_Mo) (N := 24) hx hb hts hin_Mo hown hK hP 0 rfl rfl 0 (by decide) (hts _ wd_704) (fun _ h9 => h9) rfl d_Mo_order_96 ?_
                refine lv_if_eq (tgt := 104) hx hb d_Mo_order_99 (by decide) (fun h0 => absurd h0 (by decide)) (fun _ => ?_)
                refine lv_iconst (v := 0) hx hb d_Mo_order_102 (by decide) ?_
                have hP9 := hP.sub (ws' := [(g0, .inr (6, [.int 1, .int ar, .ref m_sea, .ref m_center, .ref m_home, .ref m_borders, .int mp, .int mt, .ref m_owner, .ref m_units, .ref m_kind, .ref m_toX, .ref m_toY, .ref m_results, .ref m_known, .ref m_reached, .ref m_way, .ref m_aside, .ref m_origin, .ref m_retreats, .ref m_contested, .ref m_moved, .int msh, .ref m_past]))]) [0] rfl
                have hD9 := hD.sub (ws' := [(g0, .inr (6, [.int 1, .int ar, .ref m_sea, .ref m_center, .ref m_home, .ref m_borders, .int mp, .int mt, .ref m_owner, .ref m_units, .ref m_kind, .ref m_toX, .ref m_toY, .ref m_results, .ref m_known, .ref m_reached, .ref m_way, .ref m_aside, .ref m_origin, .ref m_retreats, .ref m_contested, .ref m_moved, .int msh, .ref m_past]))]) [0] (by decide) rfl
                exact W.iret (v := 0) hx hb hr (fun t ht hW => ⟨⟨0, (), rfl, rfl, by rw [ht]; exact hP9, hD9⟩, hS.F ht⟩) hS.2.2 d_Mo_order_103
              · -- 62 not taken
                refine lv_iload_n hx hb d_Mo_order_65 rfl (lv_at hl 4 rfl) ?_
                refine lv_iconst (v := 3) hx hb d_Mo_order_66 (by decide) ?_
                refine lv_icmp_gt (tgt := 75) hx hb d_Mo_order_67 (by decide) (fun hc45 => ?_) (fun hc45 => ?_)
                · -- 67 taken
                  refine lv_iconst (v := 1) hx hb d_Mo_order_75 (by decide) ?_
                  refine lv_goto (tgt := 92) hx hb d_Mo_order_76 (by decide) ?_
                  refine va_put (D := D) (ci := 6) (v := .int 1) (ty := .int) (C := R_Mo) (T := T_Mo) (N := 24) hx hb hts hin_Mo ty_Mo tyok_Mo nm_Mo hown hK hP hD hS 0 rfl rfl 0 (by decide) (hts _ wd_704) (fun _ h9 => h9) rfl (by decide +kernel) rfl rfl (Nat.le_of_ble_eq_true rfl) d_Mo_order_92 (fun H locs hP hD hS => ?_)
                  have hP : va_P D vwCl [(g0, .inr (6, [.int 1, .int ar, .ref m_sea, .ref m_center, .ref m_home, .ref m_borders, .int mp, .int mt, .ref m_owner, .ref m_units, .ref m_kind, .ref m_toX, .ref m_toY, .ref m_results, .ref m_known, .ref m_reached, .ref m_way, .ref m_aside, .ref m_origin, .ref m_retreats, .ref m_contested, .ref m_moved, .int msh, .ref m_past]))] H := hP
                  have hD : va_D A [(g0, .inr (6, [.int 1, .int ar, .ref m_sea, .ref m_center, .ref m_home, .ref m_borders, .int mp, .int mt, .ref m_owner, .ref m_units, .ref m_kind, .ref m_toX, .ref m_toY, .ref m_results, .ref m_known, .ref m_reached, .ref m_way, .ref m_aside, .ref m_origin, .ref m_retreats, .ref m_contested, .ref m_moved, .int msh, .ref m_past]))] := hD
                  refine lv_aload_n hx hb d_Mo_order_95 rfl (lv_at hl 1 rfl) ?_
                  refine va_get (D := D) (ci := 6) (v := .int 1) (C := R_Mo) (T := T_Mo) (N := 24) hx hb hts hin_Mo hown hK hP 0 rfl rfl 0 (by decide) (hts _ wd_704) (fun _ h9 => h9) rfl d_Mo_order_96 ?_
                  refine lv_if_eq (tgt := 104) hx hb d_Mo_order_99 (by decide) (fun h0 => absurd h0 (by decide)) (fun _ => ?_)
                  refine lv_iconst (v := 0) hx hb d_Mo_order_102 (by decide) ?_
                  have hP9 := hP.sub (ws' := [(g0, .inr (6, [.int 1, .int ar, .ref m_sea, .ref m_center, .ref m_home, .ref m_borders, .int mp, .int mt, .ref m_owner, .ref m_units, .ref m_kind, .ref m_toX, .ref m_toY, .ref m_results, .ref m_known, .ref m_reached, .ref m_way, .ref m_aside, .ref m_origin, .ref m_retreats, .ref m_contested, .ref m_moved, .int msh, .ref m_past]))]) [0] rfl
                  have hD9 := hD.sub (ws' := [(g0, .inr (6, [.int 1, .int ar, .ref m_sea, .ref m_center, .ref m_home, .ref m_borders, .int mp, .int mt, .ref m_owner, .ref m_units, .ref m_kind, .ref m_toX, .ref m_toY, .ref m_results, .ref m_known, .ref m_reached, .ref m_way, .ref m_aside, .ref m_origin, .ref m_retreats, .ref m_contested, .ref m_moved, .int msh, .ref m_past]))]) [0] (by decide) rfl
                  exact W.iret (v := 0) hx hb hr (fun t ht hW => ⟨⟨0, (), rfl, rfl, by rw [ht]; exact hP9, hD9⟩, hS.F ht⟩) hS.2.2 d_Mo_order_103
                · -- 67 not taken
                  refine lv_iload hx hb d_Mo_order_70 (lv_at hl 0 rfl) ?_
                  refine lv_if_ne (tgt := 79) hx hb d_Mo_order_72 (by decide) (fun _ => ?_) (fun h0 => absurd h0 (by decide))
                  exact absurd (by unfold okO; revert hc1 hc2 hc18 hq35 hq38 hq41 hc43 hc45; simp only [Int32.lt_iff_toInt_lt, Int32.le_iff_toInt_le, ← Int32.toInt_inj, Int32.reduceToInt, i32_m1]; omega) hno9
            · -- 55: false
              refine lv_if_eq (tgt := 75) hx hb d_Mo_order_58 (by decide) (fun _ => ?_) (fun h0 => absurd (by decide) h0)
              refine lv_iconst (v := 1) hx hb d_Mo_order_75 (by decide) ?_
              refine lv_goto (tgt := 92) hx hb d_Mo_order_76 (by decide) ?_
              refine va_put (D := D) (ci := 6) (v := .int 1) (ty := .int) (C := R_Mo) (T := T_Mo) (N := 24) hx hb hts hin_Mo ty_Mo tyok_Mo nm_Mo hown hK hP hD hS 0 rfl rfl 0 (by decide) (hts _ wd_704) (fun _ h9 => h9) rfl (by decide +kernel) rfl rfl (Nat.le_of_ble_eq_true rfl) d_Mo_order_92 (fun H locs hP hD hS => ?_)
              have hP : va_P D vwCl [(g0, .inr (6, [.int 1, .int ar, .ref m_sea, .ref m_center, .ref m_home, .ref m_borders, .int mp, .int mt, .ref m_owner, .ref m_units, .ref m_kind, .ref m_toX, .ref m_toY, .ref m_results, .ref m_known, .ref m_reached, .ref m_way, .ref m_aside, .ref m_origin, .ref m_retreats, .ref m_contested, .ref m_moved, .int msh, .ref m_past]))] H := hP
              have hD : va_D A [(g0, .inr (6, [.int 1, .int ar, .ref m_sea, .ref m_center, .ref m_home, .ref m_borders, .int mp, .int mt, .ref m_owner, .ref m_units, .ref m_kind, .ref m_toX, .ref m_toY, .ref m_results, .ref m_known, .ref m_reached, .ref m_way, .ref m_aside, .ref m_origin, .ref m_retreats, .ref m_contested, .ref m_moved, .int msh, .ref m_past]))] := hD
              refine lv_aload_n hx hb d_Mo_order_95 rfl (lv_at hl 1 rfl) ?_
              refine va_get (D := D) (ci := 6) (v := .int 1) (C := R_Mo) (T := T_Mo) (N := 24) hx hb hts hin_Mo hown hK hP 0 rfl rfl 0 (by decide) (hts _ wd_704) (fun _ h9 => h9) rfl d_Mo_order_96 ?_
              refine lv_if_eq (tgt := 104) hx hb d_Mo_order_99 (by decide) (fun h0 => absurd h0 (by decide)) (fun _ => ?_)
              refine lv_iconst (v := 0) hx hb d_Mo_order_102 (by decide) ?_
              have hP9 := hP.sub (ws' := [(g0, .inr (6, [.int 1, .int ar, .ref m_sea, .ref m_center, .ref m_home, .ref m_borders, .int mp, .int mt, .ref m_owner, .ref m_units, .ref m_kind, .ref m_toX, .ref m_toY, .ref m_results, .ref m_known, .ref m_reached, .ref m_way, .ref m_aside, .ref m_origin, .ref m_retreats, .ref m_contested, .ref m_moved, .int msh, .ref m_past]))]) [0] rfl
              have hD9 := hD.sub (ws' := [(g0, .inr (6, [.int 1, .int ar, .ref m_sea, .ref m_center, .ref m_home, .ref m_borders, .int mp, .int mt, .ref m_owner, .ref m_units, .ref m_kind, .ref m_toX, .ref m_toY, .ref m_results, .ref m_known, .ref m_reached, .ref m_way, .ref m_aside, .ref m_origin, .ref m_retreats, .ref m_contested, .ref m_moved, .int msh, .ref m_past]))]) [0] (by decide) rfl
              exact W.iret (v := 0) hx hb hr (fun t ht hW => ⟨⟨0, (), rfl, rfl, by rw [ht]; exact hP9, hD9⟩, hS.F ht⟩) hS.2.2 d_Mo_order_103
          · -- 47: false
            refine lv_if_eq (tgt := 75) hx hb d_Mo_order_50 (by decide) (fun _ => ?_) (fun h0 => absurd (by decide) h0)
            refine lv_iconst (v := 1) hx hb d_Mo_order_75 (by decide) ?_
            refine lv_goto (tgt := 92) hx hb d_Mo_order_76 (by decide) ?_
            refine va_put (D := D) (ci := 6) (v := .int 1) (ty := .int) (C := R_Mo) (T := T_Mo) (N := 24) hx hb hts hin_Mo ty_Mo tyok_Mo nm_Mo hown hK hP hD hS 0 rfl rfl 0 (by decide) (hts _ wd_704) (fun _ h9 => h9) rfl (by decide +kernel) rfl rfl (Nat.le_of_ble_eq_true rfl) d_Mo_order_92 (fun H locs hP hD hS => ?_)
            have hP : va_P D vwCl [(g0, .inr (6, [.int 1, .int ar, .ref m_sea, .ref m_center, .ref m_home, .ref m_borders, .int mp, .int mt, .ref m_owner, .ref m_units, .ref m_kind, .ref m_toX, .ref m_toY, .ref m_results, .ref m_known, .ref m_reached, .ref m_way, .ref m_aside, .ref m_origin, .ref m_retreats, .ref m_contested, .ref m_moved, .int msh, .ref m_past]))] H := hP
            have hD : va_D A [(g0, .inr (6, [.int 1, .int ar, .ref m_sea, .ref m_center, .ref m_home, .ref m_borders, .int mp, .int mt, .ref m_owner, .ref m_units, .ref m_kind, .ref m_toX, .ref m_toY, .ref m_results, .ref m_known, .ref m_reached, .ref m_way, .ref m_aside, .ref m_origin, .ref m_retreats, .ref m_contested, .ref m_moved, .int msh, .ref m_past]))] := hD
            refine lv_aload_n hx hb d_Mo_order_95 rfl (lv_at hl 1 rfl) ?_
            refine va_get (D := D) (ci := 6) (v := .int 1) (C := R_Mo) (T := T_Mo) (N := 24) hx hb hts hin_Mo hown hK hP 0 rfl rfl 0 (by decide) (hts _ wd_704) (fun _ h9 => h9) rfl d_Mo_order_96 ?_
            refine lv_if_eq (tgt := 104) hx hb d_Mo_order_99 (by decide) (fun h0 => absurd h0 (by decide)) (fun _ => ?_)
            refine lv_iconst (v := 0) hx hb d_Mo_order_102 (by decide) ?_
            have hP9 := hP.sub (ws' := [(g0, .inr (6, [.int 1, .int ar, .ref m_sea, .ref m_center, .ref m_home, .ref m_borders, .int mp, .int mt, .ref m_owner, .ref m_units, .ref m_kind, .ref m_toX, .ref m_toY, .ref m_results, .ref m_known, .ref m_reached, .ref m_way, .ref m_aside, .ref m_origin, .ref m_retreats, .ref m_contested, .ref m_moved, .int msh, .ref m_past]))]) [0] rfl
            have hD9 := hD.sub (ws' := [(g0, .inr (6, [.int 1, .int ar, .ref m_sea, .ref m_center, .ref m_home, .ref m_borders, .int mp, .int mt, .ref m_owner, .ref m_units, .ref m_kind, .ref m_toX, .ref m_toY, .ref m_results, .ref m_known, .ref m_reached, .ref m_way, .ref m_aside, .ref m_origin, .ref m_retreats, .ref m_contested, .ref m_moved, .int msh, .ref m_past]))]) [0] (by decide) rfl
            exact W.iret (v := 0) hx hb hr (fun t ht hW => ⟨⟨0, (), rfl, rfl, by rw [ht]; exact hP9, hD9⟩, hS.F ht⟩) hS.2.2 d_Mo_order_103
        · -- 32: false
          refine lv_if_eq (tgt := 42) hx hb d_Mo_order_35 (by decide) (fun _ => ?_) (fun h0 => absurd (by decide) h0)
          refine lv_iconst (v := 0) hx hb d_Mo_order_42 (by decide) ?_
          refine lv_istore (lv' := [(6, .int 0), (0, .ref g0), (1, .int pl), (2, .int a), (3, .int k), (4, .int x), (5, .int y)]) hx hb d_Mo_order_43 hl (by decide) rfl (fun ls hl => ?_)
          refine lv_aload_n hx hb d_Mo_order_45 rfl (lv_at hl 1 rfl) ?_
          refine lv_iload_n hx hb d_Mo_order_46 rfl (lv_at hl 2 rfl) ?_
          have hPc := hP.sub (ws' := []) [] rfl
          refine vp_callSi (va_Run.run (va_runS (As := [.int pl]) (rest := [.ref g0]) ⟨hx, hb, hml, hown, hts⟩ (c_Mo_isPlayer l D cI cZ cJ cS aT ceT  pl ) (va_cwS 1 hts (tb_3 wd_802 wd_803 wd_8 (tb_c wd_804)) rfl rfl rfl ⟨by decide, by decide, by decide +kernel⟩ ⟨Nat.le_of_ble_eq_true rfl, Nat.le_of_ble_eq_true rfl⟩) (tP_S hK hX (hS.2.1 aT hXl hXn) hPc) rfl rfl hl.1 rfl (lv_room (Nat.le_of_ble_eq_true rfl)) d_Mo_order_47 ⟨Nat.le_of_ble_eq_true rfl, Nat.le_of_ble_eq_true rfl⟩)) (fun r53 hr9 => ?_)
          rcases hr9 with ⟨rfl, hq54⟩ | ⟨rfl, hq54⟩
          · -- 47: true
            refine lv_if_eq (tgt := 75) hx hb d_Mo_order_50 (by decide) (fun h0 => absurd h0 (by decide)) (fun _ => ?_)
            refine lv_aload_n hx hb d_Mo_order_53 rfl (lv_at hl 1 rfl) ?_
            refine lv_iload_n hx hb d_Mo_order_54 rfl (lv_at hl 3 rfl) ?_
            have hPc := hP.sub (ws' := [(g0, .inr (6, [.int co, .int ar, .ref m_sea, .ref m_center, .ref m_home, .ref m_borders, .int mp, .int mt, .ref m_owner, .ref m_units, .ref m_kind, .ref m_toX, .ref m_toY, .ref m_results, .ref m_known, .ref m_reached, .ref m_way, .ref m_aside, .ref m_origin, .ref m_retreats, .ref m_contested, .ref m_moved, .int msh, .ref m_past]))]) [0] rfl
            refine vp_callSi (va_Run.run (va_runV (As := [.int a]) (rest := [.ref g0]) ⟨hx, hb, hml, hown, hts⟩ (c_Mo_isArea l D cI cZ cJ cS aT ceT  g0 m_sea m_center m_home m_borders m_owner m_units m_kind m_toX m_toY m_results m_known m_reached m_way m_aside m_origin m_retreats m_contested m_moved m_past co ar mp mt msh a ) (cwV 1 hts (tb_4 wd_790 wd_792 wp_36 wd_8 (tb_c wd_793)) rfl rfl rfl ⟨rfl, by decide, by decide, by decide +kernel⟩ ⟨Nat.le_of_ble_eq_true rfl, Nat.le_of_ble_eq_true rfl⟩) (tP_V hK hX (hS.2.1 aT hXl hXn) hPc (q := 0) rfl rfl) rfl rfl hl.1 rfl (lv_room (Nat.le_of_ble_eq_true rfl)) d_Mo_order_55 ⟨Nat.le_of_ble_eq_true rfl, Nat.le_of_ble_eq_true rfl⟩)) (fun r56 hr9 => ?_)
            rcases hr9 with ⟨rfl, hq57⟩ | ⟨rfl, hq57⟩
            · -- 55: true
              refine lv_if_eq (tgt := 75) hx hb d_Mo_order_58 (by decide) (fun h0 => absurd h0 (by decide)) (fun _ => ?_)
              refine lv_iload_n hx hb d_Mo_order_61 rfl (lv_at hl 4 rfl) ?_
              refine lv_if_lt (tgt := 75) hx hb d_Mo_order_62 (by decide) (fun hc59 => ?_) (fun hc59 => ?_)
              · -- 62 taken
                refine lv_iconst (v := 1) hx hb d_Mo_order_75 (by decide) ?_
                refine lv_goto (tgt := 92) hx hb d_Mo_order_76 (by decide) ?_
                refine va_put (D := D) (ci := 6) (v := .int 1) (ty := .int) (C := R_Mo) (T := T_Mo) (N := 24) hx hb hts hin_Mo ty_Mo tyok_Mo nm_Mo hown hK hP hD hS 0 rfl rfl 0 (by decide) (hts _ wd_704) (fun _ h9 => h9) rfl (by decide +kernel) rfl rfl (Nat.le_of_ble_eq_true rfl) d_Mo_order_92 (fun H locs hP hD hS => ?_)
                have hP : va_P D vwCl [(g0, .inr (6, [.int 1, .int ar, .ref m_sea, .ref m_center, .ref m_home, .ref m_borders, .int mp, .int mt, .ref m_owner, .ref m_units, .ref m_kind, .ref m_toX, .ref m_toY, .ref m_results, .ref m_known, .ref m_reached, .ref m_way, .ref m_aside, .ref m_origin, .ref m_retreats, .ref m_contested, .ref m_moved, .int msh, .ref m_past]))] H := hP
                have hD : va_D A [(g0, .inr (6, [.int 1, .int ar, .ref m_sea, .ref m_center, .ref m_home, .ref m_borders, .int mp, .int mt, .ref m_owner, .ref m_units, .ref m_kind, .ref m_toX, .ref m_toY, .ref m_results, .ref m_known, .ref m_reached, .ref m_way, .ref m_aside, .ref m_origin, .ref m_retreats, .ref m_contested, .ref m_moved, .int msh, .ref m_past]))] := hD
                refine lv_aload_n hx hb d_Mo_order_95 rfl (lv_at hl 1 rfl) ?_
                refine va_get (D := D) (ci := 6) (v := .int 1) (C := R_Mo) (T := T_Mo) (N := 24) hx hb hts hin_Mo hown hK hP 0 rfl rfl 0 (by decide) (hts _ wd_704) (fun _ h9 => h9) rfl d_Mo_order_96 ?_
                refine lv_if_eq (tgt := 104) hx hb d_Mo_order_99 (by decide) (fun h0 => absurd h0 (by decide)) (fun _ => ?_)
                refine lv_iconst (v := 0) hx hb d_Mo_order_102 (by decide) ?_
                have hP9 := hP.sub (ws' := [(g0, .inr (6, [.int 1, .int ar, .ref m_sea, .ref m_center, .ref m_home, .ref m_borders, .int mp, .int mt, .ref m_owner, .ref m_units, .ref m_kind, .ref m_toX, .ref m_toY, .ref m_results, .ref m_known, .ref m_reached, .ref m_way, .ref m_aside, .ref m_origin, .ref m_retreats, .ref m_contested, .ref m_moved, .int msh, .ref m_past]))]) [0] rfl
                have hD9 := hD.sub (ws' := [(g0, .inr (6, [.int 1, .int ar, .ref m_sea, .ref m_center, .ref m_home, .ref m_borders, .int mp, .int mt, .ref m_owner, .ref m_units, .ref m_kind, .ref m_toX, .ref m_toY, .ref m_results, .ref m_known, .ref m_reached, .ref m_way, .ref m_aside, .ref m_origin, .ref m_retreats, .ref m_contested, .ref m_moved, .int msh, .ref m_past]))]) [0] (by decide) rfl
                exact W.iret (v := 0) hx hb hr (fun t ht hW => ⟨⟨0, (), rfl, rfl, by rw [ht]; exact hP9, hD9⟩, hS.F ht⟩) hS.2.2 d_Mo_order_103
              · -- 62 not taken
                refine lv_iload_n hx hb d_Mo_order_65 rfl (lv_at hl 4 rfl) ?_
                refine lv_iconst (v := 3) hx hb d_Mo_order_66 (by decide) ?_
                refine lv_icmp_gt (tgt := 75) hx hb d_Mo_order_67 (by decide) (fun hc61 => ?_) (fun hc61 => ?_)
                · -- 67 taken
                  refine lv_iconst (v := 1) hx hb d_Mo_order_75 (by decide) ?_
                  refine lv_goto (tgt := 92) hx hb d_Mo_order_76 (by decide) ?_
                  refine va_put (D := D) (ci := 6) (v := .int 1) (ty := .int) (C := R_Mo) (T := T_Mo) (N := 24) hx hb hts hin_Mo ty_Mo tyok_Mo nm_Mo hown hK hP hD hS 0 rfl rfl 0 (by decide) (hts _ wd_704) (fun _ h9 => h9) rfl (by decide +kernel) rfl rfl (Nat.le_of_ble_eq_true rfl) d_Mo_order_92 (fun H locs hP hD hS => ?_)
                  have hP : va_P D vwCl [(g0, .inr (6, [.int 1, .int ar, .ref m_sea, .ref m_center, .ref m_home, .ref m_borders, .int mp, .int mt, .ref m_owner, .ref m_units, .ref m_kind, .ref m_toX, .ref m_toY, .ref m_results, .ref m_known, .ref m_reached, .ref m_way, .ref m_aside, .ref m_origin, .ref m_retreats, .ref m_contested, .ref m_moved, .int msh, .ref m_past]))] H := hP
                  have hD : va_D A [(g0, .inr (6, [.int 1, .int ar, .ref m_sea, .ref m_center, .ref m_home, .ref m_borders, .int mp, .int mt, .ref m_owner, .ref m_units, .ref m_kind, .ref m_toX, .ref m_toY, .ref m_results, .ref m_known, .ref m_reached, .ref m_way, .ref m_aside, .ref m_origin, .ref m_retreats, .ref m_contested, .ref m_moved, .int msh, .ref m_past]))] := hD
                  refine lv_aload_n hx hb d_Mo_order_95 rfl (lv_at hl 1 rfl) ?_
                  refine va_get (D := D) (ci := 6) (v := .int 1) (C := R_Mo) (T := T_Mo) (N := 24) hx hb hts hin_Mo hown hK hP 0 rfl rfl 0 (by decide) (hts _ wd_704) (fun _ h9 => h9) rfl d_Mo_order_96 ?_
                  refine lv_if_eq (tgt := 104) hx hb d_Mo_order_99 (by decide) (fun h0 => absurd h0 (by decide)) (fun _ => ?_)
                  refine lv_iconst (v := 0) hx hb d_Mo_order_102 (by decide) ?_
                  have hP9 := hP.sub (ws' := [(g0, .inr (6, [.int 1, .int ar, .ref m_sea, .ref m_center, .ref m_home, .ref m_borders, .int mp, .int mt, .ref m_owner, .ref m_units, .ref m_kind, .ref m_toX, .ref m_toY, .ref m_results, .ref m_known, .ref m_reached, .ref m_way, .ref m_aside, .ref m_origin, .ref m_retreats, .ref m_contested, .ref m_moved, .int msh, .ref m_past]))]) [0] rfl
                  have hD9 := hD.sub (ws' := [(g0, .inr (6, [.int 1, .int ar, .ref m_sea, .ref m_center, .ref m_home, .ref m_borders, .int mp, .int mt, .ref m_owner, .ref m_units, .ref m_kind, .ref m_toX, .ref m_toY, .ref m_results, .ref m_known, .ref m_reached, .ref m_way, .ref m_aside, .ref m_origin, .ref m_retreats, .ref m_contested, .ref m_moved, .int msh, .ref m_past]))]) [0] (by decide) rfl
                  exact W.iret (v := 0) hx hb hr (fun t ht hW => ⟨⟨0, (), rfl, rfl, by rw [ht]; exact hP9, hD9⟩, hS.F ht⟩) hS.2.2 d_Mo_order_103
                · -- 67 not taken
                  refine lv_iload hx hb d_Mo_order_70 (lv_at hl 0 rfl) ?_
                  refine lv_if_ne (tgt := 79) hx hb d_Mo_order_72 (by decide) (fun h0 => absurd (by decide) h0) (fun _ => ?_)
                  refine lv_iconst (v := 1) hx hb d_Mo_order_75 (by decide) ?_
                  refine lv_goto (tgt := 92) hx hb d_Mo_order_76 (by decide) ?_
                  refine va_put (D := D) (ci := 6) (v := .int 1) (ty := .int) (C := R_Mo) (T := T_Mo) (N := 24) hx hb hts hin_Mo ty_Mo tyok_Mo nm_Mo hown hK hP hD hS 0 rfl rfl 0 (by decide) (hts _ wd_704) (fun _ h9 => h9) rfl (by decide +kernel) rfl rfl (Nat.le_of_ble_eq_true rfl) d_Mo_order_92 (fun H locs hP hD hS => ?_)
                  have hP : va_P D vwCl [(g0, .inr (6, [.int 1, .int ar, .ref m_sea, .ref m_center, .ref m_home, .ref m_borders, .int mp, .int mt, .ref m_owner, .ref m_units, .ref m_kind, .ref m_toX, .ref m_toY, .ref m_results, .ref m_known, .ref m_reached, .ref m_way, .ref m_aside, .ref m_origin, .ref m_retreats, .ref m_contested, .ref m_moved, .int msh, .ref m_past]))] H := hP
                  have hD : va_D A [(g0, .inr (6, [.int 1, .int ar, .ref m_sea, .ref m_center, .ref m_home, .ref m_borders, .int mp, .int mt, .ref m_owner, .ref m_units, .ref m_kind, .ref m_toX, .ref m_toY, .ref m_results, .ref m_known, .ref m_reached, .ref m_way, .ref m_aside, .ref m_origin, .ref m_retreats, .ref m_contested, .ref m_moved, .int msh, .ref m_past]))] := hD
                  refine lv_aload_n hx hb d_Mo_order_95 rfl (lv_at hl 1 rfl) ?_
                  refine va_get (D := D) (ci := 6) (v := .int 1) (C := R_Mo) (T := T_Mo) (N := 24) hx hb hts hin_Mo hown hK hP 0 rfl rfl 0 (by decide) (hts _ wd_704) (fun _ h9 => h9) rfl d_Mo_order_96 ?_
                  refine lv_if_eq (tgt := 104) hx hb d_Mo_order_99 (by decide) (fun h0 => absurd h0 (by decide)) (fun _ => ?_)
                  refine lv_iconst (v := 0) hx hb d_Mo_order_102 (by decide) ?_
                  have hP9 := hP.sub (ws' := [(g0, .inr (6, [.int 1, .int ar, .ref m_sea, .ref m_center, .ref m_home, .ref m_borders, .int mp, .int mt, .ref m_owner, .ref m_units, .ref m_kind, .ref m_toX, .ref m_toY, .ref m_results, .ref m_known, .ref m_reached, .ref m_way, .ref m_aside, .ref m_origin, .ref m_retreats, .ref m_contested, .ref m_moved, .int msh, .ref m_past]))]) [0] rfl
                  have hD9 := hD.sub (ws' := [(g0, .inr (6, [.int 1, .int ar, .ref m_sea, .ref m_center, .ref m_home, .ref m_borders, .int mp, .int mt, .ref m_owner, .ref m_units, .ref m_kind, .ref m_toX, .ref m_toY, .ref m_results, .ref m_known, .ref m_reached, .ref m_way, .ref m_aside, .ref m_origin, .ref m_retreats, .ref m_contested, .ref m_moved, .int msh, .ref m_past]))]) [0] (by decide) rfl
                  exact W.iret (v := 0) hx hb hr (fun t ht hW => ⟨⟨0, (), rfl, rfl, by rw [ht]; exact hP9, hD9⟩, hS.F ht⟩) hS.2.2 d_Mo_order_103
            · -- 55: false
              refine lv_if_eq (tgt := 75) hx hb d_Mo_order_58 (by decide) (fun _ => ?_) (fun h0 => absurd (by decide) h0)
              refine lv_iconst (v := 1) hx hb d_Mo_order_75 (by decide) ?_
              refine lv_goto (tgt := 92) hx hb d_Mo_order_76 (by decide) ?_
              refine va_put (D := D) (ci := 6) (v := .int 1) (ty := .int) (C := R_Mo) (T := T_Mo) (N := 24) hx hb hts hin_Mo ty_Mo tyok_Mo nm_Mo hown hK hP hD hS 0 rfl rfl 0 (by decide) (hts _ wd_704) (fun _ h9 => h9) rfl (by decide +kernel) rfl rfl (Nat.le_of_ble_eq_true rfl) d_Mo_order_92 (fun H locs hP hD hS => ?_)
              have hP : va_P D vwCl [(g0, .inr (6, [.int 1, .int ar, .ref m_sea, .ref m_center, .ref m_home, .ref m_borders, .int mp, .int mt, .ref m_owner, .ref m_units, .ref m_kind, .ref m_toX, .ref m_toY, .ref m_results, .ref m_known, .ref m_reached, .ref m_way, .ref m_aside, .ref m_origin, .ref m_retreats, .ref m_contested, .ref m_moved, .int msh, .ref m_past]))] H := hP
              have hD : va_D A [(g0, .inr (6, [.int 1, .int ar, .ref m_sea, .ref m_center, .ref m_home, .ref m_borders, .int mp, .int mt, .ref m_owner, .ref m_units, .ref m_kind, .ref m_toX, .ref m_toY, .ref m_results, .ref m_known, .ref m_reached, .ref m_way, .ref m_aside, .ref m_origin, .ref m_retreats, .ref m_contested, .ref m_moved, .int msh, .ref m_past]))] := hD
              refine lv_aload_n hx hb d_Mo_order_95 rfl (lv_at hl 1 rfl) ?_
              refine va_get (D := D) (ci := 6) (v := .int 1) (C := R_Mo) (T := T_Mo) (N := 24) hx hb hts hin_Mo hown hK hP 0 rfl rfl 0 (by decide) (hts _ wd_704) (fun _ h9 => h9) rfl d_Mo_order_96 ?_
              refine lv_if_eq (tgt := 104) hx hb d_Mo_order_99 (by decide) (fun h0 => absurd h0 (by decide)) (fun _ => ?_)
              refine lv_iconst (v := 0) hx hb d_Mo_order_102 (by decide) ?_
              have hP9 := hP.sub (ws' := [(g0, .inr (6, [.int 1, .int ar, .ref m_sea, .ref m_center, .ref m_home, .ref m_borders, .int mp, .int mt, .ref m_owner, .ref m_units, .ref m_kind, .ref m_toX, .ref m_toY, .ref m_results, .ref m_known, .ref m_reached, .ref m_way, .ref m_aside, .ref m_origin, .ref m_retreats, .ref m_contested, .ref m_moved, .int msh, .ref m_past]))]) [0] rfl
              have hD9 := hD.sub (ws' := [(g0, .inr (6, [.int 1, .int ar, .ref m_sea, .ref m_center, .ref m_home, .ref m_borders, .int mp, .int mt, .ref m_owner, .ref m_units, .ref m_kind, .ref m_toX, .ref m_toY, .ref m_results, .ref m_known, .ref m_reached, .ref m_way, .ref m_aside, .ref m_origin, .ref m_retreats, .ref m_contested, .ref m_moved, .int msh, .ref m_past]))]) [0] (by decide) rfl
              exact W.iret (v := 0) hx hb hr (fun t ht hW => ⟨⟨0, (), rfl, rfl, by rw [ht]; exact hP9, hD9⟩, hS.F ht⟩) hS.2.2 d_Mo_order_103
          · -- 47: false
            refine lv_if_eq (tgt := 75) hx hb d_Mo_order_50 (by decide) (fun _ => ?_) (fun h0 => absurd (by decide) h0)
            refine lv_iconst (v := 1) hx hb d_Mo_order_75 (by decide) ?_
            refine lv_goto (tgt := 92) hx hb d_Mo_order_76 (by decide) ?_
            refine va_put (D := D) (ci := 6) (v := .int 1) (ty := .int) (C := R_Mo) (T := T_Mo) (N := 24) hx hb hts hin_Mo ty_Mo tyok_Mo nm_Mo hown hK hP hD hS 0 rfl rfl 0 (by decide) (hts _ wd_704) (fun _ h9 => h9) rfl (by decide +kernel) rfl rfl (Nat.le_of_ble_eq_true rfl) d_Mo_order_92 (fun H locs hP hD hS => ?_)
            have hP : va_P D vwCl [(g0, .inr (6, [.int 1, .int ar, .ref m_sea, .ref m_center, .ref m_home, .ref m_borders, .int mp, .int mt, .ref m_owner, .ref m_units, .ref m_kind, .ref m_toX, .ref m_toY, .ref m_results, .ref m_known, .ref m_reached, .ref m_way, .ref m_aside, .ref m_origin, .ref m_retreats, .ref m_contested, .ref m_moved, .int msh, .ref m_past]))] H := hP
            have hD : va_D A [(g0, .inr (6, [.int 1, .int ar, .ref m_sea, .ref m_center, .ref m_home, .ref m_borders, .int mp, .int mt, .ref m_owner, .ref m_units, .ref m_kind, .ref m_toX, .ref m_toY, .ref m_results, .ref m_known, .ref m_reached, .ref m_way, .ref m_aside, .ref m_origin, .ref m_retreats, .ref m_contested, .ref m_moved, .int msh, .ref m_past]))] := hD
            refine lv_aload_n hx hb d_Mo_order_95 rfl (lv_at hl 1 rfl) ?_
            refine va_get (D := D) (ci := 6) (v := .int 1) (C := R_Mo) (T := T_Mo) (N := 24) hx hb hts hin_Mo hown hK hP 0 rfl rfl 0 (by decide) (hts _ wd_704) (fun _ h9 => h9) rfl d_Mo_order_96 ?_
            refine lv_if_eq (tgt := 104) hx hb d_Mo_order_99 (by decide) (fun h0 => absurd h0 (by decide)) (fun _ => ?_)
            refine lv_iconst (v := 0) hx hb d_Mo_order_102 (by decide) ?_
            have hP9 := hP.sub (ws' := [(g0, .inr (6, [.int 1, .int ar, .ref m_sea, .ref m_center, .ref m_home, .ref m_borders, .int mp, .int mt, .ref m_owner, .ref m_units, .ref m_kind, .ref m_toX, .ref m_toY, .ref m_results, .ref m_known, .ref m_reached, .ref m_way, .ref m_aside, .ref m_origin, .ref m_retreats, .ref m_contested, .ref m_moved, .int msh, .ref m_past]))]) [0] rfl
            have hD9 := hD.sub (ws' := [(g0, .inr (6, [.int 1, .int ar, .ref m_sea, .ref m_center, .ref m_home, .ref m_borders, .int mp, .int mt, .ref m_owner, .ref m_units, .ref m_kind, .ref m_toX, .ref m_toY, .ref m_results, .ref m_known, .ref m_reached, .ref m_way, .ref m_aside, .ref m_origin, .ref m_retreats, .ref m_contested, .ref m_moved, .int msh, .ref m_past]))]) [0] (by decide) rfl
            exact W.iret (v := 0) hx hb hr (fun t ht hW => ⟨⟨0, (), rfl, rfl, by rw [ht]; exact hP9, hD9⟩, hS.F ht⟩) hS.2.2 d_Mo_order_103
  · -- 2 not taken
    refine lv_iload_n hx hb d_Mo_order_5 rfl (lv_at hl 3 rfl) ?_
    refine lv_iconst (v := 3) hx hb d_Mo_order_6 (by decide) ?_
    refine lv_icmp_gt (tgt := 19) hx hb d_Mo_order_7 (by decide) (fun hc69 => ?_) (fun hc69 => ?_)
    · -- 7 taken
      refine lv_iload_n hx hb d_Mo_order_19 rfl (lv_at hl 3 rfl) ?_
      refine lv_iconst (v := 2) hx hb d_Mo_order_20 (by decide) ?_
      refine lv_icmp_lt (tgt := 38) hx hb d_Mo_order_21 (by decide) (fun hc70 => ?_) (fun hc70 => ?_)
      · -- 21 taken
        refine lv_iconst (v := 1) hx hb d_Mo_order_38 (by decide) ?_
        refine lv_goto (tgt := 43) hx hb d_Mo_order_39 (by decide) ?_
        refine lv_istore (lv' := [(6, .int 1), (0, .ref g0), (1, .int pl), (2, .int a), (3, .int k), (4, .int x), (5, .int y)]) hx hb d_Mo_order_43 hl (by decide) rfl (fun ls hl => ?_)
        refine lv_aload_n hx hb d_Mo_order_45 rfl (lv_at hl 1 rfl) ?_
        refine lv_iload_n hx hb d_Mo_order_46 rfl (lv_at hl 2 rfl) ?_
        have hPc := hP.sub (ws' := []) [] rfl
        refine vp_callSi (va_Run.run (va_runS (As := [.int pl]) (rest := [.ref g0]) ⟨hx, hb, hml, hown, hts⟩ (c_Mo_isPlayer l D cI cZ cJ cS aT ceT  pl ) (va_cwS 1 hts (tb_3 wd_802 wd_803 wd_8 (tb_c wd_804)) rfl rfl rfl ⟨by decide, by decide, by decide +kernel⟩ ⟨Nat.le_of_ble_eq_true rfl, Nat.le_of_ble_eq_true rfl⟩) (tP_S hK hX (hS.2.1 aT hXl hXn) hPc) rfl rfl hl.1 rfl (lv_room (Nat.le_of_ble_eq_true rfl)) d_Mo_order_47 ⟨Nat.le_of_ble_eq_true rfl, Nat.le_of_ble_eq_true rfl⟩)) (fun r71 hr9 => ?_)
        rcases hr9 with ⟨rfl, hq72⟩ | ⟨rfl, hq72⟩
        · -- 47: true
          refine lv_if_eq (tgt := 75) hx hb d_Mo_order_50 (by decide) (fun h0 => absurd h0 (by decide)) (fun _ => ?_)
          refine lv_aload_n hx hb d_Mo_order_53 rfl (lv_at hl 1 rfl) ?_
          refine lv_iload_n hx hb d_Mo_order_54 rfl (lv_at hl 3 rfl) ?_
          have hPc := hP.sub (ws' := [(g0, .inr (6, [.int co, .int ar, .ref m_sea, .ref m_center, .ref m_home, .ref m_borders, .int mp, .int mt, .ref m_owner, .ref m_units, .ref m_kind, .ref m_toX, .ref m_toY, .ref m_results, .ref m_known, .ref m_reached, .ref m_way, .ref m_aside, .ref m_origin, .ref m_retreats, .ref m_contested, .ref m_moved, .int msh, .ref m_past]))]) [0] rfl
          refine vp_callSi (va_Run.run (va_runV (As := [.int a]) (rest := [.ref g0]) ⟨hx, hb, hml, hown, hts⟩ (c_Mo_isArea l D cI cZ cJ cS aT ceT  g0 m_sea m_center m_home m_borders m_owner m_units m_kind m_toX m_toY m_results m_known m_reached m_way m_aside m_origin m_retreats m_contested m_moved m_past co ar mp mt msh a ) (cwV 1 hts (tb_4 wd_790 wd_792 wp_36 wd_8 (tb_c wd_793)) rfl rfl rfl ⟨rfl, by decide, by decide, by decide +kernel⟩ ⟨Nat.le_of_ble_eq_true rfl, Nat.le_of_ble_eq_true rfl⟩) (tP_V hK hX (hS.2.1 aT hXl hXn) hPc (q := 0) rfl rfl) rfl rfl hl.1 rfl (lv_room (Nat.le_of_ble_eq_true rfl)) d_Mo_order_55 ⟨Nat.le_of_ble_eq_true rfl, Nat.le_of_ble_eq_true rfl⟩)) (fun r74 hr9 => ?_)
          rcases hr9 with ⟨rfl, hq75⟩ | ⟨rfl, hq75⟩
          · -- 55: true
            refine lv_if_eq (tgt := 75) hx hb d_Mo_order_58 (by decide) (fun h0 => absurd h0 (by decide)) (fun _ => ?_)
            refine lv_iload_n hx hb d_Mo_order_61 rfl (lv_at hl 4 rfl) ?_
            refine lv_if_lt (tgt := 75) hx hb d_Mo_order_62 (by decide) (fun hc77 => ?_) (fun hc77 => ?_)
            · -- 62 taken
              refine lv_iconst (v := 1) hx hb d_Mo_order_75 (by decide) ?_
              refine lv_goto (tgt := 92) hx hb d_Mo_order_76 (by decide) ?_
              refine va_put (D := D) (ci := 6) (v := .int 1) (ty := .int) (C := R_Mo) (T := T_Mo) (N := 24) hx hb hts hin_Mo ty_Mo tyok_Mo nm_Mo hown hK hP hD hS 0 rfl rfl 0 (by decide) (hts _ wd_704) (fun _ h9 => h9) rfl (by decide +kernel) rfl rfl (Nat.le_of_ble_eq_true rfl) d_Mo_order_92 (fun H locs hP hD hS => ?_)
              have hP : va_P D vwCl [(g0, .inr (6, [.int 1, .int ar, .ref m_sea, .ref m_center, .ref m_home, .ref m_borders, .int mp, .int mt, .ref m_owner, .ref m_units, .ref m_kind, .ref m_toX, .ref m_toY, .ref m_results, .ref m_known, .ref m_reached, .ref m_way, .ref m_aside, .ref m_origin, .ref m_retreats, .ref m_contested, .ref m_moved, .int msh, .ref m_past]))] H := hP
              have hD : va_D A [(g0, .inr (6, [.int 1, .int ar, .ref m_sea, .ref m_center, .ref m_home, .ref m_borders, .int mp, .int mt, .ref m_owner, .ref m_units, .ref m_kind, .ref m_toX, .ref m_toY, .ref m_results, .ref m_known, .ref m_reached, .ref m_way, .ref m_aside, .ref m_origin, .ref m_retreats, .ref m_contested, .ref m_moved, .int msh, .ref m_past]))] := hD
              refine lv_aload_n hx hb d_Mo_order_95 rfl (lv_at hl 1 rfl) ?_
              refine va_get (D := D) (ci := 6) (v := .int 1) (C := R_Mo) (T := T_Mo) (N := 24) hx hb hts hin_Mo hown hK hP 0 rfl rfl 0 (by decide) (hts _ wd_704) (fun _ h9 => h9) rfl d_Mo_order_96 ?_
              refine lv_if_eq (tgt := 104) hx hb d_Mo_order_99 (by decide) (fun h0 => absurd h0 (by decide)) (fun _ => ?_)
              refine lv_iconst (v := 0) hx hb d_Mo_order_102 (by decide) ?_
              have hP9 := hP.sub (ws' := [(g0, .inr (6, [.int 1, .int ar, .ref m_sea, .ref m_center, .ref m_home, .ref m_borders, .int mp, .int mt, .ref m_owner, .ref m_units, .ref m_kind, .ref m_toX, .ref m_toY, .ref m_results, .ref m_known, .ref m_reached, .ref m_way, .ref m_aside, .ref m_origin, .ref m_retreats, .ref m_contested, .ref m_moved, .int msh, .ref m_past]))]) [0] rfl
              have hD9 := hD.sub (ws' := [(g0, .inr (6, [.int 1, .int ar, .ref m_sea, .ref m_center, .ref m_home, .ref m_borders, .int mp, .int mt, .ref m_owner, .ref m_units, .ref m_kind, .ref m_toX, .ref m_toY, .ref m_results, .ref m_known, .ref m_reached, .ref m_way, .ref m_aside, .ref m_origin, .ref m_retreats, .ref m_contested, .ref m_moved, .int msh, .ref m_past]))]) [0] (by decide) rfl
              exact W.iret (v := 0) hx hb hr (fun t ht hW => ⟨⟨0, (), rfl, rfl, by rw [ht]; exact hP9, hD9⟩, hS.F ht⟩) hS.2.2 d_Mo_order_103
            · -- 62 not taken
              refine lv_iload_n hx hb d_Mo_order_65 rfl (lv_at hl 4 rfl) ?_
              refine lv_iconst (v := 3) hx hb d_Mo_order_66 (by decide) ?_
              refine lv_icmp_gt (tgt := 75) hx hb d_Mo_order_67 (by decide) (fun hc79 => ?_) (fun hc79 => ?_)
              · -- 67 taken
                refine lv_iconst (v := 1) hx hb d_Mo_order_75 (by decide) ?_
                refine lv_goto (tgt := 92) hx hb d_Mo_order_76 (by decide) ?_
                refine va_put (D := D) (ci := 6) (v := .int 1) (ty := .int) (C := R_Mo) (T := T_Mo) (N := 24) hx hb hts hin_Mo ty_Mo tyok_Mo nm_Mo hown hK hP hD hS 0 rfl rfl 0 (by decide) (hts _ wd_704) (fun _ h9 => h9) rfl (by decide +kernel) rfl rfl (Nat.le_of_ble_eq_true rfl) d_Mo_order_92 (fun H locs hP hD hS => ?_)
                have hP : va_P D vwCl [(g0, .inr (6, [.int 1, .int ar, .ref m_sea, .ref m_center, .ref m_home, .ref m_borders, .int mp, .int mt, .ref m_owner, .ref m_units, .ref m_kind, .ref m_toX, .ref m_toY, .ref m_results, .ref m_known, .ref m_reached, .ref m_way, .ref m_aside, .ref m_origin, .ref m_retreats, .ref m_contested, .ref m_moved, .int msh, .ref m_past]))] H := hP
                have hD : va_D A [(g0, .inr (6, [.int 1, .int ar, .ref m_sea, .ref m_center, .ref m_home, .ref m_borders, .int mp, .int mt, .ref m_owner, .ref m_units, .ref m_kind, .ref m_toX, .ref m_toY, .ref m_results, .ref m_known, .ref m_reached, .ref m_way, .ref m_aside, .ref m_origin, .ref m_retreats, .ref m_contested, .ref m_moved, .int msh, .ref m_past]))] := hD
                refine lv_aload_n hx hb d_Mo_order_95 rfl (lv_at hl 1 rfl) ?_
                refine va_get (D := D) (ci := 6) (v := .int 1) (C := R_Mo) (T := T_Mo) (N := 24) hx hb hts hin_Mo hown hK hP 0 rfl rfl 0 (by decide) (hts _ wd_704) (fun _ h9 => h9) rfl d_Mo_order_96 ?_
                refine lv_if_eq (tgt := 104) hx hb d_Mo_order_99 (by decide) (fun h0 => absurd h0 (by decide)) (fun _ => ?_)
                refine lv_iconst (v := 0) hx hb d_Mo_order_102 (by decide) ?_
                have hP9 := hP.sub (ws' := [(g0, .inr (6, [.int 1, .int ar, .ref m_sea, .ref m_center, .ref m_home, .ref m_borders, .int mp, .int mt, .ref m_owner, .ref m_units, .ref m_kind, .ref m_toX, .ref m_toY, .ref m_results, .ref m_known, .ref m_reached, .ref m_way, .ref m_aside, .ref m_origin, .ref m_retreats, .ref m_contested, .ref m_moved, .int msh, .ref m_past]))]) [0] rfl
                have hD9 := hD.sub (ws' := [(g0, .inr (6, [.int 1, .int ar, .ref m_sea, .ref m_center, .ref m_home, .ref m_borders, .int mp, .int mt, .ref m_owner, .ref m_units, .ref m_kind, .ref m_toX, .ref m_toY, .ref m_results, .ref m_known, .ref m_reached, .ref m_way, .ref m_aside, .ref m_origin, .ref m_retreats, .ref m_contested, .ref m_moved, .int msh, .ref m_past]))]) [0] (by decide) rfl
                exact W.iret (v := 0) hx hb hr (fun t ht hW => ⟨⟨0, (), rfl, rfl, by rw [ht]; exact hP9, hD9⟩, hS.F ht⟩) hS.2.2 d_Mo_order_103
              · -- 67 not taken
                refine lv_iload hx hb d_Mo_order_70 (lv_at hl 0 rfl) ?_
                refine lv_if_ne (tgt := 79) hx hb d_Mo_order_72 (by decide) (fun _ => ?_) (fun h0 => absurd h0 (by decide))
                exact absurd (by unfold okO; revert hc1 hc69 hc70 hq72 hq75 hc77 hc79; simp only [Int32.lt_iff_toInt_lt, Int32.le_iff_toInt_le, ← Int32.toInt_inj, Int32.reduceToInt, i32_m1]; omega) hno9
          · -- 55: false
            refine lv_if_eq (tgt := 75) hx hb d_Mo_order_58 (by decide) (fun _ => ?_) (fun h0 => absurd (by decide) h0)
            refine lv_iconst (v := 1) hx hb d_Mo_order_75 (by decide) ?_
            refine lv_goto (tgt := 92) hx hb d_Mo_order_76 (by decide) ?_
            refine va_put (D := D) (ci := 6) (v := .int 1) (ty := .int) (C := R_Mo) (T := T_Mo) (N := 24) hx hb hts hin_Mo ty_Mo tyok_Mo nm_Mo hown hK hP hD hS 0 rfl rfl 0 (by decide) (hts _ wd_704) (fun _ h9 => h9) rfl (by decide +kernel) rfl rfl (Nat.le_of_ble_eq_true rfl) d_Mo_order_92 (fun H locs hP hD hS => ?_)
            have hP : va_P D vwCl [(g0, .inr (6, [.int 1, .int ar, .ref m_sea, .ref m_center, .ref m_home, .ref m_borders, .int mp, .int mt, .ref m_owner, .ref m_units, .ref m_kind, .ref m_toX, .ref m_toY, .ref m_results, .ref m_known, .ref m_reached, .ref m_way, .ref m_aside, .ref m_origin, .ref m_retreats, .ref m_contested, .ref m_moved, .int msh, .ref m_past]))] H := hP
            have hD : va_D A [(g0, .inr (6, [.int 1, .int ar, .ref m_sea, .ref m_center, .ref m_home, .ref m_borders, .int mp, .int mt, .ref m_owner, .ref m_units, .ref m_kind, .ref m_toX, .ref m_toY, .ref m_results, .ref m_known, .ref m_reached, .ref m_way, .ref m_aside, .ref m_origin, .ref m_retreats, .ref m_contested, .ref m_moved, .int msh, .ref m_past]))] := hD
            refine lv_aload_n hx hb d_Mo_order_95 rfl (lv_at hl 1 rfl) ?_
            refine va_get (D := D) (ci := 6) (v := .int 1) (C := R_Mo) (T := T_Mo) (N := 24) hx hb hts hin_Mo hown hK hP 0 rfl rfl 0 (by decide) (hts _ wd_704) (fun _ h9 => h9) rfl d_Mo_order_96 ?_
            refine lv_if_eq (tgt := 104) hx hb d_Mo_order_99 (by decide) (fun h0 => absurd h0 (by decide)) (fun _ => ?_)
            refine lv_iconst (v := 0) hx hb d_Mo_order_102 (by decide) ?_
            have hP9 := hP.sub (ws' := [(g0, .inr (6, [.int 1, .int ar, .ref m_sea, .ref m_center, .ref m_home, .ref m_borders, .int mp, .int mt, .ref m_owner, .ref m_units, .ref m_kind, .ref m_toX, .ref m_toY, .ref m_results, .ref m_known, .ref m_reached, .ref m_way, .ref m_aside, .ref m_origin, .ref m_retreats, .ref m_contested, .ref m_moved, .int msh, .ref m_past]))]) [0] rfl
            have hD9 := hD.sub (ws' := [(g0, .inr (6, [.int 1, .int ar, .ref m_sea, .ref m_center, .ref m_home, .ref m_borders, .int mp, .int mt, .ref m_owner, .ref m_units, .ref m_kind, .ref m_toX, .ref m_toY, .ref m_results, .ref m_known, .ref m_reached, .ref m_way, .ref m_aside, .ref m_origin, .ref m_retreats, .ref m_contested, .ref m_moved, .int msh, .ref m_past]))]) [0] (by decide) rfl
            exact W.iret (v := 0) hx hb hr (fun t ht hW => ⟨⟨0, (), rfl, rfl, by rw [ht]; exact hP9, hD9⟩, hS.F ht⟩) hS.2.2 d_Mo_order_103
        · -- 47: false
          refine lv_if_eq (tgt := 75) hx hb d_Mo_order_50 (by decide) (fun _ => ?_) (fun h0 => absurd (by decide) h0)
          refine lv_iconst (v := 1) hx hb d_Mo_order_75 (by decide) ?_
          refine lv_goto (tgt := 92) hx hb d_Mo_order_76 (by decide) ?_
          refine va_put (D := D) (ci := 6) (v := .int 1) (ty := .int) (C := R_Mo) (T := T_Mo) (N := 24) hx hb hts hin_Mo ty_Mo tyok_Mo nm_Mo hown hK hP hD hS 0 rfl rfl 0 (by decide) (hts _ wd_704) (fun _ h9 => h9) rfl (by decide +kernel) rfl rfl (Nat.le_of_ble_eq_true rfl) d_Mo_order_92 (fun H locs hP hD hS => ?_)
          have hP : va_P D vwCl [(g0, .inr (6, [.int 1, .int ar, .ref m_sea, .ref m_center, .ref m_home, .ref m_borders, .int mp, .int mt, .ref m_owner, .ref m_units, .ref m_kind, .ref m_toX, .ref m_toY, .ref m_results, .ref m_known, .ref m_reached, .ref m_way, .ref m_aside, .ref m_origin, .ref m_retreats, .ref m_contested, .ref m_moved, .int msh, .ref m_past]))] H := hP
          have hD : va_D A [(g0, .inr (6, [.int 1, .int ar, .ref m_sea, .ref m_center, .ref m_home, .ref m_borders, .int mp, .int mt, .ref m_owner, .ref m_units, .ref m_kind, .ref m_toX, .ref m_toY, .ref m_results, .ref m_known, .ref m_reached, .ref m_way, .ref m_aside, .ref m_origin, .ref m_retreats, .ref m_contested, .ref m_moved, .int msh, .ref m_past]))] := hD
          refine lv_aload_n hx hb d_Mo_order_95 rfl (lv_at hl 1 rfl) ?_
          refine va_get (D := D) (ci := 6) (v := .int 1) (C := R_Mo) (T := T_Mo) (N := 24) hx hb hts hin_Mo hown hK hP 0 rfl rfl 0 (by decide) (hts _ wd_704) (fun _ h9 => h9) rfl d_Mo_order_96 ?_
          refine lv_if_eq (tgt := 104) hx hb d_Mo_order_99 (by decide) (fun h0 => absurd h0 (by decide)) (fun _ => ?_)
          refine lv_iconst (v := 0) hx hb d_Mo_order_102 (by decide) ?_
          have hP9 := hP.sub (ws' := [(g0, .inr (6, [.int 1, .int ar, .ref m_sea, .ref m_center, .ref m_home, .ref m_borders, .int mp, .int mt, .ref m_owner, .ref m_units, .ref m_kind, .ref m_toX, .ref m_toY, .ref m_results, .ref m_known, .ref m_reached, .ref m_way, .ref m_aside, .ref m_origin, .ref m_retreats, .ref m_contested, .ref m_moved, .int msh, .ref m_past]))]) [0] rfl
          have hD9 := hD.sub (ws' := [(g0, .inr (6, [.int 1, .int ar, .ref m_sea, .ref m_center, .ref m_home, .ref m_borders, .int mp, .int mt, .ref m_owner, .ref m_units, .ref m_kind, .ref m_toX, .ref m_toY, .ref m_results, .ref m_known, .ref m_reached, .ref m_way, .ref m_aside, .ref m_origin, .ref m_retreats, .ref m_contested, .ref m_moved, .int msh, .ref m_past]))]) [0] (by decide) rfl
          exact W.iret (v := 0) hx hb hr (fun t ht hW => ⟨⟨0, (), rfl, rfl, by rw [ht]; exact hP9, hD9⟩, hS.F ht⟩) hS.2.2 d_Mo_order_103
      · -- 21 not taken
        refine lv_iload_n hx hb d_Mo_order_24 rfl (lv_at hl 3 rfl) ?_
        refine lv_iconst (v := 3) hx hb d_Mo_order_25 (by decide) ?_
        refine lv_icmp_gt (tgt := 38) hx hb d_Mo_order_26 (by decide) (fun hc86 => ?_) (fun hc86 => ?_)
        · -- 26 taken
          refine lv_iconst (v := 1) hx hb d_Mo_order_38 (by decide) ?_
          refine lv_goto (tgt := 43) hx hb d_Mo_order_39 (by decide) ?_
          refine lv_istore (lv' := [(6, .int 1), (0, .ref g0), (1, .int pl), (2, .int a), (3, .int k), (4, .int x), (5, .int y)]) hx hb d_Mo_order_43 hl (by decide) rfl (fun ls hl => ?_)
          refine lv_aload_n hx hb d_Mo_order_45 rfl (lv_at hl 1 rfl) ?_
          refine lv_iload_n hx hb d_Mo_order_46 rfl (lv_at hl 2 rfl) ?_
          have hPc := hP.sub (ws' := []) [] rfl
          refine vp_callSi (va_Run.run (va_runS (As := [.int pl]) (rest := [.ref g0]) ⟨hx, hb, hml, hown, hts⟩ (c_Mo_isPlayer l D cI cZ cJ cS aT ceT  pl ) (va_cwS 1 hts (tb_3 wd_802 wd_803 wd_8 (tb_c wd_804)) rfl rfl rfl ⟨by decide, by decide, by decide +kernel⟩ ⟨Nat.le_of_ble_eq_true rfl, Nat.le_of_ble_eq_true rfl⟩) (tP_S hK hX (hS.2.1 aT hXl hXn) hPc) rfl rfl hl.1 rfl (lv_room (Nat.le_of_ble_eq_true rfl)) d_Mo_order_47 ⟨Nat.le_of_ble_eq_true rfl, Nat.le_of_ble_eq_true rfl⟩)) (fun r87 hr9 => ?_)
          rcases hr9 with ⟨rfl, hq88⟩ | ⟨rfl, hq88⟩
          · -- 47: true
            refine lv_if_eq (tgt := 75) hx hb d_Mo_order_50 (by decide) (fun h0 => absurd h0 (by decide)) (fun _ => ?_)
            refine lv_aload_n hx hb d_Mo_order_53 rfl (lv_at hl 1 rfl) ?_
            refine lv_iload_n hx hb d_Mo_order_54 rfl (lv_at hl 3 rfl) ?_
            have hPc := hP.sub (ws' := [(g0, .inr (6, [.int co, .int ar, .ref m_sea, .ref m_center, .ref m_home, .ref m_borders, .int mp, .int mt, .ref m_owner, .ref m_units, .ref m_kind, .ref m_toX, .ref m_toY, .ref m_results, .ref m_known, .ref m_reached, .ref m_way, .ref m_aside, .ref m_origin, .ref m_retreats, .ref m_contested, .ref m_moved, .int msh, .ref m_past]))]) [0] rfl
            refine vp_callSi (va_Run.run (va_runV (As := [.int a]) (rest := [.ref g0]) ⟨hx, hb, hml, hown, hts⟩ (c_Mo_isArea l D cI cZ cJ cS aT ceT  g0 m_sea m_center m_home m_borders m_owner m_units m_kind m_toX m_toY m_results m_known m_reached m_way m_aside m_origin m_retreats m_contested m_moved m_past co ar mp mt msh a ) (cwV 1 hts (tb_4 wd_790 wd_792 wp_36 wd_8 (tb_c wd_793)) rfl rfl rfl ⟨rfl, by decide, by decide, by decide +kernel⟩ ⟨Nat.le_of_ble_eq_true rfl, Nat.le_of_ble_eq_true rfl⟩) (tP_V hK hX (hS.2.1 aT hXl hXn) hPc (q := 0) rfl rfl) rfl rfl hl.1 rfl (lv_room (Nat.le_of_ble_eq_true rfl)) d_Mo_order_55 ⟨Nat.le_of_ble_eq_true rfl, Nat.le_of_ble_eq_true rfl⟩)) (fun r90 hr9 => ?_)
            rcases hr9 with ⟨rfl, hq91⟩ | ⟨rfl, hq91⟩
            · -- 55: true
              refine lv_if_eq (tgt := 75) hx hb d_Mo_order_58 (by decide) (fun h0 => absurd h0 (by decide)) (fun _ => ?_)
              refine lv_iload_n hx hb d_Mo_order_61 rfl (lv_at hl 4 rfl) ?_
              refine lv_if_lt (tgt := 75) hx hb d_Mo_order_62 (by decide) (fun hc93 => ?_) (fun hc93 => ?_)
              · -- 62 taken
                refine lv_iconst (v := 1) hx hb d_Mo_order_75 (by decide) ?_
                refine lv_goto (tgt := 92) hx hb d_Mo_order_76 (by decide) ?_
                refine va_put (D := D) (ci := 6) (v := .int 1) (ty := .int) (C := R_Mo) (T := T_Mo) (N := 24) hx hb hts hin_Mo ty_Mo tyok_Mo nm_Mo hown hK hP hD hS 0 rfl rfl 0 (by decide) (hts _ wd_704) (fun _ h9 => h9) rfl (by decide +kernel) rfl rfl (Nat.le_of_ble_eq_true rfl) d_Mo_order_92 (fun H locs hP hD hS => ?_)
                have hP : va_P D vwCl [(g0, .inr (6, [.int 1, .int ar, .ref m_sea, .ref m_center, .ref m_home, .ref m_borders, .int mp, .int mt, .ref m_owner, .ref m_units, .ref m_kind, .ref m_toX, .ref m_toY, .ref m_results, .ref m_known, .ref m_reached, .ref m_way, .ref m_aside, .ref m_origin, .ref m_retreats, .ref m_contested, .ref m_moved, .int msh, .ref m_past]))] H := hP
                have hD : va_D A [(g0, .inr (6, [.int 1, .int ar, .ref m_sea, .ref m_center, .ref m_home, .ref m_borders, .int mp, .int mt, .ref m_owner, .ref m_units, .ref m_kind, .ref m_toX, .ref m_toY, .ref m_results, .ref m_known, .ref m_reached, .ref m_way, .ref m_aside, .ref m_origin, .ref m_retreats, .ref m_contested, .ref m_moved, .int msh, .ref m_past]))] := hD
                refine lv_aload_n hx hb d_Mo_order_95 rfl (lv_at hl 1 rfl) ?_
                refine va_get (D := D) (ci := 6) (v := .int 1) (C := R_Mo) (T := T_Mo) (N := 24) hx hb hts hin_Mo hown hK hP 0 rfl rfl 0 (by decide) (hts _ wd_704) (fun _ h9 => h9) rfl d_Mo_order_96 ?_
                refine lv_if_eq (tgt := 104) hx hb d_Mo_order_99 (by decide) (fun h0 => absurd h0 (by decide)) (fun _ => ?_)
                refine lv_iconst (v := 0) hx hb d_Mo_order_102 (by decide) ?_
                have hP9 := hP.sub (ws' := [(g0, .inr (6, [.int 1, .int ar, .ref m_sea, .ref m_center, .ref m_home, .ref m_borders, .int mp, .int mt, .ref m_owner, .ref m_units, .ref m_kind, .ref m_toX, .ref m_toY, .ref m_results, .ref m_known, .ref m_reached, .ref m_way, .ref m_aside, .ref m_origin, .ref m_retreats, .ref m_contested, .ref m_moved, .int msh, .ref m_past]))]) [0] rfl
                have hD9 := hD.sub (ws' := [(g0, .inr (6, [.int 1, .int ar, .ref m_sea, .ref m_center, .ref m_home, .ref m_borders, .int mp, .int mt, .ref m_owner, .ref m_units, .ref m_kind, .ref m_toX, .ref m_toY, .ref m_results, .ref m_known, .ref m_reached, .ref m_way, .ref m_aside, .ref m_origin, .ref m_retreats, .ref m_contested, .ref m_moved, .int msh, .ref m_past]))]) [0] (by decide) rfl
                exact W.iret (v := 0) hx hb hr (fun t ht hW => ⟨⟨0, (), rfl, rfl, by rw [ht]; exact hP9, hD9⟩, hS.F ht⟩) hS.2.2 d_Mo_order_103
              · -- 62 not taken
                refine lv_iload_n hx hb d_Mo_order_65 rfl (lv_at hl 4 rfl) ?_
                refine lv_iconst (v := 3) hx hb d_Mo_order_66 (by decide) ?_
                refine lv_icmp_gt (tgt := 75) hx hb d_Mo_order_67 (by decide) (fun hc95 => ?_) (fun hc95 => ?_)
                · -- 67 taken
                  refine lv_iconst (v := 1) hx hb d_Mo_order_75 (by decide) ?_
                  refine lv_goto (tgt := 92) hx hb d_Mo_order_76 (by decide) ?_
                  refine va_put (D := D) (ci := 6) (v := .int 1) (ty := .int) (C := R_Mo) (T := T_Mo) (N := 24) hx hb hts hin_Mo ty_Mo tyok_Mo nm_Mo hown hK hP hD hS 0 rfl rfl 0 (by decide) (hts _ wd_704) (fun _ h9 => h9) rfl (by decide +kernel) rfl rfl (Nat.le_of_ble_eq_true rfl) d_Mo_order_92 (fun H locs hP hD hS => ?_)
                  have hP : va_P D vwCl [(g0, .inr (6, [.int 1, .int ar, .ref m_sea, .ref m_center, .ref m_home, .ref m_borders, .int mp, .int mt, .ref m_owner, .ref m_units, .ref m_kind, .ref m_toX, .ref m_toY, .ref m_results, .ref m_known, .ref m_reached, .ref m_way, .ref m_aside, .ref m_origin, .ref m_retreats, .ref m_contested, .ref m_moved, .int msh, .ref m_past]))] H := hP
                  have hD : va_D A [(g0, .inr (6, [.int 1, .int ar, .ref m_sea, .ref m_center, .ref m_home, .ref m_borders, .int mp, .int mt, .ref m_owner, .ref m_units, .ref m_kind, .ref m_toX, .ref m_toY, .ref m_results, .ref m_known, .ref m_reached, .ref m_way, .ref m_aside, .ref m_origin, .ref m_retreats, .ref m_contested, .ref m_moved, .int msh, .ref m_past]))] := hD
                  refine lv_aload_n hx hb d_Mo_order_95 rfl (lv_at hl 1 rfl) ?_
                  refine va_get (D := D) (ci := 6) (v := .int 1) (C := R_Mo) (T := T_Mo) (N := 24) hx hb hts hin_Mo hown hK hP 0 rfl rfl 0 (by decide) (hts _ wd_704) (fun _ h9 => h9) rfl d_Mo_order_96 ?_
                  refine lv_if_eq (tgt := 104) hx hb d_Mo_order_99 (by decide) (fun h0 => absurd h0 (by decide)) (fun _ => ?_)
                  refine lv_iconst (v := 0) hx hb d_Mo_order_102 (by decide) ?_
                  have hP9 := hP.sub (ws' := [(g0, .inr (6, [.int 1, .int ar, .ref m_sea, .ref m_center, .ref m_home, .ref m_borders, .int mp, .int mt, .ref m_owner, .ref m_units, .ref m_kind, .ref m_toX, .ref m_toY, .ref m_results, .ref m_known, .ref m_reached, .ref m_way, .ref m_aside, .ref m_origin, .ref m_retreats, .ref m_contested, .ref m_moved, .int msh, .ref m_past]))]) [0] rfl
                  have hD9 := hD.sub (ws' := [(g0, .inr (6, [.int 1, .int ar, .ref m_sea, .ref m_center, .ref m_home, .ref m_borders, .int mp, .int mt, .ref m_owner, .ref m_units, .ref m_kind, .ref m_toX, .ref m_toY, .ref m_results, .ref m_known, .ref m_reached, .ref m_way, .ref m_aside, .ref m_origin, .ref m_retreats, .ref m_contested, .ref m_moved, .int msh, .ref m_past]))]) [0] (by decide) rfl
                  exact W.iret (v := 0) hx hb hr (fun t ht hW => ⟨⟨0, (), rfl, rfl, by rw [ht]; exact hP9, hD9⟩, hS.F ht⟩) hS.2.2 d_Mo_order_103
                · -- 67 not taken
                  refine lv_iload hx hb d_Mo_order_70 (lv_at hl 0 rfl) ?_
                  refine lv_if_ne (tgt := 79) hx hb d_Mo_order_72 (by decide) (fun _ => ?_) (fun h0 => absurd h0 (by decide))
                  exact absurd (by unfold okO; revert hc1 hc69 hc70 hc86 hq88 hq91 hc93 hc95; simp only [Int32.lt_iff_toInt_lt, Int32.le_iff_toInt_le, ← Int32.toInt_inj, Int32.reduceToInt, i32_m1]; omega) hno9
            · -- 55: false
              refine lv_if_eq (tgt := 75) hx hb d_Mo_order_58 (by decide) (fun _ => ?_) (fun h0 => absurd (by decide) h0)
              refine lv_iconst (v := 1) hx hb d_Mo_order_75 (by decide) ?_
              refine lv_goto (tgt := 92) hx hb d_Mo_order_76 (by decide) ?_
              refine va_put (D := D) (ci := 6) (v := .int 1) (ty := .int) (C := R_Mo) (T := T_Mo) (N := 24) hx hb hts hin_Mo ty_Mo tyok_Mo nm_Mo hown hK hP hD hS 0 rfl rfl 0 (by decide) (hts _ wd_704) (fun _ h9 => h9) rfl (by decide +kernel) rfl rfl (Nat.le_of_ble_eq_true rfl) d_Mo_order_92 (fun H locs hP hD hS => ?_)
              have hP : va_P D vwCl [(g0, .inr (6, [.int 1, .int ar, .ref m_sea, .ref m_center, .ref m_home, .ref m_borders, .int mp, .int mt, .ref m_owner, .ref m_units, .ref m_kind, .ref m_toX, .ref m_toY, .ref m_results, .ref m_known, .ref m_reached, .ref m_way, .ref m_aside, .ref m_origin, .ref m_retreats, .ref m_contested, .ref m_moved, .int msh, .ref m_past]))] H := hP
              have hD : va_D A [(g0, .inr (6, [.int 1, .int ar, .ref m_sea, .ref m_center, .ref m_home, .ref m_borders, .int mp, .int mt, .ref m_owner, .ref m_units, .ref m_kind, .ref m_toX, .ref m_toY, .ref m_results, .ref m_known, .ref m_reached, .ref m_way, .ref m_aside, .ref m_origin, .ref m_retreats, .ref m_contested, .ref m_moved, .int msh, .ref m_past]))] := hD
              refine lv_aload_n hx hb d_Mo_order_95 rfl (lv_at hl 1 rfl) ?_
              refine va_get (D := D) (ci := 6) (v := .int 1) (C := R_Mo) (T := T_Mo) (N := 24) hx hb hts hin_Mo hown hK hP 0 rfl rfl 0 (by decide) (hts _ wd_704) (fun _ h9 => h9) rfl d_Mo_order_96 ?_
              refine lv_if_eq (tgt := 104) hx hb d_Mo_order_99 (by decide) (fun h0 => absurd h0 (by decide)) (fun _ => ?_)
              refine lv_iconst (v := 0) hx hb d_Mo_order_102 (by decide) ?_
              have hP9 := hP.sub (ws' := [(g0, .inr (6, [.int 1, .int ar, .ref m_sea, .ref m_center, .ref m_home, .ref m_borders, .int mp, .int mt, .ref m_owner, .ref m_units, .ref m_kind, .ref m_toX, .ref m_toY, .ref m_results, .ref m_known, .ref m_reached, .ref m_way, .ref m_aside, .ref m_origin, .ref m_retreats, .ref m_contested, .ref m_moved, .int msh, .ref m_past]))]) [0] rfl
              have hD9 := hD.sub (ws' := [(g0, .inr (6, [.int 1, .int ar, .ref m_sea, .ref m_center, .ref m_home, .ref m_borders, .int mp, .int mt, .ref m_owner, .ref m_units, .ref m_kind, .ref m_toX, .ref m_toY, .ref m_results, .ref m_known, .ref m_reached, .ref m_way, .ref m_aside, .ref m_origin, .ref m_retreats, .ref m_contested, .ref m_moved, .int msh, .ref m_past]))]) [0] (by decide) rfl
              exact W.iret (v := 0) hx hb hr (fun t ht hW => ⟨⟨0, (), rfl, rfl, by rw [ht]; exact hP9, hD9⟩, hS.F ht⟩) hS.2.2 d_Mo_order_103
          · -- 47: false
            refine lv_if_eq (tgt := 75) hx hb d_Mo_order_50 (by decide) (fun _ => ?_) (fun h0 => absurd (by decide) h0)
            refine lv_iconst (v := 1) hx hb d_Mo_order_75 (by decide) ?_
            refine lv_goto (tgt := 92) hx hb d_Mo_order_76 (by decide) ?_
            refine va_put (D := D) (ci := 6) (v := .int 1) (ty := .int) (C := R_Mo) (T := T_Mo) (N := 24) hx hb hts hin_Mo ty_Mo tyok_Mo nm_Mo hown hK hP hD hS 0 rfl rfl 0 (by decide) (hts _ wd_704) (fun _ h9 => h9) rfl (by decide +kernel) rfl rfl (Nat.le_of_ble_eq_true rfl) d_Mo_order_92 (fun H locs hP hD hS => ?_)
            have hP : va_P D vwCl [(g0, .inr (6, [.int 1, .int ar, .ref m_sea, .ref m_center, .ref m_home, .ref m_borders, .int mp, .int mt, .ref m_owner, .ref m_units, .ref m_kind, .ref m_toX, .ref m_toY, .ref m_results, .ref m_known, .ref m_reached, .ref m_way, .ref m_aside, .ref m_origin, .ref m_retreats, .ref m_contested, .ref m_moved, .int msh, .ref m_past]))] H := hP
            have hD : va_D A [(g0, .inr (6, [.int 1, .int ar, .ref m_sea, .ref m_center, .ref m_home, .ref m_borders, .int mp, .int mt, .ref m_owner, .ref m_units, .ref m_kind, .ref m_toX, .ref m_toY, .ref m_results, .ref m_known, .ref m_reached, .ref m_way, .ref m_aside, .ref m_origin, .ref m_retreats, .ref m_contested, .ref m_moved, .int msh, .ref m_past]))] := hD
            refine lv_aload_n hx hb d_Mo_order_95 rfl (lv_at hl 1 rfl) ?_
            refine va_get (D := D) (ci := 6) (v := .int 1) (C := R_Mo) (T := T_Mo) (N := 24) hx hb hts hin_Mo hown hK hP 0 rfl rfl 0 (by decide) (hts _ wd_704) (fun _ h9 => h9) rfl d_Mo_order_96 ?_
            refine lv_if_eq (tgt := 104) hx hb d_Mo_order_99 (by decide) (fun h0 => absurd h0 (by decide)) (fun _ => ?_)
            refine lv_iconst (v := 0) hx hb d_Mo_order_102 (by decide) ?_
            have hP9 := hP.sub (ws' := [(g0, .inr (6, [.int 1, .int ar, .ref m_sea, .ref m_center, .ref m_home, .ref m_borders, .int mp, .int mt, .ref m_owner, .ref m_units, .ref m_kind, .ref m_toX, .ref m_toY, .ref m_results, .ref m_known, .ref m_reached, .ref m_way, .ref m_aside, .ref m_origin, .ref m_retreats, .ref m_contested, .ref m_moved, .int msh, .ref m_past]))]) [0] rfl
            have hD9 := hD.sub (ws' := [(g0, .inr (6, [.int 1, .int ar, .ref m_sea, .ref m_center, .ref m_home, .ref m_borders, .int mp, .int mt, .ref m_owner, .ref m_units, .ref m_kind, .ref m_toX, .ref m_toY, .ref m_results, .ref m_known, .ref m_reached, .ref m_way, .ref m_aside, .ref m_origin, .ref m_retreats, .ref m_contested, .ref m_moved, .int msh, .ref m_past]))]) [0] (by decide) rfl
            exact W.iret (v := 0) hx hb hr (fun t ht hW => ⟨⟨0, (), rfl, rfl, by rw [ht]; exact hP9, hD9⟩, hS.F ht⟩) hS.2.2 d_Mo_order_103
        · -- 26 not taken
          refine lv_aload_n hx hb d_Mo_order_29 rfl (lv_at hl 0 rfl) ?_
          refine lv_iload hx hb d_Mo_order_30 (lv_at hl 5 rfl) ?_
          have hPc := hP.sub (ws' := [(g0, .inr (6, [.int co, .int ar, .ref m_sea, .ref m_center, .ref m_home, .ref m_borders, .int mp, .int mt, .ref m_owner, .ref m_units, .ref m_kind, .ref m_toX, .ref m_toY, .ref m_results, .ref m_known, .ref m_reached, .ref m_way, .ref m_aside, .ref m_origin, .ref m_retreats, .ref m_contested, .ref m_moved, .int msh, .ref m_past]))]) [0] rfl
          refine vp_callSi (va_Run.run (va_runV (As := [.int y]) (rest := []) ⟨hx, hb, hml, hown, hts⟩ (c_Mo_isArea l D cI cZ cJ cS aT ceT  g0 m_sea m_center m_home m_borders m_owner m_units m_kind m_toX m_toY m_results m_known m_reached m_way m_aside m_origin m_retreats m_contested m_moved m_past co ar mp mt msh y ) (cwV 1 hts (tb_4 wd_790 wd_792 wp_36 wd_8 (tb_c wd_793)) rfl rfl rfl ⟨rfl, by decide, by decide, by decide +kernel⟩ ⟨Nat.le_of_ble_eq_true rfl, Nat.le_of_ble_eq_true rfl⟩) (tP_V hK hX (hS.2.1 aT hXl hXn) hPc (q := 0) rfl rfl) rfl rfl hl.1 rfl (lv_room (Nat.le_of_ble_eq_true rfl)) d_Mo_order_32 ⟨Nat.le_of_ble_eq_true rfl, Nat.le_of_ble_eq_true rfl⟩)) (fun r102 hr9 => ?_)
          rcases hr9 with ⟨rfl, hq103⟩ | ⟨rfl, hq103⟩
          · -- 32: true
            refine lv_if_eq (tgt := 42) hx hb d_Mo_order_35 (by decide) (fun h0 => absurd h0 (by decide)) (fun _ => ?_)
            refine lv_iconst (v := 1) hx hb d_Mo_order_38 (by decide) ?_
            refine lv_goto (tgt := 43) hx hb d_Mo_order_39 (by decide) ?_
            refine lv_istore (lv' := [(6, .int 1), (0, .ref g0), (1, .int pl), (2, .int a), (3, .int k), (4, .int x), (5, .int y)]) hx hb d_Mo_order_43 hl (by decide) rfl (fun ls hl => ?_)
            refine lv_aload_n hx hb d_Mo_order_45 rfl (lv_at hl 1 rfl) ?_
            refine lv_iload_n hx hb d_Mo_order_46 rfl (lv_at hl 2 rfl) ?_
            have hPc := hP.sub (ws' := []) [] rfl
            refine vp_callSi (va_Run.run (va_runS (As := [.int pl]) (rest := [.ref g0]) ⟨hx, hb, hml, hown, hts⟩ (c_Mo_isPlayer l D cI cZ cJ cS aT ceT  pl ) (va_cwS 1 hts (tb_3 wd_802 wd_803 wd_8 (tb_c wd_804)) rfl rfl rfl ⟨by decide, by decide, by decide +kernel⟩ ⟨Nat.le_of_ble_eq_true rfl, Nat.le_of_ble_eq_true rfl⟩) (tP_S hK hX (hS.2.1 aT hXl hXn) hPc) rfl rfl hl.1 rfl (lv_room (Nat.le_of_ble_eq_true rfl)) d_Mo_order_47 ⟨Nat.le_of_ble_eq_true rfl, Nat.le_of_ble_eq_true rfl⟩)) (fun r105 hr9 => ?_)
            rcases hr9 with ⟨rfl, hq106⟩ | ⟨rfl, hq106⟩
            · -- 47: true
              refine lv_if_eq (tgt := 75) hx hb d_Mo_order_50 (by decide) (fun h0 => absurd h0 (by decide)) (fun _ => ?_)
              refine lv_aload_n hx hb d_Mo_order_53 rfl (lv_at hl 1 rfl) ?_
              refine lv_iload_n hx hb d_Mo_order_54 rfl (lv_at hl 3 rfl) ?_
              have hPc := hP.sub (ws' := [(g0, .inr (6, [.int co, .int ar, .ref m_sea, .ref m_center, .ref m_home, .ref m_borders, .int mp, .int mt, .ref m_owner, .ref m_units, .ref m_kind, .ref m_toX, .ref m_toY, .ref m_results, .ref m_known, .ref m_reached, .ref m_way, .ref m_aside, .ref m_origin, .ref m_retreats, .ref m_contested, .ref m_moved, .int msh, .ref m_past]))]) [0] rfl
              refine vp_callSi (va_Run.run (va_runV (As := [.int a]) (rest := [.ref g0]) ⟨hx, hb, hml, hown, hts⟩ (c_Mo_isArea l D cI cZ cJ cS aT ceT  g0 m_sea m_center m_home m_borders m_owner m_units m_kind m_toX m_toY m_results m_known m_reached m_way m_aside m_origin m_retreats m_contested m_moved m_past co ar mp mt msh a ) (cwV 1 hts (tb_4 wd_790 wd_792 wp_36 wd_8 (tb_c wd_793)) rfl rfl rfl ⟨rfl, by decide, by decide, by decide +kernel⟩ ⟨Nat.le_of_ble_eq_true rfl, Nat.le_of_ble_eq_true rfl⟩) (tP_V hK hX (hS.2.1 aT hXl hXn) hPc (q := 0) rfl rfl) rfl rfl hl.1 rfl (lv_room (Nat.le_of_ble_eq_true rfl)) d_Mo_order_55 ⟨Nat.le_of_ble_eq_true rfl, Nat.le_of_ble_eq_true rfl⟩)) (fun r108 hr9 => ?_)
              rcases hr9 with ⟨rfl, hq109⟩ | ⟨rfl, hq109⟩
              · -- 55: true
                refine lv_if_eq (tgt := 75) hx hb d_Mo_order_58 (by decide) (fun h0 => absurd h0 (by decide)) (fun _ => ?_)
                refine lv_iload_n hx hb d_Mo_order_61 rfl (lv_at hl 4 rfl) ?_
                refine lv_if_lt (tgt := 75) hx hb d_Mo_order_62 (by decide) (fun hc111 => ?_) (fun hc111 => ?_)
                · -- 62 taken
                  refine lv_iconst (v := 1) hx hb d_Mo_order_75 (by decide) ?_
                  refine lv_goto (tgt := 92) hx hb d_Mo_order_76 (by decide) ?_
                  refine va_put (D := D) (ci := 6) (v := .int 1) (ty := .int) (C := R_Mo) (T := T_Mo) (N := 24) hx hb hts hin_Mo ty_Mo tyok_Mo nm_Mo hown hK hP hD hS 0 rfl rfl 0 (by decide) (hts _ wd_704) (fun _ h9 => h9) rfl (by decide +kernel) rfl rfl (Nat.le_of_ble_eq_true rfl) d_Mo_order_92 (fun H locs hP hD hS => ?_)
                  have hP : va_P D vwCl [(g0, .inr (6, [.int 1, .int ar, .ref m_sea, .ref m_center, .ref m_home, .ref m_borders, .int mp, .int mt, .ref m_owner, .ref m_units, .ref m_kind, .ref m_toX, .ref m_toY, .ref m_results, .ref m_known, .ref m_reached, .ref m_way, .ref m_aside, .ref m_origin, .ref m_retreats, .ref m_contested, .ref m_moved, .int msh, .ref m_past]))] H := hP
                  have hD : va_D A [(g0, .inr (6, [.int 1, .int ar, .ref m_sea, .ref m_center, .ref m_home, .ref m_borders, .int mp, .int mt, .ref m_owner, .ref m_units, .ref m_kind, .ref m_toX, .ref m_toY, .ref m_results, .ref m_known, .ref m_reached, .ref m_way, .ref m_aside, .ref m_origin, .ref m_retreats, .ref m_contested, .ref m_moved, .int msh, .ref m_past]))] := hD
                  refine lv_aload_n hx hb d_Mo_order_95 rfl (lv_at hl 1 rfl) ?_
                  refine va_get (D := D) (ci := 6) (v := .int 1) (C := R_Mo) (T := T_Mo) (N := 24) hx hb hts hin_Mo hown hK hP 0 rfl rfl 0 (by decide) (hts _ wd_704) (fun _ h9 => h9) rfl d_Mo_order_96 ?_
                  refine lv_if_eq (tgt := 104) hx hb d_Mo_order_99 (by decide) (fun h0 => absurd h0 (by decide)) (fun _ => ?_)
                  refine lv_iconst (v := 0) hx hb d_Mo_order_102 (by decide) ?_
                  have hP9 := hP.sub (ws' := [(g0, .inr (6, [.int 1, .int ar, .ref m_sea, .ref m_center, .ref m_home, .ref m_borders, .int mp, .int mt, .ref m_owner, .ref m_units, .ref m_kind, .ref m_toX, .ref m_toY, .ref m_results, .ref m_known, .ref m_reached, .ref m_way, .ref m_aside, .ref m_origin, .ref m_retreats, .ref m_contested, .ref m_moved, .int msh, .ref m_past]))]) [0] rfl
                  have hD9 := hD.sub (ws' := [(g0, .inr (6, [.int 1, .int ar, .ref m_sea, .ref m_center, .ref m_home, .ref m_borders, .int mp, .int mt, .ref m_owner, .ref m_units, .ref m_kind, .ref m_toX, .ref m_toY, .ref m_results, .ref m_known, .ref m_reached, .ref m_way, .ref m_aside, .ref m_origin, .ref m_retreats, .ref m_contested, .ref m_moved, .int msh, .ref m_past]))]) [0] (by decide) rfl
                  exact W.iret (v := 0) hx hb hr (fun t ht hW => ⟨⟨0, (), rfl, rfl, by rw [ht]; exact hP9, hD9⟩, hS.F ht⟩) hS.2.2 d_Mo_order_103
                · -- 62 not taken
                  refine lv_iload_n hx hb d_Mo_order_65 rfl (lv_at hl 4 rfl) ?_
                  refine lv_iconst (v := 3) hx hb d_Mo_order_66 (by decide) ?_
                  refine lv_icmp_gt (tgt := 75) hx hb d_Mo_order_67 (by decide) (fun hc113 => ?_) (fun hc113 => ?_)
                  · -- 67 taken
                    refine lv_iconst (v := 1) hx hb d_Mo_order_75 (by decide) ?_
                    refine lv_goto (tgt := 92) hx hb d_Mo_order_76 (by decide) ?_
                    refine va_put (D := D) (ci := 6) (v := .int 1) (ty := .int) (C := R_Mo) (T := T_Mo) (N := 24) hx hb hts hin_Mo ty_Mo tyok_Mo nm_Mo hown hK hP hD hS 0 rfl rfl 0 (by decide) (hts _ wd_704) (fun _ h9 => h9) rfl (by decide +kernel) rfl rfl (Nat.le_of_ble_eq_true rfl) d_Mo_order_92 (fun H locs hP hD hS => ?_)
                    have hP : va_P D vwCl [(g0, .inr (6, [.int 1, .int ar, .ref m_sea, .ref m_center, .ref m_home, .ref m_borders, .int mp, .int mt, .ref m_owner, .ref m_units, .ref m_kind, .ref m_toX, .ref m_toY, .ref m_results, .ref m_known, .ref m_reached, .ref m_way, .ref m_aside, .ref m_origin, .ref m_retreats, .ref m_contested, .ref m_moved, .int msh, .ref m_past]))] H := hP
                    have hD : va_D A [(g0, .inr (6, [.int 1, .int ar, .ref m_sea, .ref m_center, .ref m_home, .ref m_borders, .int mp, .int mt, .ref m_owner, .ref m_units, .ref m_kind, .ref m_toX, .ref m_toY, .ref m_results, .ref m_known, .ref m_reached, .ref m_way, .ref m_aside, .ref m_origin, .ref m_retreats, .ref m_contested, .ref m_moved, .int msh, .ref m_past]))] := hD
                    refine lv_aload_n hx hb d_Mo_order_95 rfl (lv_at hl 1 rfl) ?_
                    refine va_get (D := D) (ci := 6) (v := .int 1) (C := R_Mo) (T := T_Mo) (N := 24) hx hb hts hin_Mo hown hK hP 0 rfl rfl 0 (by decide) (hts _ wd_704) (fun _ h9 => h9) rfl d_Mo_order_96 ?_
                    refine lv_if_eq (tgt := 104) hx hb d_Mo_order_99 (by decide) (fun h0 => absurd h0 (by decide)) (fun _ => ?_)
                    refine lv_iconst (v := 0) hx hb d_Mo_order_102 (by decide) ?_
                    have hP9 := hP.sub (ws' := [(g0, .inr (6, [.int 1, .int ar, .ref m_sea, .ref m_center, .ref m_home, .ref m_borders, .int mp, .int mt, .ref m_owner, .ref m_units, .ref m_kind, .ref m_toX, .ref m_toY, .ref m_results, .ref m_known, .ref m_reached, .ref m_way, .ref m_aside, .ref m_origin, .ref m_retreats, .ref m_contested, .ref m_moved, .int msh, .ref m_past]))]) [0] rfl
                    have hD9 := hD.sub (ws' := [(g0, .inr (6, [.int 1, .int ar, .ref m_sea, .ref m_center, .ref m_home, .ref m_borders, .int mp, .int mt, .ref m_owner, .ref m_units, .ref m_kind, .ref m_toX, .ref m_toY, .ref m_results, .ref m_known, .ref m_reached, .ref m_way, .ref m_aside, .ref m_origin, .ref m_retreats, .ref m_contested, .ref m_moved, .int msh, .ref m_past]))]) [0] (by decide) rfl
                    exact W.iret (v := 0) hx hb hr (fun t ht hW => ⟨⟨0, (), rfl, rfl, by rw [ht]; exact hP9, hD9⟩, hS.F ht⟩) hS.2.2 d_Mo_order_103
                  · -- 67 not taken
                    refine lv_iload hx hb d_Mo_order_70 (lv_at hl 0 rfl) ?_
                    refine lv_if_ne (tgt := 79) hx hb d_Mo_order_72 (by decide) (fun _ => ?_) (fun h0 => absurd h0 (by decide))
                    exact absurd (by unfold okO; revert hc1 hc69 hc70 hc86 hq103 hq106 hq109 hc111 hc113; simp only [Int32.lt_iff_toInt_lt, Int32.le_iff_toInt_le, ← Int32.toInt_inj, Int32.reduceToInt, i32_m1]; omega) hno9
              · -- 55: false
                refine lv_if_eq (tgt := 75) hx hb d_Mo_order_58 (by decide) (fun _ => ?_) (fun h0 => absurd (by decide) h0)
                refine lv_iconst (v := 1) hx hb d_Mo_order_75 (by decide) ?_
                refine lv_goto (tgt := 92) hx hb d_Mo_order_76 (by decide) ?_
                refine va_put (D := D) (ci := 6) (v := .int 1) (ty := .int) (C := R_Mo) (T := T_Mo) (N := 24) hx hb hts hin_Mo ty_Mo tyok_Mo nm_Mo hown hK hP hD hS 0 rfl rfl 0 (by decide) (hts _ wd_704) (fun _ h9 => h9) rfl (by decide +kernel) rfl rfl (Nat.le_of_ble_eq_true rfl) d_Mo_order_92 (fun H locs hP hD hS => ?_)
                have hP : va_P D vwCl [(g0, .inr (6, [.int 1, .int ar, .ref m_sea, .ref m_center, .ref m_home, .ref m_borders, .int mp, .int mt, .ref m_owner, .ref m_units, .ref m_kind, .ref m_toX, .ref m_toY, .ref m_results, .ref m_known, .ref m_reached, .ref m_way, .ref m_aside, .ref m_origin, .ref m_retreats, .ref m_contested, .ref m_moved, .int msh, .ref m_past]))] H := hP
                have hD : va_D A [(g0, .inr (6, [.int 1, .int ar, .ref m_sea, .ref m_center, .ref m_home, .ref m_borders, .int mp, .int mt, .ref m_owner, .ref m_units, .ref m_kind, .ref m_toX, .ref m_toY, .ref m_results, .ref m_known, .ref m_reached, .ref m_way, .ref m_aside, .ref m_origin, .ref m_retreats, .ref m_contested, .ref m_moved, .int msh, .ref m_past]))] := hD
                refine lv_aload_n hx hb d_Mo_order_95 rfl (lv_at hl 1 rfl) ?_
                refine va_get (D := D) (ci := 6) (v := .int 1) (C := R_Mo) (T := T_Mo) (N := 24) hx hb hts hin_Mo hown hK hP 0 rfl rfl 0 (by decide) (hts _ wd_704) (fun _ h9 => h9) rfl d_Mo_order_96 ?_
                refine lv_if_eq (tgt := 104) hx hb d_Mo_order_99 (by decide) (fun h0 => absurd h0 (by decide)) (fun _ => ?_)
                refine lv_iconst (v := 0) hx hb d_Mo_order_102 (by decide) ?_
                have hP9 := hP.sub (ws' := [(g0, .inr (6, [.int 1, .int ar, .ref m_sea, .ref m_center, .ref m_home, .ref m_borders, .int mp, .int mt, .ref m_owner, .ref m_units, .ref m_kind, .ref m_toX, .ref m_toY, .ref m_results, .ref m_known, .ref m_reached, .ref m_way, .ref m_aside, .ref m_origin, .ref m_retreats, .ref m_contested, .ref m_moved, .int msh, .ref m_past]))]) [0] rfl
                have hD9 := hD.sub (ws' := [(g0, .inr (6, [.int 1, .int ar, .ref m_sea, .ref m_center, .ref m_home, .ref m_borders, .int mp, .int mt, .ref m_owner, .ref m_units, .ref m_kind, .ref m_toX, .ref m_toY, .ref m_results, .ref m_known, .ref m_reached, .ref m_way, .ref m_aside, .ref m_origin, .ref m_retreats, .ref m_contested, .ref m_moved, .int msh, .ref m_past]))]) [0] (by decide) rfl
                exact W.iret (v := 0) hx hb hr (fun t ht hW => ⟨⟨0, (), rfl, rfl, by rw [ht]; exact hP9, hD9⟩, hS.F ht⟩) hS.2.2 d_Mo_order_103
            · -- 47: false
              refine lv_if_eq (tgt := 75) hx hb d_Mo_order_50 (by decide) (fun _ => ?_) (fun h0 => absurd (by decide) h0)
              refine lv_iconst (v := 1) hx hb d_Mo_order_75 (by decide) ?_
              refine lv_goto (tgt := 92) hx hb d_Mo_order_76 (by decide) ?_
              refine va_put (D := D) (ci := 6) (v := .int 1) (ty := .int) (C := R_Mo) (T := T_Mo) (N := 24) hx hb hts hin_Mo ty_Mo tyok_Mo nm_Mo hown hK hP hD hS 0 rfl rfl 0 (by decide) (hts _ wd_704) (fun _ h9 => h9) rfl (by decide +kernel) rfl rfl (Nat.le_of_ble_eq_true rfl) d_Mo_order_92 (fun H locs hP hD hS => ?_)
              have hP : va_P D vwCl [(g0, .inr (6, [.int 1, .int ar, .ref m_sea, .ref m_center, .ref m_home, .ref m_borders, .int mp, .int mt, .ref m_owner, .ref m_units, .ref m_kind, .ref m_toX, .ref m_toY, .ref m_results, .ref m_known, .ref m_reached, .ref m_way, .ref m_aside, .ref m_origin, .ref m_retreats, .ref m_contested, .ref m_moved, .int msh, .ref m_past]))] H := hP
              have hD : va_D A [(g0, .inr (6, [.int 1, .int ar, .ref m_sea, .ref m_center, .ref m_home, .ref m_borders, .int mp, .int mt, .ref m_owner, .ref m_units, .ref m_kind, .ref m_toX, .ref m_toY, .ref m_results, .ref m_known, .ref m_reached, .ref m_way, .ref m_aside, .ref m_origin, .ref m_retreats, .ref m_contested, .ref m_moved, .int msh, .ref m_past]))] := hD
              refine lv_aload_n hx hb d_Mo_order_95 rfl (lv_at hl 1 rfl) ?_
              refine va_get (D := D) (ci := 6) (v := .int 1) (C := R_Mo) (T := T_Mo) (N := 24) hx hb hts hin_Mo hown hK hP 0 rfl rfl 0 (by decide) (hts _ wd_704) (fun _ h9 => h9) rfl d_Mo_order_96 ?_
              refine lv_if_eq (tgt := 104) hx hb d_Mo_order_99 (by decide) (fun h0 => absurd h0 (by decide)) (fun _ => ?_)
              refine lv_iconst (v := 0) hx hb d_Mo_order_102 (by decide) ?_
              have hP9 := hP.sub (ws' := [(g0, .inr (6, [.int 1, .int ar, .ref m_sea, .ref m_center, .ref m_home, .ref m_borders, .int mp, .int mt, .ref m_owner, .ref m_units, .ref m_kind, .ref m_toX, .ref m_toY, .ref m_results, .ref m_known, .ref m_reached, .ref m_way, .ref m_aside, .ref m_origin, .ref m_retreats, .ref m_contested, .ref m_moved, .int msh, .ref m_past]))]) [0] rfl
              have hD9 := hD.sub (ws' := [(g0, .inr (6, [.int 1, .int ar, .ref m_sea, .ref m_center, .ref m_home, .ref m_borders, .int mp, .int mt, .ref m_owner, .ref m_units, .ref m_kind, .ref m_toX, .ref m_toY, .ref m_results, .ref m_known, .ref m_reached, .ref m_way, .ref m_aside, .ref m_origin, .ref m_retreats, .ref m_contested, .ref m_moved, .int msh, .ref m_past]))]) [0] (by decide) rfl
              exact W.iret (v := 0) hx hb hr (fun t ht hW => ⟨⟨0, (), rfl, rfl, by rw [ht]; exact hP9, hD9⟩, hS.F ht⟩) hS.2.2 d_Mo_order_103
          · -- 32: false
            refine lv_if_eq (tgt := 42) hx hb d_Mo_order_35 (by decide) (fun _ => ?_) (fun h0 => absurd (by decide) h0)
            refine lv_iconst (v := 0) hx hb d_Mo_order_42 (by decide) ?_
            refine lv_istore (lv' := [(6, .int 0), (0, .ref g0), (1, .int pl), (2, .int a), (3, .int k), (4, .int x), (5, .int y)]) hx hb d_Mo_order_43 hl (by decide) rfl (fun ls hl => ?_)
            refine lv_aload_n hx hb d_Mo_order_45 rfl (lv_at hl 1 rfl) ?_
            refine lv_iload_n hx hb d_Mo_order_46 rfl (lv_at hl 2 rfl) ?_
            have hPc := hP.sub (ws' := []) [] rfl
            refine vp_callSi (va_Run.run (va_runS (As := [.int pl]) (rest := [.ref g0]) ⟨hx, hb, hml, hown, hts⟩ (c_Mo_isPlayer l D cI cZ cJ cS aT ceT  pl ) (va_cwS 1 hts (tb_3 wd_802 wd_803 wd_8 (tb_c wd_804)) rfl rfl rfl ⟨by decide, by decide, by decide +kernel⟩ ⟨Nat.le_of_ble_eq_true rfl, Nat.le_of_ble_eq_true rfl⟩) (tP_S hK hX (hS.2.1 aT hXl hXn) hPc) rfl rfl hl.1 rfl (lv_room (Nat.le_of_ble_eq_true rfl)) d_Mo_order_47 ⟨Nat.le_of_ble_eq_true rfl, Nat.le_of_ble_eq_true rfl⟩)) (fun r121 hr9 => ?_)
            rcases hr9 with ⟨rfl, hq122⟩ | ⟨rfl, hq122⟩
            · -- 47: true
              refine lv_if_eq (tgt := 75) hx hb d_Mo_order_50 (by decide) (fun h0 => absurd h0 (by decide)) (fun _ => ?_)
              refine lv_aload_n hx hb d_Mo_order_53 rfl (lv_at hl 1 rfl) ?_
              refine lv_iload_n hx hb d_Mo_order_54 rfl (lv_at hl 3 rfl) ?_
              have hPc := hP.sub (ws' := [(g0, .inr (6, [.int co, .int ar, .ref m_sea, .ref m_center, .ref m_home, .ref m_borders, .int mp, .int mt, .ref m_owner, .ref m_units, .ref m_kind, .ref m_toX, .ref m_toY, .ref m_results, .ref m_known, .ref m_reached, .ref m_way, .ref m_aside, .ref m_origin, .ref m_retreats, .ref m_contested, .ref m_moved, .int msh, .ref m_past]))]) [0] rfl
              refine vp_callSi (va_Run.run (va_runV (As := [.int a]) (rest := [.ref g0]) ⟨hx, hb, hml, hown, hts⟩ (c_Mo_isArea l D cI cZ cJ cS aT ceT  g0 m_sea m_center m_home m_borders m_owner m_units m_kind m_toX m_toY m_results m_known m_reached m_way m_aside m_origin m_retreats m_contested m_moved m_past co ar mp mt msh a ) (cwV 1 hts (tb_4 wd_790 wd_792 wp_36 wd_8 (tb_c wd_793)) rfl rfl rfl ⟨rfl, by decide, by decide, by decide +kernel⟩ ⟨Nat.le_of_ble_eq_true rfl, Nat.le_of_ble_eq_true rfl⟩) (tP_V hK hX (hS.2.1 aT hXl hXn) hPc (q := 0) rfl rfl) rfl rfl hl.1 rfl (lv_room (Nat.le_of_ble_eq_true rfl)) d_Mo_order_55 ⟨Nat.le_of_ble_eq_true rfl, Nat.le_of_ble_eq_true rfl⟩)) (fun r124 hr9 => ?_)
              rcases hr9 with ⟨rfl, hq125⟩ | ⟨rfl, hq125⟩
              · -- 55: true
                refine lv_if_eq (tgt := 75) hx hb d_Mo_order_58 (by decide) (fun h0 => absurd h0 (by decide)) (fun _ => ?_)
                refine lv_iload_n hx hb d_Mo_order_61 rfl (lv_at hl 4 rfl) ?_
                refine lv_if_lt (tgt := 75) hx hb d_Mo_order_62 (by decide) (fun hc127 => ?_) (fun hc127 => ?_)
                · -- 62 taken
                  refine lv_iconst (v := 1) hx hb d_Mo_order_75 (by decide) ?_
                  refine lv_goto (tgt := 92) hx hb d_Mo_order_76 (by decide) ?_
                  refine va_put (D := D) (ci := 6) (v := .int 1) (ty := .int) (C := R_Mo) (T := T_Mo) (N := 24) hx hb hts hin_Mo ty_Mo tyok_Mo nm_Mo hown hK hP hD hS 0 rfl rfl 0 (by decide) (hts _ wd_704) (fun _ h9 => h9) rfl (by decide +kernel) rfl rfl (Nat.le_of_ble_eq_true rfl) d_Mo_order_92 (fun H locs hP hD hS => ?_)
                  have hP : va_P D vwCl [(g0, .inr (6, [.int 1, .int ar, .ref m_sea, .ref m_center, .ref m_home, .ref m_borders, .int mp, .int mt, .ref m_owner, .ref m_units, .ref m_kind, .ref m_toX, .ref m_toY, .ref m_results, .ref m_known, .ref m_reached, .ref m_way, .ref m_aside, .ref m_origin, .ref m_retreats, .ref m_contested, .ref m_moved, .int msh, .ref m_past]))] H := hP
                  have hD : va_D A [(g0, .inr (6, [.int 1, .int ar, .ref m_sea, .ref m_center, .ref m_home, .ref m_borders, .int mp, .int mt, .ref m_owner, .ref m_units, .ref m_kind, .ref m_toX, .ref m_toY, .ref m_results, .ref m_known, .ref m_reached, .ref m_way, .ref m_aside, .ref m_origin, .ref m_retreats, .ref m_contested, .ref m_moved, .int msh, .ref m_past]))] := hD
                  refine lv_aload_n hx hb d_Mo_order_95 rfl (lv_at hl 1 rfl) ?_
                  refine va_get (D := D) (ci := 6) (v := .int 1) (C := R_Mo) (T := T_Mo) (N := 24) hx hb hts hin_Mo hown hK hP 0 rfl rfl 0 (by decide) (hts _ wd_704) (fun _ h9 => h9) rfl d_Mo_order_96 ?_
                  refine lv_if_eq (tgt := 104) hx hb d_Mo_order_99 (by decide) (fun h0 => absurd h0 (by decide)) (fun _ => ?_)
                  refine lv_iconst (v := 0) hx hb d_Mo_order_102 (by decide) ?_
                  have hP9 := hP.sub (ws' := [(g0, .inr (6, [.int 1, .int ar, .ref m_sea, .ref m_center, .ref m_home, .ref m_borders, .int mp, .int mt, .ref m_owner, .ref m_units, .ref m_kind, .ref m_toX, .ref m_toY, .ref m_results, .ref m_known, .ref m_reached, .ref m_way, .ref m_aside, .ref m_origin, .ref m_retreats, .ref m_contested, .ref m_moved, .int msh, .ref m_past]))]) [0] rfl
                  have hD9 := hD.sub (ws' := [(g0, .inr (6, [.int 1, .int ar, .ref m_sea, .ref m_center, .ref m_home, .ref m_borders, .int mp, .int mt, .ref m_owner, .ref m_units, .ref m_kind, .ref m_toX, .ref m_toY, .ref m_results, .ref m_known, .ref m_reached, .ref m_way, .ref m_aside, .ref m_origin, .ref m_retreats, .ref m_contested, .ref m_moved, .int msh, .ref m_past]))]) [0] (by decide) rfl
                  exact W.iret (v := 0) hx hb hr (fun t ht hW => ⟨⟨0, (), rfl, rfl, by rw [ht]; exact hP9, hD9⟩, hS.F ht⟩) hS.2.2 d_Mo_order_103
                · -- 62 not taken
                  refine lv_iload_n hx hb d_Mo_order_65 rfl (lv_at hl 4 rfl) ?_
                  refine lv_iconst (v := 3) hx hb d_Mo_order_66 (by decide) ?_
                  refine lv_icmp_gt (tgt := 75) hx hb d_Mo_order_67 (by decide) (fun hc129 => ?_) (fun hc129 => ?_)
                  · -- 67 taken
                    refine lv_iconst (v := 1) hx hb d_Mo_order_75 (by decide) ?_
                    refine lv_goto (tgt := 92) hx hb d_Mo_order_76 (by decide) ?_
                    refine va_put (D := D) (ci := 6) (v := .int 1) (ty := .int) (C := R_Mo) (T := T_Mo) (N := 24) hx hb hts hin_Mo ty_Mo tyok_Mo nm_Mo hown hK hP hD hS 0 rfl rfl 0 (by decide) (hts _ wd_704) (fun _ h9 => h9) rfl (by decide +kernel) rfl rfl (Nat.le_of_ble_eq_true rfl) d_Mo_order_92 (fun H locs hP hD hS => ?_)
                    have hP : va_P D vwCl [(g0, .inr (6, [.int 1, .int ar, .ref m_sea, .ref m_center, .ref m_home, .ref m_borders, .int mp, .int mt, .ref m_owner, .ref m_units, .ref m_kind, .ref m_toX, .ref m_toY, .ref m_results, .ref m_known, .ref m_reached, .ref m_way, .ref m_aside, .ref m_origin, .ref m_retreats, .ref m_contested, .ref m_moved, .int msh, .ref m_past]))] H := hP
                    have hD : va_D A [(g0, .inr (6, [.int 1, .int ar, .ref m_sea, .ref m_center, .ref m_home, .ref m_borders, .int mp, .int mt, .ref m_owner, .ref m_units, .ref m_kind, .ref m_toX, .ref m_toY, .ref m_results, .ref m_known, .ref m_reached, .ref m_way, .ref m_aside, .ref m_origin, .ref m_retreats, .ref m_contested, .ref m_moved, .int msh, .ref m_past]))] := hD
                    refine lv_aload_n hx hb d_Mo_order_95 rfl (lv_at hl 1 rfl) ?_
                    refine va_get (D := D) (ci := 6) (v := .int 1) (C := R_Mo) (T := T_Mo) (N := 24) hx hb hts hin_Mo hown hK hP 0 rfl rfl 0 (by decide) (hts _ wd_704) (fun _ h9 => h9) rfl d_Mo_order_96 ?_
                    refine lv_if_eq (tgt := 104) hx hb d_Mo_order_99 (by decide) (fun h0 => absurd h0 (by decide)) (fun _ => ?_)
                    refine lv_iconst (v := 0) hx hb d_Mo_order_102 (by decide) ?_
                    have hP9 := hP.sub (ws' := [(g0, .inr (6, [.int 1, .int ar, .ref m_sea, .ref m_center, .ref m_home, .ref m_borders, .int mp, .int mt, .ref m_owner, .ref m_units, .ref m_kind, .ref m_toX, .ref m_toY, .ref m_results, .ref m_known, .ref m_reached, .ref m_way, .ref m_aside, .ref m_origin, .ref m_retreats, .ref m_contested, .ref m_moved, .int msh, .ref m_past]))]) [0] rfl
                    have hD9 := hD.sub (ws' := [(g0, .inr (6, [.int 1, .int ar, .ref m_sea, .ref m_center, .ref m_home, .ref m_borders, .int mp, .int mt, .ref m_owner, .ref m_units, .ref m_kind, .ref m_toX, .ref m_toY, .ref m_results, .ref m_known, .ref m_reached, .ref m_way, .ref m_aside, .ref m_origin, .ref m_retreats, .ref m_contested, .ref m_moved, .int msh, .ref m_past]))]) [0] (by decide) rfl
                    exact W.iret (v := 0) hx hb hr (fun t ht hW => ⟨⟨0, (), rfl, rfl, by rw [ht]; exact hP9, hD9⟩, hS.F ht⟩) hS.2.2 d_Mo_order_103
                  · -- 67 not taken
                    refine lv_iload hx hb d_Mo_order_70 (lv_at hl 0 rfl) ?_
                    refine lv_if_ne (tgt := 79) hx hb d_Mo_order_72 (by decide) (fun h0 => absurd (by decide) h0) (fun _ => ?_)
                    refine lv_iconst (v := 1) hx hb d_Mo_order_75 (by decide) ?_
                    refine lv_goto (tgt := 92) hx hb d_Mo_order_76 (by decide) ?_
                    refine va_put (D := D) (ci := 6) (v := .int 1) (ty := .int) (C := R_Mo) (T := T_Mo) (N := 24) hx hb hts hin_Mo ty_Mo tyok_Mo nm_Mo hown hK hP hD hS 0 rfl rfl 0 (by decide) (hts _ wd_704) (fun _ h9 => h9) rfl (by decide +kernel) rfl rfl (Nat.le_of_ble_eq_true rfl) d_Mo_order_92 (fun H locs hP hD hS => ?_)
                    have hP : va_P D vwCl [(g0, .inr (6, [.int 1, .int ar, .ref m_sea, .ref m_center, .ref m_home, .ref m_borders, .int mp, .int mt, .ref m_owner, .ref m_units, .ref m_kind, .ref m_toX, .ref m_toY, .ref m_results, .ref m_known, .ref m_reached, .ref m_way, .ref m_aside, .ref m_origin, .ref m_retreats, .ref m_contested, .ref m_moved, .int msh, .ref m_past]))] H := hP
                    have hD : va_D A [(g0, .inr (6, [.int 1, .int ar, .ref m_sea, .ref m_center, .ref m_home, .ref m_borders, .int mp, .int mt, .ref m_owner, .ref m_units, .ref m_kind, .ref m_toX, .ref m_toY, .ref m_results, .ref m_known, .ref m_reached, .ref m_way, .ref m_aside, .ref m_origin, .ref m_retreats, .ref m_contested, .ref m_moved, .int msh, .ref m_past]))] := hD
                    refine lv_aload_n hx hb d_Mo_order_95 rfl (lv_at hl 1 rfl) ?_
                    refine va_get (D := D) (ci := 6) (v := .int 1) (C := R_Mo) (T := T_Mo) (N := 24) hx hb hts hin_Mo hown hK hP 0 rfl rfl 0 (by decide) (hts _ wd_704) (fun _ h9 => h9) rfl d_Mo_order_96 ?_
                    refine lv_if_eq (tgt := 104) hx hb d_Mo_order_99 (by decide) (fun h0 => absurd h0 (by decide)) (fun _ => ?_)
                    refine lv_iconst (v := 0) hx hb d_Mo_order_102 (by decide) ?_
                    have hP9 := hP.sub (ws' := [(g0, .inr (6, [.int 1, .int ar, .ref m_sea, .ref m_center, .ref m_home, .ref m_borders, .int mp, .int mt, .ref m_owner, .ref m_units, .ref m_kind, .ref m_toX, .ref m_toY, .ref m_results, .ref m_known, .ref m_reached, .ref m_way, .ref m_aside, .ref m_origin, .ref m_retreats, .ref m_contested, .ref m_moved, .int msh, .ref m_past]))]) [0] rfl
                    have hD9 := hD.sub (ws' := [(g0, .inr (6, [.int 1, .int ar, .ref m_sea, .ref m_center, .ref m_home, .ref m_borders, .int mp, .int mt, .ref m_owner, .ref m_units, .ref m_kind, .ref m_toX, .ref m_toY, .ref m_results, .ref m_known, .ref m_reached, .ref m_way, .ref m_aside, .ref m_origin, .ref m_retreats, .ref m_contested, .ref m_moved, .int msh, .ref m_past]))]) [0] (by decide) rfl
                    exact W.iret (v := 0) hx hb hr (fun t ht hW => ⟨⟨0, (), rfl, rfl, by rw [ht]; exact hP9, hD9⟩, hS.F ht⟩) hS.2.2 d_Mo_order_103
              · -- 55: false
                refine lv_if_eq (tgt := 75) hx hb d_Mo_order_58 (by decide) (fun _ => ?_) (fun h0 => absurd (by decide) h0)
                refine lv_iconst (v := 1) hx hb d_Mo_order_75 (by decide) ?_
                refine lv_goto (tgt := 92) hx hb d_Mo_order_76 (by decide) ?_
                refine va_put (D := D) (ci := 6) (v := .int 1) (ty := .int) (C := R_Mo) (T := T_Mo) (N := 24) hx hb hts hin_Mo ty_Mo tyok_Mo nm_Mo hown hK hP hD hS 0 rfl rfl 0 (by decide) (hts _ wd_704) (fun _ h9 => h9) rfl (by decide +kernel) rfl rfl (Nat.le_of_ble_eq_true rfl) d_Mo_order_92 (fun H locs hP hD hS => ?_)
                have hP : va_P D vwCl [(g0, .inr (6, [.int 1, .int ar, .ref m_sea, .ref m_center, .ref m_home, .ref m_borders, .int mp, .int mt, .ref m_owner, .ref m_units, .ref m_kind, .ref m_toX, .ref m_toY, .ref m_results, .ref m_known, .ref m_reached, .ref m_way, .ref m_aside, .ref m_origin, .ref m_retreats, .ref m_contested, .ref m_moved, .int msh, .ref m_past]))] H := hP
                have hD : va_D A [(g0, .inr (6, [.int 1, .int ar, .ref m_sea, .ref m_center, .ref m_home, .ref m_borders, .int mp, .int mt, .ref m_owner, .ref m_units, .ref m_kind, .ref m_toX, .ref m_toY, .ref m_results, .ref m_known, .ref m_reached, .ref m_way, .ref m_aside, .ref m_origin, .ref m_retreats, .ref m_contested, .ref m_moved, .int msh, .ref m_past]))] := hD
                refine lv_aload_n hx hb d_Mo_order_95 rfl (lv_at hl 1 rfl) ?_
                refine va_get (D := D) (ci := 6) (v := .int 1) (C := R_Mo) (T := T_Mo) (N := 24) hx hb hts hin_Mo hown hK hP 0 rfl rfl 0 (by decide) (hts _ wd_704) (fun _ h9 => h9) rfl d_Mo_order_96 ?_
                refine lv_if_eq (tgt := 104) hx hb d_Mo_order_99 (by decide) (fun h0 => absurd h0 (by decide)) (fun _ => ?_)
                refine lv_iconst (v := 0) hx hb d_Mo_order_102 (by decide) ?_
                have hP9 := hP.sub (ws' := [(g0, .inr (6, [.int 1, .int ar, .ref m_sea, .ref m_center, .ref m_home, .ref m_borders, .int mp, .int mt, .ref m_owner, .ref m_units, .ref m_kind, .ref m_toX, .ref m_toY, .ref m_results, .ref m_known, .ref m_reached, .ref m_way, .ref m_aside, .ref m_origin, .ref m_retreats, .ref m_contested, .ref m_moved, .int msh, .ref m_past]))]) [0] rfl
                have hD9 := hD.sub (ws' := [(g0, .inr (6, [.int 1, .int ar, .ref m_sea, .ref m_center, .ref m_home, .ref m_borders, .int mp, .int mt, .ref m_owner, .ref m_units, .ref m_kind, .ref m_toX, .ref m_toY, .ref m_results, .ref m_known, .ref m_reached, .ref m_way, .ref m_aside, .ref m_origin, .ref m_retreats, .ref m_contested, .ref m_moved, .int msh, .ref m_past]))]) [0] (by decide) rfl
                exact W.iret (v := 0) hx hb hr (fun t ht hW => ⟨⟨0, (), rfl, rfl, by rw [ht]; exact hP9, hD9⟩, hS.F ht⟩) hS.2.2 d_Mo_order_103
            · -- 47: false
              refine lv_if_eq (tgt := 75) hx hb d_Mo_order_50 (by decide) (fun _ => ?_) (fun h0 => absurd (by decide) h0)
              refine lv_iconst (v := 1) hx hb d_Mo_order_75 (by decide) ?_
              refine lv_goto (tgt := 92) hx hb d_Mo_order_76 (by decide) ?_
              refine va_put (D := D) (ci := 6) (v := .int 1) (ty := .int) (C := R_Mo) (T := T_Mo) (N := 24) hx hb hts hin_Mo ty_Mo tyok_Mo nm_Mo hown hK hP hD hS 0 rfl rfl 0 (by decide) (hts _ wd_704) (fun _ h9 => h9) rfl (by decide +kernel) rfl rfl (Nat.le_of_ble_eq_true rfl) d_Mo_order_92 (fun H locs hP hD hS => ?_)
              have hP : va_P D vwCl [(g0, .inr (6, [.int 1, .int ar, .ref m_sea, .ref m_center, .ref m_home, .ref m_borders, .int mp, .int mt, .ref m_owner, .ref m_units, .ref m_kind, .ref m_toX, .ref m_toY, .ref m_results, .ref m_known, .ref m_reached, .ref m_way, .ref m_aside, .ref m_origin, .ref m_retreats, .ref m_contested, .ref m_moved, .int msh, .ref m_past]))] H := hP
              have hD : va_D A [(g0, .inr (6, [.int 1, .int ar, .ref m_sea, .ref m_center, .ref m_home, .ref m_borders, .int mp, .int mt, .ref m_owner, .ref m_units, .ref m_kind, .ref m_toX, .ref m_toY, .ref m_results, .ref m_known, .ref m_reached, .ref m_way, .ref m_aside, .ref m_origin, .ref m_retreats, .ref m_contested, .ref m_moved, .int msh, .ref m_past]))] := hD
              refine lv_aload_n hx hb d_Mo_order_95 rfl (lv_at hl 1 rfl) ?_
              refine va_get (D := D) (ci := 6) (v := .int 1) (C := R_Mo) (T := T_Mo) (N := 24) hx hb hts hin_Mo hown hK hP 0 rfl rfl 0 (by decide) (hts _ wd_704) (fun _ h9 => h9) rfl d_Mo_order_96 ?_
              refine lv_if_eq (tgt := 104) hx hb d_Mo_order_99 (by decide) (fun h0 => absurd h0 (by decide)) (fun _ => ?_)
              refine lv_iconst (v := 0) hx hb d_Mo_order_102 (by decide) ?_
              have hP9 := hP.sub (ws' := [(g0, .inr (6, [.int 1, .int ar, .ref m_sea, .ref m_center, .ref m_home, .ref m_borders, .int mp, .int mt, .ref m_owner, .ref m_units, .ref m_kind, .ref m_toX, .ref m_toY, .ref m_results, .ref m_known, .ref m_reached, .ref m_way, .ref m_aside, .ref m_origin, .ref m_retreats, .ref m_contested, .ref m_moved, .int msh, .ref m_past]))]) [0] rfl
              have hD9 := hD.sub (ws' := [(g0, .inr (6, [.int 1, .int ar, .ref m_sea, .ref m_center, .ref m_home, .ref m_borders, .int mp, .int mt, .ref m_owner, .ref m_units, .ref m_kind, .ref m_toX, .ref m_toY, .ref m_results, .ref m_known, .ref m_reached, .ref m_way, .ref m_aside, .ref m_origin, .ref m_retreats, .ref m_contested, .ref m_moved, .int msh, .ref m_past]))]) [0] (by decide) rfl
              exact W.iret (v := 0) hx hb hr (fun t ht hW => ⟨⟨0, (), rfl, rfl, by rw [ht]; exact hP9, hD9⟩, hS.F ht⟩) hS.2.2 d_Mo_order_103
    · -- 7 not taken
      refine lv_aload_n hx hb d_Mo_order_10 rfl (lv_at hl 0 rfl) ?_
      refine lv_iload hx hb d_Mo_order_11 (lv_at hl 4 rfl) ?_
      have hPc := hP.sub (ws' := [(g0, .inr (6, [.int co, .int ar, .ref m_sea, .ref m_center, .ref m_home, .ref m_borders, .int mp, .int mt, .ref m_owner, .ref m_units, .ref m_kind, .ref m_toX, .ref m_toY, .ref m_results, .ref m_known, .ref m_reached, .ref m_way, .ref m_aside, .ref m_origin, .ref m_retreats, .ref m_contested, .ref m_moved, .int msh, .ref m_past]))]) [0] rfl
      refine vp_callSi (va_Run.run (va_runV (As := [.int x]) (rest := []) ⟨hx, hb, hml, hown, hts⟩ (c_Mo_isArea l D cI cZ cJ cS aT ceT  g0 m_sea m_center m_home m_borders m_owner m_units m_kind m_toX m_toY m_results m_known m_reached m_way m_aside m_origin m_retreats m_contested m_moved m_past co ar mp mt msh x ) (cwV 1 hts (tb_4 wd_790 wd_792 wp_36 wd_8 (tb_c wd_793)) rfl rfl rfl ⟨rfl, by decide, by decide, by decide +kernel⟩ ⟨Nat.le_of_ble_eq_true rfl, Nat.le_of_ble_eq_true rfl⟩) (tP_V hK hX (hS.2.1 aT hXl hXn) hPc (q := 0) rfl rfl) rfl rfl hl.1 rfl (lv_room (Nat.le_of_ble_eq_true rfl)) d_Mo_order_13 ⟨Nat.le_of_ble_eq_true rfl, Nat.le_of_ble_eq_true rfl⟩)) (fun r137 hr9 => ?_)
      rcases hr9 with ⟨rfl, hq138⟩ | ⟨rfl, hq138⟩
      · -- 13: true
        refine lv_if_eq (tgt := 42) hx hb d_Mo_order_16 (by decide) (fun h0 => absurd h0 (by decide)) (fun _ => ?_)
        refine lv_iload_n hx hb d_Mo_order_19 rfl (lv_at hl 3 rfl) ?_
        refine lv_iconst (v := 2) hx hb d_Mo_order_20 (by decide) ?_
        refine lv_icmp_lt (tgt := 38) hx hb d_Mo_order_21 (by decide) (fun hc140 => ?_) (fun hc140 => ?_)
        · -- 21 taken
          refine lv_iconst (v := 1) hx hb d_Mo_order_38 (by decide) ?_
          refine lv_goto (tgt := 43) hx hb d_Mo_order_39 (by decide) ?_
          refine lv_istore (lv' := [(6, .int 1), (0, .ref g0), (1, .int pl), (2, .int a), (3, .int k), (4, .int x), (5, .int y)]) hx hb d_Mo_order_43 hl (by decide) rfl (fun ls hl => ?_)
          refine lv_aload_n hx hb d_Mo_order_45 rfl (lv_at hl 1 rfl) ?_
          refine lv_iload_n hx hb d_Mo_order_46 rfl (lv_at hl 2 rfl) ?_
          have hPc := hP.sub (ws' := []) [] rfl
          refine vp_callSi (va_Run.run (va_runS (As := [.int pl]) (rest := [.ref g0]) ⟨hx, hb, hml, hown, hts⟩ (c_Mo_isPlayer l D cI cZ cJ cS aT ceT  pl ) (va_cwS 1 hts (tb_3 wd_802 wd_803 wd_8 (tb_c wd_804)) rfl rfl rfl ⟨by decide, by decide, by decide +kernel⟩ ⟨Nat.le_of_ble_eq_true rfl, Nat.le_of_ble_eq_true rfl⟩) (tP_S hK hX (hS.2.1 aT hXl hXn) hPc) rfl rfl hl.1 rfl (lv_room (Nat.le_of_ble_eq_true rfl)) d_Mo_order_47 ⟨Nat.le_of_ble_eq_true rfl, Nat.le_of_ble_eq_true rfl⟩)) (fun r141 hr9 => ?_)
          rcases hr9 with ⟨rfl, hq142⟩ | ⟨rfl, hq142⟩
          · -- 47: true
            refine lv_if_eq (tgt := 75) hx hb d_Mo_order_50 (by decide) (fun h0 => absurd h0 (by decide)) (fun _ => ?_)
            refine lv_aload_n hx hb d_Mo_order_53 rfl (lv_at hl 1 rfl) ?_
            refine lv_iload_n hx hb d_Mo_order_54 rfl (lv_at hl 3 rfl) ?_
            have hPc := hP.sub (ws' := [(g0, .inr (6, [.int co, .int ar, .ref m_sea, .ref m_center, .ref m_home, .ref m_borders, .int mp, .int mt, .ref m_owner, .ref m_units, .ref m_kind, .ref m_toX, .ref m_toY, .ref m_results, .ref m_known, .ref m_reached, .ref m_way, .ref m_aside, .ref m_origin, .ref m_retreats, .ref m_contested, .ref m_moved, .int msh, .ref m_past]))]) [0] rfl
            refine vp_callSi (va_Run.run (va_runV (As := [.int a]) (rest := [.ref g0]) ⟨hx, hb, hml, hown, hts⟩ (c_Mo_isArea l D cI cZ cJ cS aT ceT  g0 m_sea m_center m_home m_borders m_owner m_units m_kind m_toX m_toY m_results m_known m_reached m_way m_aside m_origin m_retreats m_contested m_moved m_past co ar mp mt msh a ) (cwV 1 hts (tb_4 wd_790 wd_792 wp_36 wd_8 (tb_c wd_793)) rfl rfl rfl ⟨rfl, by decide, by decide, by decide +kernel⟩ ⟨Nat.le_of_ble_eq_true rfl, Nat.le_of_ble_eq_true rfl⟩) (tP_V hK hX (hS.2.1 aT hXl hXn) hPc (q := 0) rfl rfl) rfl rfl hl.1 rfl (lv_room (Nat.le_of_ble_eq_true rfl)) d_Mo_order_55 ⟨Nat.le_of_ble_eq_true rfl, Nat.le_of_ble_eq_true rfl⟩)) (fun r144 hr9 => ?_)
            rcases hr9 with ⟨rfl, hq145⟩ | ⟨rfl, hq145⟩
            · -- 55: true
              refine lv_if_eq (tgt := 75) hx hb d_Mo_order_58 (by decide) (fun h0 => absurd h0 (by decide)) (fun _ => ?_)
              refine lv_iload_n hx hb d_Mo_order_61 rfl (lv_at hl 4 rfl) ?_
              refine lv_if_lt (tgt := 75) hx hb d_Mo_order_62 (by decide) (fun hc147 => ?_) (fun hc147 => ?_)
              · -- 62 taken
                refine lv_iconst (v := 1) hx hb d_Mo_order_75 (by decide) ?_
                refine lv_goto (tgt := 92) hx hb d_Mo_order_76 (by decide) ?_
                refine va_put (D := D) (ci := 6) (v := .int 1) (ty := .int) (C := R_Mo) (T := T_Mo) (N := 24) hx hb hts hin_Mo ty_Mo tyok_Mo nm_Mo hown hK hP hD hS 0 rfl rfl 0 (by decide) (hts _ wd_704) (fun _ h9 => h9) rfl (by decide +kernel) rfl rfl (Nat.le_of_ble_eq_true rfl) d_Mo_order_92 (fun H locs hP hD hS => ?_)
                have hP : va_P D vwCl [(g0, .inr (6, [.int 1, .int ar, .ref m_sea, .ref m_center, .ref m_home, .ref m_borders, .int mp, .int mt, .ref m_owner, .ref m_units, .ref m_kind, .ref m_toX, .ref m_toY, .ref m_results, .ref m_known, .ref m_reached, .ref m_way, .ref m_aside, .ref m_origin, .ref m_retreats, .ref m_contested, .ref m_moved, .int msh, .ref m_past]))] H := hP
                have hD : va_D A [(g0, .inr (6, [.int 1, .int ar, .ref m_sea, .ref m_center, .ref m_home, .ref m_borders, .int mp, .int mt, .ref m_owner, .ref m_units, .ref m_kind, .ref m_toX, .ref m_toY, .ref m_results, .ref m_known, .ref m_reached, .ref m_way, .ref m_aside, .ref m_origin, .ref m_retreats, .ref m_contested, .ref m_moved, .int msh, .ref m_past]))] := hD
                refine lv_aload_n hx hb d_Mo_order_95 rfl (lv_at hl 1 rfl) ?_
                refine va_get (D := D) (ci := 6) (v := .int 1) (C := R_Mo) (T := T_Mo) (N := 24) hx hb hts hin_Mo hown hK hP 0 rfl rfl 0 (by decide) (hts _ wd_704) (fun _ h9 => h9) rfl d_Mo_order_96 ?_
                refine lv_if_eq (tgt := 104) hx hb d_Mo_order_99 (by decide) (fun h0 => absurd h0 (by decide)) (fun _ => ?_)
                refine lv_iconst (v := 0) hx hb d_Mo_order_102 (by decide) ?_
                have hP9 := hP.sub (ws' := [(g0, .inr (6, [.int 1, .int ar, .ref m_sea, .ref m_center, .ref m_home, .ref m_borders, .int mp, .int mt, .ref m_owner, .ref m_units, .ref m_kind, .ref m_toX, .ref m_toY, .ref m_results, .ref m_known, .ref m_reached, .ref m_way, .ref m_aside, .ref m_origin, .ref m_retreats, .ref m_contested, .ref m_moved, .int msh, .ref m_past]))]) [0] rfl
                have hD9 := hD.sub (ws' := [(g0, .inr (6, [.int 1, .int ar, .ref m_sea, .ref m_center, .ref m_home, .ref m_borders, .int mp, .int mt, .ref m_owner, .ref m_units, .ref m_kind, .ref m_toX, .ref m_toY, .ref m_results, .ref m_known, .ref m_reached, .ref m_way, .ref m_aside, .ref m_origin, .ref m_retreats, .ref m_contested, .ref m_moved, .int msh, .ref m_past]))]) [0] (by decide) rfl
                exact W.iret (v := 0) hx hb hr (fun t ht hW => ⟨⟨0, (), rfl, rfl, by rw [ht]; exact hP9, hD9⟩, hS.F ht⟩) hS.2.2 d_Mo_order_103
              · -- 62 not taken
                refine lv_iload_n hx hb d_Mo_order_65 rfl (lv_at hl 4 rfl) ?_
                refine lv_iconst (v := 3) hx hb d_Mo_order_66 (by decide) ?_
                refine lv_icmp_gt (tgt := 75) hx hb d_Mo_order_67 (by decide) (fun hc149 => ?_) (fun hc149 => ?_)
                · -- 67 taken
                  refine lv_iconst (v := 1) hx hb d_Mo_order_75 (by decide) ?_
                  refine lv_goto (tgt := 92) hx hb d_Mo_order_76 (by decide) ?_
                  refine va_put (D := D) (ci := 6) (v := .int 1) (ty := .int) (C := R_Mo) (T := T_Mo) (N := 24) hx hb hts hin_Mo ty_Mo tyok_Mo nm_Mo hown hK hP hD hS 0 rfl rfl 0 (by decide) (hts _ wd_704) (fun _ h9 => h9) rfl (by decide +kernel) rfl rfl (Nat.le_of_ble_eq_true rfl) d_Mo_order_92 (fun H locs hP hD hS => ?_)
                  have hP : va_P D vwCl [(g0, .inr (6, [.int 1, .int ar, .ref m_sea, .ref m_center, .ref m_home, .ref m_borders, .int mp, .int mt, .ref m_owner, .ref m_units, .ref m_kind, .ref m_toX, .ref m_toY, .ref m_results, .ref m_known, .ref m_reached, .ref m_way, .ref m_aside, .ref m_origin, .ref m_retreats, .ref m_contested, .ref m_moved, .int msh, .ref m_past]))] H := hP
                  have hD : va_D A [(g0, .inr (6, [.int 1, .int ar, .ref m_sea, .ref m_center, .ref m_home, .ref m_borders, .int mp, .int mt, .ref m_owner, .ref m_units, .ref m_kind, .ref m_toX, .ref m_toY, .ref m_results, .ref m_known, .ref m_reached, .ref m_way, .ref m_aside, .ref m_origin, .ref m_retreats, .ref m_contested, .ref m_moved, .int msh, .ref m_past]))] := hD
                  refine lv_aload_n hx hb d_Mo_order_95 rfl (lv_at hl 1 rfl) ?_
                  refine va_get (D := D) (ci := 6) (v := .int 1) (C := R_Mo) (T := T_Mo) (N := 24) hx hb hts hin_Mo hown hK hP 0 rfl rfl 0 (by decide) (hts _ wd_704) (fun _ h9 => h9) rfl d_Mo_order_96 ?_
                  refine lv_if_eq (tgt := 104) hx hb d_Mo_order_99 (by decide) (fun h0 => absurd h0 (by decide)) (fun _ => ?_)
                  refine lv_iconst (v := 0) hx hb d_Mo_order_102 (by decide) ?_
                  have hP9 := hP.sub (ws' := [(g0, .inr (6, [.int 1, .int ar, .ref m_sea, .ref m_center, .ref m_home, .ref m_borders, .int mp, .int mt, .ref m_owner, .ref m_units, .ref m_kind, .ref m_toX, .ref m_toY, .ref m_results, .ref m_known, .ref m_reached, .ref m_way, .ref m_aside, .ref m_origin, .ref m_retreats, .ref m_contested, .ref m_moved, .int msh, .ref m_past]))]) [0] rfl
                  have hD9 := hD.sub (ws' := [(g0, .inr (6, [.int 1, .int ar, .ref m_sea, .ref m_center, .ref m_home, .ref m_borders, .int mp, .int mt, .ref m_owner, .ref m_units, .ref m_kind, .ref m_toX, .ref m_toY, .ref m_results, .ref m_known, .ref m_reached, .ref m_way, .ref m_aside, .ref m_origin, .ref m_retreats, .ref m_contested, .ref m_moved, .int msh, .ref m_past]))]) [0] (by decide) rfl
                  exact W.iret (v := 0) hx hb hr (fun t ht hW => ⟨⟨0, (), rfl, rfl, by rw [ht]; exact hP9, hD9⟩, hS.F ht⟩) hS.2.2 d_Mo_order_103
                · -- 67 not taken
                  refine lv_iload hx hb d_Mo_order_70 (lv_at hl 0 rfl) ?_
                  refine lv_if_ne (tgt := 79) hx hb d_Mo_order_72 (by decide) (fun _ => ?_) (fun h0 => absurd h0 (by decide))
                  exact absurd (by unfold okO; revert hc1 hc69 hq138 hc140 hq142 hq145 hc147 hc149; simp only [Int32.lt_iff_toInt_lt, Int32.le_iff_toInt_le, ← Int32.toInt_inj, Int32.reduceToInt, i32_m1]; omega) hno9
            · -- 55: false
              refine lv_if_eq (tgt := 75) hx hb d_Mo_order_58 (by decide) (fun _ => ?_) (fun h0 => absurd (by decide) h0)
              refine lv_iconst (v := 1) hx hb d_Mo_order_75 (by decide) ?_
              refine lv_goto (tgt := 92) hx hb d_Mo_order_76 (by decide) ?_
              refine va_put (D := D) (ci := 6) (v := .int 1) (ty := .int) (C := R_Mo) (T := T_Mo) (N := 24) hx hb hts hin_Mo ty_Mo tyok_Mo nm_Mo hown hK hP hD hS 0 rfl rfl 0 (by decide) (hts _ wd_704) (fun _ h9 => h9) rfl (by decide +kernel) rfl rfl (Nat.le_of_ble_eq_true rfl) d_Mo_order_92 (fun H locs hP hD hS => ?_)
              have hP : va_P D vwCl [(g0, .inr (6, [.int 1, .int ar, .ref m_sea, .ref m_center, .ref m_home, .ref m_borders, .int mp, .int mt, .ref m_owner, .ref m_units, .ref m_kind, .ref m_toX, .ref m_toY, .ref m_results, .ref m_known, .ref m_reached, .ref m_way, .ref m_aside, .ref m_origin, .ref m_retreats, .ref m_contested, .ref m_moved, .int msh, .ref m_past]))] H := hP
              have hD : va_D A [(g0, .inr (6, [.int 1, .int ar, .ref m_sea, .ref m_center, .ref m_home, .ref m_borders, .int mp, .int mt, .ref m_owner, .ref m_units, .ref m_kind, .ref m_toX, .ref m_toY, .ref m_results, .ref m_known, .ref m_reached, .ref m_way, .ref m_aside, .ref m_origin, .ref m_retreats, .ref m_contested, .ref m_moved, .int msh, .ref m_past]))] := hD
              refine lv_aload_n hx hb d_Mo_order_95 rfl (lv_at hl 1 rfl) ?_
              refine va_get (D := D) (ci := 6) (v := .int 1) (C := R_Mo) (T := T_Mo) (N := 24) hx hb hts hin_Mo hown hK hP 0 rfl rfl 0 (by decide) (hts _ wd_704) (fun _ h9 => h9) rfl d_Mo_order_96 ?_
              refine lv_if_eq (tgt := 104) hx hb d_Mo_order_99 (by decide) (fun h0 => absurd h0 (by decide)) (fun _ => ?_)
              refine lv_iconst (v := 0) hx hb d_Mo_order_102 (by decide) ?_
              have hP9 := hP.sub (ws' := [(g0, .inr (6, [.int 1, .int ar, .ref m_sea, .ref m_center, .ref m_home, .ref m_borders, .int mp, .int mt, .ref m_owner, .ref m_units, .ref m_kind, .ref m_toX, .ref m_toY, .ref m_results, .ref m_known, .ref m_reached, .ref m_way, .ref m_aside, .ref m_origin, .ref m_retreats, .ref m_contested, .ref m_moved, .int msh, .ref m_past]))]) [0] rfl
              have hD9 := hD.sub (ws' := [(g0, .inr (6, [.int 1, .int ar, .ref m_sea, .ref m_center, .ref m_home, .ref m_borders, .int mp, .int mt, .ref m_owner, .ref m_units, .ref m_kind, .ref m_toX, .ref m_toY, .ref m_results, .ref m_known, .ref m_reached, .ref m_way, .ref m_aside, .ref m_origin, .ref m_retreats, .ref m_contested, .ref m_moved, .int msh, .ref m_past]))]) [0] (by decide) rfl
              exact W.iret (v := 0) hx hb hr (fun t ht hW => ⟨⟨0, (), rfl, rfl, by rw [ht]; exact hP9, hD9⟩, hS.F ht⟩) hS.2.2 d_Mo_order_103
          · -- 47: false
            refine lv_if_eq (tgt := 75) hx hb d_Mo_order_50 (by decide) (fun _ => ?_) (fun h0 => absurd (by decide) h0)
            refine lv_iconst (v := 1) hx hb d_Mo_order_75 (by decide) ?_
            refine lv_goto (tgt := 92) hx hb d_Mo_order_76 (by decide) ?_
            refine va_put (D := D) (ci := 6) (v := .int 1) (ty := .int) (C := R_Mo) (T := T_Mo) (N := 24) hx hb hts hin_Mo ty_Mo tyok_Mo nm_Mo hown hK hP hD hS 0 rfl rfl 0 (by decide) (hts _ wd_704) (fun _ h9 => h9) rfl (by decide +kernel) rfl rfl (Nat.le_of_ble_eq_true rfl) d_Mo_order_92 (fun H locs hP hD hS => ?_)
            have hP : va_P D vwCl [(g0, .inr (6, [.int 1, .int ar, .ref m_sea, .ref m_center, .ref m_home, .ref m_borders, .int mp, .int mt, .ref m_owner, .ref m_units, .ref m_kind, .ref m_toX, .ref m_toY, .ref m_results, .ref m_known, .ref m_reached, .ref m_way, .ref m_aside, .ref m_origin, .ref m_retreats, .ref m_contested, .ref m_moved, .int msh, .ref m_past]))] H := hP
            have hD : va_D A [(g0, .inr (6, [.int 1, .int ar, .ref m_sea, .ref m_center, .ref m_home, .ref m_borders, .int mp, .int mt, .ref m_owner, .ref m_units, .ref m_kind, .ref m_toX, .ref m_toY, .ref m_results, .ref m_known, .ref m_reached, .ref m_way, .ref m_aside, .ref m_origin, .ref m_retreats, .ref m_contested, .ref m_moved, .int msh, .ref m_past]))] := hD
            refine lv_aload_n hx hb d_Mo_order_95 rfl (lv_at hl 1 rfl) ?_
            refine va_get (D := D) (ci := 6) (v := .int 1) (C := R_Mo) (T := T_Mo) (N := 24) hx hb hts hin_Mo hown hK hP 0 rfl rfl 0 (by decide) (hts _ wd_704) (fun _ h9 => h9) rfl d_Mo_order_96 ?_
            refine lv_if_eq (tgt := 104) hx hb d_Mo_order_99 (by decide) (fun h0 => absurd h0 (by decide)) (fun _ => ?_)
            refine lv_iconst (v := 0) hx hb d_Mo_order_102 (by decide) ?_
            have hP9 := hP.sub (ws' := [(g0, .inr (6, [.int 1, .int ar, .ref m_sea, .ref m_center, .ref m_home, .ref m_borders, .int mp, .int mt, .ref m_owner, .ref m_units, .ref m_kind, .ref m_toX, .ref m_toY, .ref m_results, .ref m_known, .ref m_reached, .ref m_way, .ref m_aside, .ref m_origin, .ref m_retreats, .ref m_contested, .ref m_moved, .int msh, .ref m_past]))]) [0] rfl
            have hD9 := hD.sub (ws' := [(g0, .inr (6, [.int 1, .int ar, .ref m_sea, .ref m_center, .ref m_home, .ref m_borders, .int mp, .int mt, .ref m_owner, .ref m_units, .ref m_kind, .ref m_toX, .ref m_toY, .ref m_results, .ref m_known, .ref m_reached, .ref m_way, .ref m_aside, .ref m_origin, .ref m_retreats, .ref m_contested, .ref m_moved, .int msh, .ref m_past]))]) [0] (by decide) rfl
            exact W.iret (v := 0) hx hb hr (fun t ht hW => ⟨⟨0, (), rfl, rfl, by rw [ht]; exact hP9, hD9⟩, hS.F ht⟩) hS.2.2 d_Mo_order_103
        · -- 21 not taken
          refine lv_iload_n hx hb d_Mo_order_24 rfl (lv_at hl 3 rfl) ?_
          refine lv_iconst (v := 3) hx hb d_Mo_order_25 (by decide) ?_
          refine lv_icmp_gt (tgt := 38) hx hb d_Mo_order_26 (by decide) (fun hc156 => ?_) (fun hc156 => ?_)
          · -- 26 taken
            refine lv_iconst (v := 1) hx hb d_Mo_order_38 (by decide) ?_
            refine lv_goto (tgt := 43) hx hb d_Mo_order_39 (by decide) ?_
            refine lv_istore (lv' := [(6, .int 1), (0, .ref g0), (1, .int pl), (2, .int a), (3, .int k), (4, .int x), (5, .int y)]) hx hb d_Mo_order_43 hl (by decide) rfl (fun ls hl => ?_)
            refine lv_aload_n hx hb d_Mo_order_45 rfl (lv_at hl 1 rfl) ?_
            refine lv_iload_n hx hb d_Mo_order_46 rfl (lv_at hl 2 rfl) ?_
            have hPc := hP.sub (ws' := []) [] rfl
            refine vp_callSi (va_Run.run (va_runS (As := [.int pl]) (rest := [.ref g0]) ⟨hx, hb, hml, hown, hts⟩ (c_Mo_isPlayer l D cI cZ cJ cS aT ceT  pl ) (va_cwS 1 hts (tb_3 wd_802 wd_803 wd_8 (tb_c wd_804)) rfl rfl rfl ⟨by decide, by decide, by decide +kernel⟩ ⟨Nat.le_of_ble_eq_true rfl, Nat.le_of_ble_eq_true rfl⟩) (tP_S hK hX (hS.2.1 aT hXl hXn) hPc) rfl rfl hl.1 rfl (lv_room (Nat.le_of_ble_eq_true rfl)) d_Mo_order_47 ⟨Nat.le_of_ble_eq_true rfl, Nat.le_of_ble_eq_true rfl⟩)) (fun r157 hr9 => ?_)
            rcases hr9 with ⟨rfl, hq158⟩ | ⟨rfl, hq158⟩
            · -- 47: true
              refine lv_if_eq (tgt := 75) hx hb d_Mo_order_50 (by decide) (fun h0 => absurd h0 (by decide)) (fun _ => ?_)
              refine lv_aload_n hx hb d_Mo_order_53 rfl (lv_at hl 1 rfl) ?_
              refine lv_iload_n hx hb d_Mo_order_54 rfl (lv_at hl 3 rfl) ?_
              have hPc := hP.sub (ws' := [(g0, .inr (6, [.int co, .int ar, .ref m_sea, .ref m_center, .ref m_home, .ref m_borders, .int mp, .int mt, .ref m_owner, .ref m_units, .ref m_kind, .ref m_toX, .ref m_toY, .ref m_results, .ref m_known, .ref m_reached, .ref m_way, .ref m_aside, .ref m_origin, .ref m_retreats, .ref m_contested, .ref m_moved, .int msh, .ref m_past]))]) [0] rfl
              refine vp_callSi (va_Run.run (va_runV (As := [.int a]) (rest := [.ref g0]) ⟨hx, hb, hml, hown, hts⟩ (c_Mo_isArea l D cI cZ cJ cS aT ceT  g0 m_sea m_center m_home m_borders m_owner m_units m_kind m_toX m_toY m_results m_known m_reached m_way m_aside m_origin m_retreats m_contested m_moved m_past co ar mp mt msh a ) (cwV 1 hts (tb_4 wd_790 wd_792 wp_36 wd_8 (tb_c wd_793)) rfl rfl rfl ⟨rfl, by decide, by decide, by decide +kernel⟩ ⟨Nat.le_of_ble_eq_true rfl, Nat.le_of_ble_eq_true rfl⟩) (tP_V hK hX (hS.2.1 aT hXl hXn) hPc (q := 0) rfl rfl) rfl rfl hl.1 rfl (lv_room (Nat.le_of_ble_eq_true rfl)) d_Mo_order_55 ⟨Nat.le_of_ble_eq_true rfl, Nat.le_of_ble_eq_true rfl⟩)) (fun r160 hr9 => ?_)
              rcases hr9 with ⟨rfl, hq161⟩ | ⟨rfl, hq161⟩
              · -- 55: true
                refine lv_if_eq (tgt := 75) hx hb d_Mo_order_58 (by decide) (fun h0 => absurd h0 (by decide)) (fun _ => ?_)
                refine lv_iload_n hx hb d_Mo_order_61 rfl (lv_at hl 4 rfl) ?_
                refine lv_if_lt (tgt := 75) hx hb d_Mo_order_62 (by decide) (fun hc163 => ?_) (fun hc163 => ?_)
                · -- 62 taken
                  refine lv_iconst (v := 1) hx hb d_Mo_order_75 (by decide) ?_
                  refine lv_goto (tgt := 92) hx hb d_Mo_order_76 (by decide) ?_
                  refine va_put (D := D) (ci := 6) (v := .int 1) (ty := .int) (C := R_Mo) (T := T_Mo) (N := 24) hx hb hts hin_Mo ty_Mo tyok_Mo nm_Mo hown hK hP hD hS 0 rfl rfl 0 (by decide) (hts _ wd_704) (fun _ h9 => h9) rfl (by decide +kernel) rfl rfl (Nat.le_of_ble_eq_true rfl) d_Mo_order_92 (fun H locs hP hD hS => ?_)
                  have hP : va_P D vwCl [(g0, .inr (6, [.int 1, .int ar, .ref m_sea, .ref m_center, .ref m_home, .ref m_borders, .int mp, .int mt, .ref m_owner, .ref m_units, .ref m_kind, .ref m_toX, .ref m_toY, .ref m_results, .ref m_known, .ref m_reached, .ref m_way, .ref m_aside, .ref m_origin, .ref m_retreats, .ref m_contested, .ref m_moved, .int msh, .ref m_past]))] H := hP
                  have hD : va_D A [(g0, .inr (6, [.int 1, .int ar, .ref m_sea, .ref m_center, .ref m_home, .ref m_borders, .int mp, .int mt, .ref m_owner, .ref m_units, .ref m_kind, .ref m_toX, .ref m_toY, .ref m_results, .ref m_known, .ref m_reached, .ref m_way, .ref m_aside, .ref m_origin, .ref m_retreats, .ref m_contested, .ref m_moved, .int msh, .ref m_past]))] := hD
                  refine lv_aload_n hx hb d_Mo_order_95 rfl (lv_at hl 1 rfl) ?_
                  refine va_get (D := D) (ci := 6) (v := .int 1) (C := R_Mo) (T := T_Mo) (N := 24) hx hb hts hin_Mo hown hK hP 0 rfl rfl 0 (by decide) (hts _ wd_704) (fun _ h9 => h9) rfl d_Mo_order_96 ?_
                  refine lv_if_eq (tgt := 104) hx hb d_Mo_order_99 (by decide) (fun h0 => absurd h0 (by decide)) (fun _ => ?_)
                  refine lv_iconst (v := 0) hx hb d_Mo_order_102 (by decide) ?_
                  have hP9 := hP.sub (ws' := [(g0, .inr (6, [.int 1, .int ar, .ref m_sea, .ref m_center, .ref m_home, .ref m_borders, .int mp, .int mt, .ref m_owner, .ref m_units, .ref m_kind, .ref m_toX, .ref m_toY, .ref m_results, .ref m_known, .ref m_reached, .ref m_way, .ref m_aside, .ref m_origin, .ref m_retreats, .ref m_contested, .ref m_moved, .int msh, .ref m_past]))]) [0] rfl
                  have hD9 := hD.sub (ws' := [(g0, .inr (6, [.int 1, .int ar, .ref m_sea, .ref m_center, .ref m_home, .ref m_borders, .int mp, .int mt, .ref m_owner, .ref m_units, .ref m_kind, .ref m_toX, .ref m_toY, .ref m_results, .ref m_known, .ref m_reached, .ref m_way, .ref m_aside, .ref m_origin, .ref m_retreats, .ref m_contested, .ref m_moved, .int msh, .ref m_past]))]) [0] (by decide) rfl
                  exact W.iret (v := 0) hx hb hr (fun t ht hW => ⟨⟨0, (), rfl, rfl, by rw [ht]; exact hP9, hD9⟩, hS.F ht⟩) hS.2.2 d_Mo_order_103
                · -- 62 not taken
                  refine lv_iload_n hx hb d_Mo_order_65 rfl (lv_at hl 4 rfl) ?_
                  refine lv_iconst (v := 3) hx hb d_Mo_order_66 (by decide) ?_
                  refine lv_icmp_gt (tgt := 75) hx hb d_Mo_order_67 (by decide) (fun hc165 => ?_) (fun hc165 => ?_)
                  · -- 67 taken
                    refine lv_iconst (v := 1) hx hb d_Mo_order_75 (by decide) ?_
                    refine lv_goto (tgt := 92) hx hb d_Mo_order_76 (by decide) ?_
                    refine va_put (D := D) (ci := 6) (v := .int 1) (ty := .int) (C := R_Mo) (T := T_Mo) (N := 24) hx hb hts hin_Mo ty_Mo tyok_Mo nm_Mo hown hK hP hD hS 0 rfl rfl 0 (by decide) (hts _ wd_704) (fun _ h9 => h9) rfl (by decide +kernel) rfl rfl (Nat.le_of_ble_eq_true rfl) d_Mo_order_92 (fun H locs hP hD hS => ?_)
                    have hP : va_P D vwCl [(g0, .inr (6, [.int 1, .int ar, .ref m_sea, .ref m_center, .ref m_home, .ref m_borders, .int mp, .int mt, .ref m_owner, .ref m_units, .ref m_kind, .ref m_toX, .ref m_toY, .ref m_results, .ref m_known, .ref m_reached, .ref m_way, .ref m_aside, .ref m_origin, .ref m_retreats, .ref m_contested, .ref m_moved, .int msh, .ref m_past]))] H := hP
                    have hD : va_D A [(g0, .inr (6, [.int 1, .int ar, .ref m_sea, .ref m_center, .ref m_home, .ref m_borders, .int mp, .int mt, .ref m_owner, .ref m_units, .ref m_kind, .ref m_toX, .ref m_toY, .ref m_results, .ref m_known, .ref m_reached, .ref m_way, .ref m_aside, .ref m_origin, .ref m_retreats, .ref m_contested, .ref m_moved, .int msh, .ref m_past]))] := hD
                    refine lv_aload_n hx hb d_Mo_order_95 rfl (lv_at hl 1 rfl) ?_
                    refine va_get (D := D) (ci := 6) (v := .int 1) (C := R_Mo) (T := T_Mo) (N := 24) hx hb hts hin_Mo hown hK hP 0 rfl rfl 0 (by decide) (hts _ wd_704) (fun _ h9 => h9) rfl d_Mo_order_96 ?_
                    refine lv_if_eq (tgt := 104) hx hb d_Mo_order_99 (by decide) (fun h0 => absurd h0 (by decide)) (fun _ => ?_)
                    refine lv_iconst (v := 0) hx hb d_Mo_order_102 (by decide) ?_
                    have hP9 := hP.sub (ws' := [(g0, .inr (6, [.int 1, .int ar, .ref m_sea, .ref m_center, .ref m_home, .ref m_borders, .int mp, .int mt, .ref m_owner, .ref m_units, .ref m_kind, .ref m_toX, .ref m_toY, .ref m_results, .ref m_known, .ref m_reached, .ref m_way, .ref m_aside, .ref m_origin, .ref m_retreats, .ref m_contested, .ref m_moved, .int msh, .ref m_past]))]) [0] rfl
                    have hD9 := hD.sub (ws' := [(g0, .inr (6, [.int 1, .int ar, .ref m_sea, .ref m_center, .ref m_home, .ref m_borders, .int mp, .int mt, .ref m_owner, .ref m_units, .ref m_kind, .ref m_toX, .ref m_toY, .ref m_results, .ref m_known, .ref m_reached, .ref m_way, .ref m_aside, .ref m_origin, .ref m_retreats, .ref m_contested, .ref m_moved, .int msh, .ref m_past]))]) [0] (by decide) rfl
                    exact W.iret (v := 0) hx hb hr (fun t ht hW => ⟨⟨0, (), rfl, rfl, by rw [ht]; exact hP9, hD9⟩, hS.F ht⟩) hS.2.2 d_Mo_order_103
                  · -- 67 not taken
                    refine lv_iload hx hb d_Mo_order_70 (lv_at hl 0 rfl) ?_
                    refine lv_if_ne (tgt := 79) hx hb d_Mo_order_72 (by decide) (fun _ => ?_) (fun h0 => absurd h0 (by decide))
                    exact absurd (by unfold okO; revert hc1 hc69 hq138 hc140 hc156 hq158 hq161 hc163 hc165; simp only [Int32.lt_iff_toInt_lt, Int32.le_iff_toInt_le, ← Int32.toInt_inj, Int32.reduceToInt, i32_m1]; omega) hno9
              · -- 55: false
                refine lv_if_eq (tgt := 75) hx hb d_Mo_order_58 (by decide) (fun _ => ?_) (fun h0 => absurd (by decide) h0)
                refine lv_iconst (v := 1) hx hb d_Mo_order_75 (by decide) ?_
                refine lv_goto (tgt := 92) hx hb d_Mo_order_76 (by decide) ?_
                refine va_put (D := D) (ci := 6) (v := .int 1) (ty := .int) (C := R_Mo) (T := T_Mo) (N := 24) hx hb hts hin_Mo ty_Mo tyok_Mo nm_Mo hown hK hP hD hS 0 rfl rfl 0 (by decide) (hts _ wd_704) (fun _ h9 => h9) rfl (by decide +kernel) rfl rfl (Nat.le_of_ble_eq_true rfl) d_Mo_order_92 (fun H locs hP hD hS => ?_)
                have hP : va_P D vwCl [(g0, .inr (6, [.int 1, .int ar, .ref m_sea, .ref m_center, .ref m_home, .ref m_borders, .int mp, .int mt, .ref m_owner, .ref m_units, .ref m_kind, .ref m_toX, .ref m_toY, .ref m_results, .ref m_known, .ref m_reached, .ref m_way, .ref m_aside, .ref m_origin, .ref m_retreats, .ref m_contested, .ref m_moved, .int msh, .ref m_past]))] H := hP
                have hD : va_D A [(g0, .inr (6, [.int 1, .int ar, .ref m_sea, .ref m_center, .ref m_home, .ref m_borders, .int mp, .int mt, .ref m_owner, .ref m_units, .ref m_kind, .ref m_toX, .ref m_toY, .ref m_results, .ref m_known, .ref m_reached, .ref m_way, .ref m_aside, .ref m_origin, .ref m_retreats, .ref m_contested, .ref m_moved, .int msh, .ref m_past]))] := hD
                refine lv_aload_n hx hb d_Mo_order_95 rfl (lv_at hl 1 rfl) ?_
                refine va_get (D := D) (ci := 6) (v := .int 1) (C := R_Mo) (T := T_Mo) (N := 24) hx hb hts hin_Mo hown hK hP 0 rfl rfl 0 (by decide) (hts _ wd_704) (fun _ h9 => h9) rfl d_Mo_order_96 ?_
                refine lv_if_eq (tgt := 104) hx hb d_Mo_order_99 (by decide) (fun h0 => absurd h0 (by decide)) (fun _ => ?_)
                refine lv_iconst (v := 0) hx hb d_Mo_order_102 (by decide) ?_
                have hP9 := hP.sub (ws' := [(g0, .inr (6, [.int 1, .int ar, .ref m_sea, .ref m_center, .ref m_home, .ref m_borders, .int mp, .int mt, .ref m_owner, .ref m_units, .ref m_kind, .ref m_toX, .ref m_toY, .ref m_results, .ref m_known, .ref m_reached, .ref m_way, .ref m_aside, .ref m_origin, .ref m_retreats, .ref m_contested, .ref m_moved, .int msh, .ref m_past]))]) [0] rfl
                have hD9 := hD.sub (ws' := [(g0, .inr (6, [.int 1, .int ar, .ref m_sea, .ref m_center, .ref m_home, .ref m_borders, .int mp, .int mt, .ref m_owner, .ref m_units, .ref m_kind, .ref m_toX, .ref m_toY, .ref m_results, .ref m_known, .ref m_reached, .ref m_way, .ref m_aside, .ref m_origin, .ref m_retreats, .ref m_contested, .ref m_moved, .int msh, .ref m_past]))]) [0] (by decide) rfl
                exact W.iret (v := 0) hx hb hr (fun t ht hW => ⟨⟨0, (), rfl, rfl, by rw [ht]; exact hP9, hD9⟩, hS.F ht⟩) hS.2.2 d_Mo_order_103
            · -- 47: false
              refine lv_if_eq (tgt := 75) hx hb d_Mo_order_50 (by decide) (fun _ => ?_) (fun h0 => absurd (by decide) h0)
              refine lv_iconst (v := 1) hx hb d_Mo_order_75 (by decide) ?_
              refine lv_goto (tgt := 92) hx hb d_Mo_order_76 (by decide) ?_
              refine va_put (D := D) (ci := 6) (v := .int 1) (ty := .int) (C := R_Mo) (T := T_Mo) (N := 24) hx hb hts hin_Mo ty_Mo tyok_Mo nm_Mo hown hK hP hD hS 0 rfl rfl 0 (by decide) (hts _ wd_704) (fun _ h9 => h9) rfl (by decide +kernel) rfl rfl (Nat.le_of_ble_eq_true rfl) d_Mo_order_92 (fun H locs hP hD hS => ?_)
              have hP : va_P D vwCl [(g0, .inr (6, [.int 1, .int ar, .ref m_sea, .ref m_center, .ref m_home, .ref m_borders, .int mp, .int mt, .ref m_owner, .ref m_units, .ref m_kind, .ref m_toX, .ref m_toY, .ref m_results, .ref m_known, .ref m_reached, .ref m_way, .ref m_aside, .ref m_origin, .ref m_retreats, .ref m_contested, .ref m_moved, .int msh, .ref m_past]))] H := hP
              have hD : va_D A [(g0, .inr (6, [.int 1, .int ar, .ref m_sea, .ref m_center, .ref m_home, .ref m_borders, .int mp, .int mt, .ref m_owner, .ref m_units, .ref m_kind, .ref m_toX, .ref m_toY, .ref m_results, .ref m_known, .ref m_reached, .ref m_way, .ref m_aside, .ref m_origin, .ref m_retreats, .ref m_contested, .ref m_moved, .int msh, .ref m_past]))] := hD
              refine lv_aload_n hx hb d_Mo_order_95 rfl (lv_at hl 1 rfl) ?_
              refine va_get (D := D) (ci := 6) (v := .int 1) (C := R_Mo) (T := T_Mo) (N := 24) hx hb hts hin_Mo hown hK hP 0 rfl rfl 0 (by decide) (hts _ wd_704) (fun _ h9 => h9) rfl d_Mo_order_96 ?_
              refine lv_if_eq (tgt := 104) hx hb d_Mo_order_99 (by decide) (fun h0 => absurd h0 (by decide)) (fun _ => ?_)
              refine lv_iconst (v := 0) hx hb d_Mo_order_102 (by decide) ?_
              have hP9 := hP.sub (ws' := [(g0, .inr (6, [.int 1, .int ar, .ref m_sea, .ref m_center, .ref m_home, .ref m_borders, .int mp, .int mt, .ref m_owner, .ref m_units, .ref m_kind, .ref m_toX, .ref m_toY, .ref m_results, .ref m_known, .ref m_reached, .ref m_way, .ref m_aside, .ref m_origin, .ref m_retreats, .ref m_contested, .ref m_moved, .int msh, .ref m_past]))]) [0] rfl
              have hD9 := hD.sub (ws' := [(g0, .inr (6, [.int 1, .int ar, .ref m_sea, .ref m_center, .ref m_home, .ref m_borders, .int mp, .int mt, .ref m_owner, .ref m_units, .ref m_kind, .ref m_toX, .ref m_toY, .ref m_results, .ref m_known, .ref m_reached, .ref m_way, .ref m_aside, .ref m_origin, .ref m_retreats, .ref m_contested, .ref m_moved, .int msh, .ref m_past]))]) [0] (by decide) rfl
              exact W.iret (v := 0) hx hb hr (fun t ht hW => ⟨⟨0, (), rfl, rfl, by rw [ht]; exact hP9, hD9⟩, hS.F ht⟩) hS.2.2 d_Mo_order_103
          · -- 26 not taken
            refine lv_aload_n hx hb d_Mo_order_29 rfl (lv_at hl 0 rfl) ?_
            refine lv_iload hx hb d_Mo_order_30 (lv_at hl 5 rfl) ?_
            have hPc := hP.sub (ws' := [(g0, .inr (6, [.int co, .int ar, .ref m_sea, .ref m_center, .ref m_home, .ref m_borders, .int mp, .int mt, .ref m_owner, .ref m_units, .ref m_kind, .ref m_toX, .ref m_toY, .ref m_results, .ref m_known, .ref m_reached, .ref m_way, .ref m_aside, .ref m_origin, .ref m_retreats, .ref m_contested, .ref m_moved, .int msh, .ref m_past]))]) [0] rfl
            refine vp_callSi (va_Run.run (va_runV (As := [.int y]) (rest := []) ⟨hx, hb, hml, hown, hts⟩ (c_Mo_isArea l D cI cZ cJ cS aT ceT  g0 m_sea m_center m_home m_borders m_owner m_units m_kind m_toX m_toY m_results m_known m_reached m_way m_aside m_origin m_retreats m_contested m_moved m_past co ar mp mt msh y ) (cwV 1 hts (tb_4 wd_790 wd_792 wp_36 wd_8 (tb_c wd_793)) rfl rfl rfl ⟨rfl, by decide, by decide, by decide +kernel⟩ ⟨Nat.le_of_ble_eq_true rfl, Nat.le_of_ble_eq_true rfl⟩) (tP_V hK hX (hS.2.1 aT hXl hXn) hPc (q := 0) rfl rfl) rfl rfl hl.1 rfl (lv_room (Nat.le_of_ble_eq_true rfl)) d_Mo_order_32 ⟨Nat.le_of_ble_eq_true rfl, Nat.le_of_ble_eq_true rfl⟩)) (fun r172 hr9 => ?_)
            rcases hr9 with ⟨rfl, hq173⟩ | ⟨rfl, hq173⟩
            · -- 32: true
              refine lv_if_eq (tgt := 42) hx hb d_Mo_order_35 (by decide) (fun h0 => absurd h0 (by decide)) (fun _ => ?_)
              refine lv_iconst (v := 1) hx hb d_Mo_order_38 (by decide) ?_
              refine lv_goto (tgt := 43) hx hb d_Mo_order_39 (by decide) ?_
              refine lv_istore (lv' := [(6, .int 1), (0, .ref g0), (1, .int pl), (2, .int a), (3, .int k), (4, .int x), (5, .int y)]) hx hb d_Mo_order_43 hl (by decide) rfl (fun ls hl => ?_)
              refine lv_aload_n hx hb d_Mo_order_45 rfl (lv_at hl 1 rfl) ?_
              refine lv_iload_n hx hb d_Mo_order_46 rfl (lv_at hl 2 rfl) ?_
              have hPc := hP.sub (ws' := []) [] rfl
              refine vp_callSi (va_Run.run (va_runS (As := [.int pl]) (rest := [.ref g0]) ⟨hx, hb, hml, hown, hts⟩ (c_Mo_isPlayer l D cI cZ cJ cS aT ceT  pl ) (va_cwS 1 hts (tb_3 wd_802 wd_803 wd_8 (tb_c wd_804)) rfl rfl rfl ⟨by decide, by decide, by decide +kernel⟩ ⟨Nat.le_of_ble_eq_true rfl, Nat.le_of_ble_eq_true rfl⟩) (tP_S hK hX (hS.2.1 aT hXl hXn) hPc) rfl rfl hl.1 rfl (lv_room (Nat.le_of_ble_eq_true rfl)) d_Mo_order_47 ⟨Nat.le_of_ble_eq_true rfl, Nat.le_of_ble_eq_true rfl⟩)) (fun r175 hr9 => ?_)
              rcases hr9 with ⟨rfl, hq176⟩ | ⟨rfl, hq176⟩
              · -- 47: true
                refine lv_if_eq (tgt := 75) hx hb d_Mo_order_50 (by decide) (fun h0 => absurd h0 (by decide)) (fun _ => ?_)
                refine lv_aload_n hx hb d_Mo_order_53 rfl (lv_at hl 1 rfl) ?_
                refine lv_iload_n hx hb d_Mo_order_54 rfl (lv_at hl 3 rfl) ?_
                have hPc := hP.sub (ws' := [(g0, .inr (6, [.int co, .int ar, .ref m_sea, .ref m_center, .ref m_home, .ref m_borders, .int mp, .int mt, .ref m_owner, .ref m_units, .ref m_kind, .ref m_toX, .ref m_toY, .ref m_results, .ref m_known, .ref m_reached, .ref m_way, .ref m_aside, .ref m_origin, .ref m_retreats, .ref m_contested, .ref m_moved, .int msh, .ref m_past]))]) [0] rfl
                refine vp_callSi (va_Run.run (va_runV (As := [.int a]) (rest := [.ref g0]) ⟨hx, hb, hml, hown, hts⟩ (c_Mo_isArea l D cI cZ cJ cS aT ceT  g0 m_sea m_center m_home m_borders m_owner m_units m_kind m_toX m_toY m_results m_known m_reached m_way m_aside m_origin m_retreats m_contested m_moved m_past co ar mp mt msh a ) (cwV 1 hts (tb_4 wd_790 wd_792 wp_36 wd_8 (tb_c wd_793)) rfl rfl rfl ⟨rfl, by decide, by decide, by decide +kernel⟩ ⟨Nat.le_of_ble_eq_true rfl, Nat.le_of_ble_eq_true rfl⟩) (tP_V hK hX (hS.2.1 aT hXl hXn) hPc (q := 0) rfl rfl) rfl rfl hl.1 rfl (lv_room (Nat.le_of_ble_eq_true rfl)) d_Mo_order_55 ⟨Nat.le_of_ble_eq_true rfl, Nat.le_of_ble_eq_true rfl⟩)) (fun r178 hr9 => ?_)
                rcases hr9 with ⟨rfl, hq179⟩ | ⟨rfl, hq179⟩
                · -- 55: true
                  refine lv_if_eq (tgt := 75) hx hb d_Mo_order_58 (by decide) (fun h0 => absurd h0 (by decide)) (fun _ => ?_)
                  refine lv_iload_n hx hb d_Mo_order_61 rfl (lv_at hl 4 rfl) ?_
                  refine lv_if_lt (tgt := 75) hx hb d_Mo_order_62 (by decide) (fun hc181 => ?_) (fun hc181 => ?_)
                  · -- 62 taken
                    refine lv_iconst (v := 1) hx hb d_Mo_order_75 (by decide) ?_
                    refine lv_goto (tgt := 92) hx hb d_Mo_order_76 (by decide) ?_
                    refine va_put (D := D) (ci := 6) (v := .int 1) (ty := .int) (C := R_Mo) (T := T_Mo) (N := 24) hx hb hts hin_Mo ty_Mo tyok_Mo nm_Mo hown hK hP hD hS 0 rfl rfl 0 (by decide) (hts _ wd_704) (fun _ h9 => h9) rfl (by decide +kernel) rfl rfl (Nat.le_of_ble_eq_true rfl) d_Mo_order_92 (fun H locs hP hD hS => ?_)
                    have hP : va_P D vwCl [(g0, .inr (6, [.int 1, .int ar, .ref m_sea, .ref m_center, .ref m_home, .ref m_borders, .int mp, .int mt, .ref m_owner, .ref m_units, .ref m_kind, .ref m_toX, .ref m_toY, .ref m_results, .ref m_known, .ref m_reached, .ref m_way, .ref m_aside, .ref m_origin, .ref m_retreats, .ref m_contested, .ref m_moved, .int msh, .ref m_past]))] H := hP
                    have hD : va_D A [(g0, .inr (6, [.int 1, .int ar, .ref m_sea, .ref m_center, .ref m_home, .ref m_borders, .int mp, .int mt, .ref m_owner, .ref m_units, .ref m_kind, .ref m_toX, .ref m_toY, .ref m_results, .ref m_known, .ref m_reached, .ref m_way, .ref m_aside, .ref m_origin, .ref m_retreats, .ref m_contested, .ref m_moved, .int msh, .ref m_past]))] := hD
                    refine lv_aload_n hx hb d_Mo_order_95 rfl (lv_at hl 1 rfl) ?_
                    refine va_get (D := D) (ci := 6) (v := .int 1) (C := R_Mo) (T := T_Mo) (N := 24) hx hb hts hin_Mo hown hK hP 0 rfl rfl 0 (by decide) (hts _ wd_704) (fun _ h9 => h9) rfl d_Mo_order_96 ?_
                    refine lv_if_eq (tgt := 104) hx hb d_Mo_order_99 (by decide) (fun h0 => absurd h0 (by decide)) (fun _ => ?_)
                    refine lv_iconst (v := 0) hx hb d_Mo_order_102 (by decide) ?_
                    have hP9 := hP.sub (ws' := [(g0, .inr (6, [.int 1, .int ar, .ref m_sea, .ref m_center, .ref m_home, .ref m_borders, .int mp, .int mt, .ref m_owner, .ref m_units, .ref m_kind, .ref m_toX, .ref m_toY, .ref m_results, .ref m_known, .ref m_reached, .ref m_way, .ref m_aside, .ref m_origin, .ref m_retreats, .ref m_contested, .ref m_moved, .int msh, .ref m_past]))]) [0] rfl
                    have hD9 := hD.sub (ws' := [(g0, .inr (6, [.int 1, .int ar, .ref m_sea, .ref m_center, .ref m_home, .ref m_borders, .int mp, .int mt, .ref m_owner, .ref m_units, .ref m_kind, .ref m_toX, .ref m_toY, .ref m_results, .ref m_known, .ref m_reached, .ref m_way, .ref m_aside, .ref m_origin, .ref m_retreats, .ref m_contested, .ref m_moved, .int msh, .ref m_past]))]) [0] (by decide) rfl
                    exact W.iret (v := 0) hx hb hr (fun t ht hW => ⟨⟨0, (), rfl, rfl, by rw [ht]; exact hP9, hD9⟩, hS.F ht⟩) hS.2.2 d_Mo_order_103
                  · -- 62 not taken
                    refine lv_iload_n hx hb d_Mo_order_65 rfl (lv_at hl 4 rfl) ?_
                    refine lv_iconst (v := 3) hx hb d_Mo_order_66 (by decide) ?_
                    refine lv_icmp_gt (tgt := 75) hx hb d_Mo_order_67 (by decide) (fun hc183 => ?_) (fun hc183 => ?_)
                    · -- 67 taken
                      refine lv_iconst (v := 1) hx hb d_Mo_order_75 (by decide) ?_
                      refine lv_goto (tgt := 92) hx hb d_Mo_order_76 (by decide) ?_
                      refine va_put (D := D) (ci := 6) (v := .int 1) (ty := .int) (C := R_Mo) (T := T_Mo) (N := 24) hx hb hts hin_Mo ty_Mo tyok_Mo nm_Mo hown hK hP hD hS 0 rfl rfl 0 (by decide) (hts _ wd_704) (fun _ h9 => h9) rfl (by decide +kernel) rfl rfl (Nat.le_of_ble_eq_true rfl) d_Mo_order_92 (fun H locs hP hD hS => ?_)
                      have hP : va_P D vwCl [(g0, .inr (6, [.int 1, .int ar, .ref m_sea, .ref m_center, .ref m_home, .ref m_borders, .int mp, .int mt, .ref m_owner, .ref m_units, .ref m_kind, .ref m_toX, .ref m_toY, .ref m_results, .ref m_known, .ref m_reached, .ref m_way, .ref m_aside, .ref m_origin, .ref m_retreats, .ref m_contested, .ref m_moved, .int msh, .ref m_past]))] H := hP
                      have hD : va_D A [(g0, .inr (6, [.int 1, .int ar, .ref m_sea, .ref m_center, .ref m_home, .ref m_borders, .int mp, .int mt, .ref m_owner, .ref m_units, .ref m_kind, .ref m_toX, .ref m_toY, .ref m_results, .ref m_known, .ref m_reached, .ref m_way, .ref m_aside, .ref m_origin, .ref m_retreats, .ref m_contested, .ref m_moved, .int msh, .ref m_past]))] := hD
                      refine lv_aload_n hx hb d_Mo_order_95 rfl (lv_at hl 1 rfl) ?_
                      refine va_get (D := D) (ci := 6) (v := .int 1) (C := R_Mo) (T := T_Mo) (N := 24) hx hb hts hin_Mo hown hK hP 0 rfl rfl 0 (by decide) (hts _ wd_704) (fun _ h9 => h9) rfl d_Mo_order_96 ?_
                      refine lv_if_eq (tgt := 104) hx hb d_Mo_order_99 (by decide) (fun h0 => absurd h0 (by decide)) (fun _ => ?_)
                      refine lv_iconst (v := 0) hx hb d_Mo_order_102 (by decide) ?_
                      have hP9 := hP.sub (ws' := [(g0, .inr (6, [.int 1, .int ar, .ref m_sea, .ref m_center, .ref m_home, .ref m_borders, .int mp, .int mt, .ref m_owner, .ref m_units, .ref m_kind, .ref m_toX, .ref m_toY, .ref m_results, .ref m_known, .ref m_reached, .ref m_way, .ref m_aside, .ref m_origin, .ref m_retreats, .ref m_contested, .ref m_moved, .int msh, .ref m_past]))]) [0] rfl
                      have hD9 := hD.sub (ws' := [(g0, .inr (6, [.int 1, .int ar, .ref m_sea, .ref m_center, .ref m_home, .ref m_borders, .int mp, .int mt, .ref m_owner, .ref m_units, .ref m_kind, .ref m_toX, .ref m_toY, .ref m_results, .ref m_known, .ref m_reached, .ref m_way, .ref m_aside, .ref m_origin, .ref m_retreats, .ref m_contested, .ref m_moved, .int msh, .ref m_past]))]) [0] (by decide) rfl
                      exact W.iret (v := 0) hx hb hr (fun t ht hW => ⟨⟨0, (), rfl, rfl, by rw [ht]; exact hP9, hD9⟩, hS.F ht⟩) hS.2.2 d_Mo_order_103
                    · -- 67 not taken
                      refine lv_iload hx hb d_Mo_order_70 (lv_at hl 0 rfl) ?_
                      refine lv_if_ne (tgt := 79) hx hb d_Mo_order_72 (by decide) (fun _ => ?_) (fun h0 => absurd h0 (by decide))
                      exact absurd (by unfold okO; revert hc1 hc69 hq138 hc140 hc156 hq173 hq176 hq179 hc181 hc183; simp only [Int32.lt_iff_toInt_lt, Int32.le_iff_toInt_le, ← Int32.toInt_inj, Int32.reduceToInt, i32_m1]; omega) hno9
                · -- 55: false
                  refine lv_if_eq (tgt := 75) hx hb d_Mo_order_58 (by decide) (fun _ => ?_) (fun h0 => absurd (by decide) h0)
                  refine lv_iconst (v := 1) hx hb d_Mo_order_75 (by decide) ?_
                  refine lv_goto (tgt := 92) hx hb d_Mo_order_76 (by decide) ?_
                  refine va_put (D := D) (ci := 6) (v := .int 1) (ty := .int) (C := R_Mo) (T := T_Mo) (N := 24) hx hb hts hin_Mo ty_Mo tyok_Mo nm_Mo hown hK hP hD hS 0 rfl rfl 0 (by decide) (hts _ wd_704) (fun _ h9 => h9) rfl (by decide +kernel) rfl rfl (Nat.le_of_ble_eq_true rfl) d_Mo_order_92 (fun H locs hP hD hS => ?_)
                  have hP : va_P D vwCl [(g0, .inr (6, [.int 1, .int ar, .ref m_sea, .ref m_center, .ref m_home, .ref m_borders, .int mp, .int mt, .ref m_owner, .ref m_units, .ref m_kind, .ref m_toX, .ref m_toY, .ref m_results, .ref m_known, .ref m_reached, .ref m_way, .ref m_aside, .ref m_origin, .ref m_retreats, .ref m_contested, .ref m_moved, .int msh, .ref m_past]))] H := hP
                  have hD : va_D A [(g0, .inr (6, [.int 1, .int ar, .ref m_sea, .ref m_center, .ref m_home, .ref m_borders, .int mp, .int mt, .ref m_owner, .ref m_units, .ref m_kind, .ref m_toX, .ref m_toY, .ref m_results, .ref m_known, .ref m_reached, .ref m_way, .ref m_aside, .ref m_origin, .ref m_retreats, .ref m_contested, .ref m_moved, .int msh, .ref m_past]))] := hD
                  refine lv_aload_n hx hb d_Mo_order_95 rfl (lv_at hl 1 rfl) ?_
                  refine va_get (D := D) (ci := 6) (v := .int 1) (C := R_Mo) (T := T_Mo) (N := 24) hx hb hts hin_Mo hown hK hP 0 rfl rfl 0 (by decide) (hts _ wd_704) (fun _ h9 => h9) rfl d_Mo_order_96 ?_
                  refine lv_if_eq (tgt := 104) hx hb d_Mo_order_99 (by decide) (fun h0 => absurd h0 (by decide)) (fun _ => ?_)
                  refine lv_iconst (v := 0) hx hb d_Mo_order_102 (by decide) ?_
                  have hP9 := hP.sub (ws' := [(g0, .inr (6, [.int 1, .int ar, .ref m_sea, .ref m_center, .ref m_home, .ref m_borders, .int mp, .int mt, .ref m_owner, .ref m_units, .ref m_kind, .ref m_toX, .ref m_toY, .ref m_results, .ref m_known, .ref m_reached, .ref m_way, .ref m_aside, .ref m_origin, .ref m_retreats, .ref m_contested, .ref m_moved, .int msh, .ref m_past]))]) [0] rfl
                  have hD9 := hD.sub (ws' := [(g0, .inr (6, [.int 1, .int ar, .ref m_sea, .ref m_center, .ref m_home, .ref m_borders, .int mp, .int mt, .ref m_owner, .ref m_units, .ref m_kind, .ref m_toX, .ref m_toY, .ref m_results, .ref m_known, .ref m_reached, .ref m_way, .ref m_aside, .ref m_origin, .ref m_retreats, .ref m_contested, .ref m_moved, .int msh, .ref m_past]))]) [0] (by decide) rfl
                  exact W.iret (v := 0) hx hb hr (fun t ht hW => ⟨⟨0, (), rfl, rfl, by rw [ht]; exact hP9, hD9⟩, hS.F ht⟩) hS.2.2 d_Mo_order_103
              · -- 47: false
                refine lv_if_eq (tgt := 75) hx hb d_Mo_order_50 (by decide) (fun _ => ?_) (fun h0 => absurd (by decide) h0)
                refine lv_iconst (v := 1) hx hb d_Mo_order_75 (by decide) ?_
                refine lv_goto (tgt := 92) hx hb d_Mo_order_76 (by decide) ?_
                refine va_put (D := D) (ci := 6) (v := .int 1) (ty := .int) (C := R_Mo) (T := T_Mo) (N := 24) hx hb hts hin_Mo ty_Mo tyok_Mo nm_Mo hown hK hP hD hS 0 rfl rfl 0 (by decide) (hts _ wd_704) (fun _ h9 => h9) rfl (by decide +kernel) rfl rfl (Nat.le_of_ble_eq_true rfl) d_Mo_order_92 (fun H locs hP hD hS => ?_)
                have hP : va_P D vwCl [(g0, .inr (6, [.int 1, .int ar, .ref m_sea, .ref m_center, .ref m_home, .ref m_borders, .int mp, .int mt, .ref m_owner, .ref m_units, .ref m_kind, .ref m_toX, .ref m_toY, .ref m_results, .ref m_known, .ref m_reached, .ref m_way, .ref m_aside, .ref m_origin, .ref m_retreats, .ref m_contested, .ref m_moved, .int msh, .ref m_past]))] H := hP
                have hD : va_D A [(g0, .inr (6, [.int 1, .int ar, .ref m_sea, .ref m_center, .ref m_home, .ref m_borders, .int mp, .int mt, .ref m_owner, .ref m_units, .ref m_kind, .ref m_toX, .ref m_toY, .ref m_results, .ref m_known, .ref m_reached, .ref m_way, .ref m_aside, .ref m_origin, .ref m_retreats, .ref m_contested, .ref m_moved, .int msh, .ref m_past]))] := hD
                refine lv_aload_n hx hb d_Mo_order_95 rfl (lv_at hl 1 rfl) ?_
                refine va_get (D := D) (ci := 6) (v := .int 1) (C := R_Mo) (T := T_Mo) (N := 24) hx hb hts hin_Mo hown hK hP 0 rfl rfl 0 (by decide) (hts _ wd_704) (fun _ h9 => h9) rfl d_Mo_order_96 ?_
                refine lv_if_eq (tgt := 104) hx hb d_Mo_order_99 (by decide) (fun h0 => absurd h0 (by decide)) (fun _ => ?_)
                refine lv_iconst (v := 0) hx hb d_Mo_order_102 (by decide) ?_
                have hP9 := hP.sub (ws' := [(g0, .inr (6, [.int 1, .int ar, .ref m_sea, .ref m_center, .ref m_home, .ref m_borders, .int mp, .int mt, .ref m_owner, .ref m_units, .ref m_kind, .ref m_toX, .ref m_toY, .ref m_results, .ref m_known, .ref m_reached, .ref m_way, .ref m_aside, .ref m_origin, .ref m_retreats, .ref m_contested, .ref m_moved, .int msh, .ref m_past]))]) [0] rfl
                have hD9 := hD.sub (ws' := [(g0, .inr (6, [.int 1, .int ar, .ref m_sea, .ref m_center, .ref m_home, .ref m_borders, .int mp, .int mt, .ref m_owner, .ref m_units, .ref m_kind, .ref m_toX, .ref m_toY, .ref m_results, .ref m_known, .ref m_reached, .ref m_way, .ref m_aside, .ref m_origin, .ref m_retreats, .ref m_contested, .ref m_moved, .int msh, .ref m_past]))]) [0] (by decide) rfl
                exact W.iret (v := 0) hx hb hr (fun t ht hW => ⟨⟨0, (), rfl, rfl, by rw [ht]; exact hP9, hD9⟩, hS.F ht⟩) hS.2.2 d_Mo_order_103
            · -- 32: false
              refine lv_if_eq (tgt := 42) hx hb d_Mo_order_35 (by decide) (fun _ => ?_) (fun h0 => absurd (by decide) h0)
              refine lv_iconst (v := 0) hx hb d_Mo_order_42 (by decide) ?_
              refine lv_istore (lv' := [(6, .int 0), (0, .ref g0), (1, .int pl), (2, .int a), (3, .int k), (4, .int x), (5, .int y)]) hx hb d_Mo_order_43 hl (by decide) rfl (fun ls hl => ?_)
              refine lv_aload_n hx hb d_Mo_order_45 rfl (lv_at hl 1 rfl) ?_
              refine lv_iload_n hx hb d_Mo_order_46 rfl (lv_at hl 2 rfl) ?_
              have hPc := hP.sub (ws' := []) [] rfl
              refine vp_callSi (va_Run.run (va_runS (As := [.int pl]) (rest := [.ref g0]) ⟨hx, hb, hml, hown, hts⟩ (c_Mo_isPlayer l D cI cZ cJ cS aT ceT  pl ) (va_cwS 1 hts (tb_3 wd_802 wd_803 wd_8 (tb_c wd_804)) rfl rfl rfl ⟨by decide, by decide, by decide +kernel⟩ ⟨Nat.le_of_ble_eq_true rfl, Nat.le_of_ble_eq_true rfl⟩) (tP_S hK hX (hS.2.1 aT hXl hXn) hPc) rfl rfl hl.1 rfl (lv_room (Nat.le_of_ble_eq_true rfl)) d_Mo_order_47 ⟨Nat.le_of_ble_eq_true rfl, Nat.le_of_ble_eq_true rfl⟩)) (fun r191 hr9 => ?_)
              rcases hr9 with ⟨rfl, hq192⟩ | ⟨rfl, hq192⟩
              · -- 47: true
                refine lv_if_eq (tgt := 75) hx hb d_Mo_order_50 (by decide) (fun h0 => absurd h0 (by decide)) (fun _ => ?_)
                refine lv_aload_n hx hb d_Mo_order_53 rfl (lv_at hl 1 rfl) ?_
                refine lv_iload_n hx hb d_Mo_order_54 rfl (lv_at hl 3 rfl) ?_
                have hPc := hP.sub (ws' := [(g0, .inr (6, [.int co, .int ar, .ref m_sea, .ref m_center, .ref m_home, .ref m_borders, .int mp, .int mt, .ref m_owner, .ref m_units, .ref m_kind, .ref m_toX, .ref m_toY, .ref m_results, .ref m_known, .ref m_reached, .ref m_way, .ref m_aside, .ref m_origin, .ref m_retreats, .ref m_contested, .ref m_moved, .int msh, .ref m_past]))]) [0] rfl
                refine vp_callSi (va_Run.run (va_runV (As := [.int a]) (rest := [.ref g0]) ⟨hx, hb, hml, hown, hts⟩ (c_Mo_isArea l D cI cZ cJ cS aT ceT  g0 m_sea m_center m_home m_borders m_owner m_units m_kind m_toX m_toY m_results m_known m_reached m_way m_aside m_origin m_retreats m_contested m_moved m_past co ar mp mt msh a ) (cwV 1 hts (tb_4 wd_790 wd_792 wp_36 wd_8 (tb_c wd_793)) rfl rfl rfl ⟨rfl, by decide, by decide, by decide +kernel⟩ ⟨Nat.le_of_ble_eq_true rfl, Nat.le_of_ble_eq_true rfl⟩) (tP_V hK hX (hS.2.1 aT hXl hXn) hPc (q := 0) rfl rfl) rfl rfl hl.1 rfl (lv_room (Nat.le_of_ble_eq_true rfl)) d_Mo_order_55 ⟨Nat.le_of_ble_eq_true rfl, Nat.le_of_ble_eq_true rfl⟩)) (fun r194 hr9 => ?_)
                rcases hr9 with ⟨rfl, hq195⟩ | ⟨rfl, hq195⟩
                · -- 55: true
                  refine lv_if_eq (tgt := 75) hx hb d_Mo_order_58 (by decide) (fun h0 => absurd h0 (by decide)) (fun _ => ?_)
                  refine lv_iload_n hx hb d_Mo_order_61 rfl (lv_at hl 4 rfl) ?_
                  refine lv_if_lt (tgt := 75) hx hb d_Mo_order_62 (by decide) (fun hc197 => ?_) (fun hc197 => ?_)
                  · -- 62 taken
                    refine lv_iconst (v := 1) hx hb d_Mo_order_75 (by decide) ?_
                    refine lv_goto (tgt := 92) hx hb d_Mo_order_76 (by decide) ?_
                    refine va_put (D := D) (ci := 6) (v := .int 1) (ty := .int) (C := R_Mo) (T := T_Mo) (N := 24) hx hb hts hin_Mo ty_Mo tyok_Mo nm_Mo hown hK hP hD hS 0 rfl rfl 0 (by decide) (hts _ wd_704) (fun _ h9 => h9) rfl (by decide +kernel) rfl rfl (Nat.le_of_ble_eq_true rfl) d_Mo_order_92 (fun H locs hP hD hS => ?_)
                    have hP : va_P D vwCl [(g0, .inr (6, [.int 1, .int ar, .ref m_sea, .ref m_center, .ref m_home, .ref m_borders, .int mp, .int mt, .ref m_owner, .ref m_units, .ref m_kind, .ref m_toX, .ref m_toY, .ref m_results, .ref m_known, .ref m_reached, .ref m_way, .ref m_aside, .ref m_origin, .ref m_retreats, .ref m_contested, .ref m_moved, .int msh, .ref m_past]))] H := hP
                    have hD : va_D A [(g0, .inr (6, [.int 1, .int ar, .ref m_sea, .ref m_center, .ref m_home, .ref m_borders, .int mp, .int mt, .ref m_owner, .ref m_units, .ref m_kind, .ref m_toX, .ref m_toY, .ref m_results, .ref m_known, .ref m_reached, .ref m_way, .ref m_aside, .ref m_origin, .ref m_retreats, .ref m_contested, .ref m_moved, .int msh, .ref m_past]))] := hD
                    refine lv_aload_n hx hb d_Mo_order_95 rfl (lv_at hl 1 rfl) ?_
                    refine va_get (D := D) (ci := 6) (v := .int 1) (C := R_Mo) (T := T_Mo) (N := 24) hx hb hts hin_Mo hown hK hP 0 rfl rfl 0 (by decide) (hts _ wd_704) (fun _ h9 => h9) rfl d_Mo_order_96 ?_
                    refine lv_if_eq (tgt := 104) hx hb d_Mo_order_99 (by decide) (fun h0 => absurd h0 (by decide)) (fun _ => ?_)
                    refine lv_iconst (v := 0) hx hb d_Mo_order_102 (by decide) ?_
                    have hP9 := hP.sub (ws' := [(g0, .inr (6, [.int 1, .int ar, .ref m_sea, .ref m_center, .ref m_home, .ref m_borders, .int mp, .int mt, .ref m_owner, .ref m_units, .ref m_kind, .ref m_toX, .ref m_toY, .ref m_results, .ref m_known, .ref m_reached, .ref m_way, .ref m_aside, .ref m_origin, .ref m_retreats, .ref m_contested, .ref m_moved, .int msh, .ref m_past]))]) [0] rfl
                    have hD9 := hD.sub (ws' := [(g0, .inr (6, [.int 1, .int ar, .ref m_sea, .ref m_center, .ref m_home, .ref m_borders, .int mp, .int mt, .ref m_owner, .ref m_units, .ref m_kind, .ref m_toX, .ref m_toY, .ref m_results, .ref m_known, .ref m_reached, .ref m_way, .ref m_aside, .ref m_origin, .ref m_retreats, .ref m_contested, .ref m_moved, .int msh, .ref m_past]))]) [0] (by decide) rfl
                    exact W.iret (v := 0) hx hb hr (fun t ht hW => ⟨⟨0, (), rfl, rfl, by rw [ht]; exact hP9, hD9⟩, hS.F ht⟩) hS.2.2 d_Mo_order_103
                  · -- 62 not taken
                    refine lv_iload_n hx hb d_Mo_order_65 rfl (lv_at hl 4 rfl) ?_
                    refine lv_iconst (v := 3) hx hb d_Mo_order_66 (by decide) ?_
                    refine lv_icmp_gt (tgt := 75) hx hb d_Mo_order_67 (by decide) (fun hc199 => ?_) (fun hc199 => ?_)
                    · -- 67 taken
                      refine lv_iconst (v := 1) hx hb d_Mo_order_75 (by decide) ?_
                      refine lv_goto (tgt := 92) hx hb d_Mo_order_76 (by decide) ?_
                      refine va_put (D := D) (ci := 6) (v := .int 1) (ty := .int) (C := R_Mo) (T := T_Mo) (N := 24) hx hb hts hin_Mo ty_Mo tyok_Mo nm_Mo hown hK hP hD hS 0 rfl rfl 0 (by decide) (hts _ wd_704) (fun _ h9 => h9) rfl (by decide +kernel) rfl rfl (Nat.le_of_ble_eq_true rfl) d_Mo_order_92 (fun H locs hP hD hS => ?_)
                      have hP : va_P D vwCl [(g0, .inr (6, [.int 1, .int ar, .ref m_sea, .ref m_center, .ref m_home, .ref m_borders, .int mp, .int mt, .ref m_owner, .ref m_units, .ref m_kind, .ref m_toX, .ref m_toY, .ref m_results, .ref m_known, .ref m_reached, .ref m_way, .ref m_aside, .ref m_origin, .ref m_retreats, .ref m_contested, .ref m_moved, .int msh, .ref m_past]))] H := hP
                      have hD : va_D A [(g0, .inr (6, [.int 1, .int ar, .ref m_sea, .ref m_center, .ref m_home, .ref m_borders, .int mp, .int mt, .ref m_owner, .ref m_units, .ref m_kind, .ref m_toX, .ref m_toY, .ref m_results, .ref m_known, .ref m_reached, .ref m_way, .ref m_aside, .ref m_origin, .ref m_retreats, .ref m_contested, .ref m_moved, .int msh, .ref m_past]))] := hD
                      refine lv_aload_n hx hb d_Mo_order_95 rfl (lv_at hl 1 rfl) ?_
                      refine va_get (D := D) (ci := 6) (v := .int 1) (C := R_Mo) (T := T_Mo) (N := 24) hx hb hts hin_Mo hown hK hP 0 rfl rfl 0 (by decide) (hts _ wd_704) (fun _ h9 => h9) rfl d_Mo_order_96 ?_
                      refine lv_if_eq (tgt := 104) hx hb d_Mo_order_99 (by decide) (fun h0 => absurd h0 (by decide)) (fun _ => ?_)
                      refine lv_iconst (v := 0) hx hb d_Mo_order_102 (by decide) ?_
                      have hP9 := hP.sub (ws' := [(g0, .inr (6, [.int 1, .int ar, .ref m_sea, .ref m_center, .ref m_home, .ref m_borders, .int mp, .int mt, .ref m_owner, .ref m_units, .ref m_kind, .ref m_toX, .ref m_toY, .ref m_results, .ref m_known, .ref m_reached, .ref m_way, .ref m_aside, .ref m_origin, .ref m_retreats, .ref m_contested, .ref m_moved, .int msh, .ref m_past]))]) [0] rfl
                      have hD9 := hD.sub (ws' := [(g0, .inr (6, [.int 1, .int ar, .ref m_sea, .ref m_center, .ref m_home, .ref m_borders, .int mp, .int mt, .ref m_owner, .ref m_units, .ref m_kind, .ref m_toX, .ref m_toY, .ref m_results, .ref m_known, .ref m_reached, .ref m_way, .ref m_aside, .ref m_origin, .ref m_retreats, .ref m_contested, .ref m_moved, .int msh, .ref m_past]))]) [0] (by decide) rfl
                      exact W.iret (v := 0) hx hb hr (fun t ht hW => ⟨⟨0, (), rfl, rfl, by rw [ht]; exact hP9, hD9⟩, hS.F ht⟩) hS.2.2 d_Mo_order_103
                    · -- 67 not taken
                      refine lv_iload hx hb d_Mo_order_70 (lv_at hl 0 rfl) ?_
                      refine lv_if_ne (tgt := 79) hx hb d_Mo_order_72 (by decide) (fun h0 => absurd (by decide) h0) (fun _ => ?_)
                      refine lv_iconst (v := 1) hx hb d_Mo_order_75 (by decide) ?_
                      refine lv_goto (tgt := 92) hx hb d_Mo_order_76 (by decide) ?_
                      refine va_put (D := D) (ci := 6) (v := .int 1) (ty := .int) (C := R_Mo) (T := T_Mo) (N := 24) hx hb hts hin_Mo ty_Mo tyok_Mo nm_Mo hown hK hP hD hS 0 rfl rfl 0 (by decide) (hts _ wd_704) (fun _ h9 => h9) rfl (by decide +kernel) rfl rfl (Nat.le_of_ble_eq_true rfl) d_Mo_order_92 (fun H locs hP hD hS => ?_)
                      have hP : va_P D vwCl [(g0, .inr (6, [.int 1, .int ar, .ref m_sea, .ref m_center, .ref m_home, .ref m_borders, .int mp, .int mt, .ref m_owner, .ref m_units, .ref m_kind, .ref m_toX, .ref m_toY, .ref m_results, .ref m_known, .ref m_reached, .ref m_way, .ref m_aside, .ref m_origin, .ref m_retreats, .ref m_contested, .ref m_moved, .int msh, .ref m_past]))] H := hP
                      have hD : va_D A [(g0, .inr (6, [.int 1, .int ar, .ref m_sea, .ref m_center, .ref m_home, .ref m_borders, .int mp, .int mt, .ref m_owner, .ref m_units, .ref m_kind, .ref m_toX, .ref m_toY, .ref m_results, .ref m_known, .ref m_reached, .ref m_way, .ref m_aside, .ref m_origin, .ref m_retreats, .ref m_contested, .ref m_moved, .int msh, .ref m_past]))] := hD
                      refine lv_aload_n hx hb d_Mo_order_95 rfl (lv_at hl 1 rfl) ?_
                      refine va_get (D := D) (ci := 6) (v := .int 1) (C := R_Mo) (T := T_Mo) (N := 24) hx hb hts hin_Mo hown hK hP 0 rfl rfl 0 (by decide) (hts _ wd_704) (fun _ h9 => h9) rfl d_Mo_order_96 ?_
                      refine lv_if_eq (tgt := 104) hx hb d_Mo_order_99 (by decide) (fun h0 => absurd h0 (by decide)) (fun _ => ?_)
                      refine lv_iconst (v := 0) hx hb d_Mo_order_102 (by decide) ?_
                      have hP9 := hP.sub (ws' := [(g0, .inr (6, [.int 1, .int ar, .ref m_sea, .ref m_center, .ref m_home, .ref m_borders, .int mp, .int mt, .ref m_owner, .ref m_units, .ref m_kind, .ref m_toX, .ref m_toY, .ref m_results, .ref m_known, .ref m_reached, .ref m_way, .ref m_aside, .ref m_origin, .ref m_retreats, .ref m_contested, .ref m_moved, .int msh, .ref m_past]))]) [0] rfl
                      have hD9 := hD.sub (ws' := [(g0, .inr (6, [.int 1, .int ar, .ref m_sea, .ref m_center, .ref m_home, .ref m_borders, .int mp, .int mt, .ref m_owner, .ref m_units, .ref m_kind, .ref m_toX, .ref m_toY, .ref m_results, .ref m_known, .ref m_reached, .ref m_way, .ref m_aside, .ref m_origin, .ref m_retreats, .ref m_contested, .ref m_moved, .int msh, .ref m_past]))]) [0] (by decide) rfl
                      exact W.iret (v := 0) hx hb hr (fun t ht hW => ⟨⟨0, (), rfl, rfl, by rw [ht]; exact hP9, hD9⟩, hS.F ht⟩) hS.2.2 d_Mo_order_103
                · -- 55: false
                  refine lv_if_eq (tgt := 75) hx hb d_Mo_order_58 (by decide) (fun _ => ?_) (fun h0 => absurd (by decide) h0)
                  refine lv_iconst (v := 1) hx hb d_Mo_order_75 (by decide) ?_
                  refine lv_goto (tgt := 92) hx hb d_Mo_order_76 (by decide) ?_
                  refine va_put (D := D) (ci := 6) (v := .int 1) (ty := .int) (C := R_Mo) (T := T_Mo) (N := 24) hx hb hts hin_Mo ty_Mo tyok_Mo nm_Mo hown hK hP hD hS 0 rfl rfl 0 (by decide) (hts _ wd_704) (fun _ h9 => h9) rfl (by decide +kernel) rfl rfl (Nat.le_of_ble_eq_true rfl) d_Mo_order_92 (fun H locs hP hD hS => ?_)
                  have hP : va_P D vwCl [(g0, .inr (6, [.int 1, .int ar, .ref m_sea, .ref m_center, .ref m_home, .ref m_borders, .int mp, .int mt, .ref m_owner, .ref m_units, .ref m_kind, .ref m_toX, .ref m_toY, .ref m_results, .ref m_known, .ref m_reached, .ref m_way, .ref m_aside, .ref m_origin, .ref m_retreats, .ref m_contested, .ref m_moved, .int msh, .ref m_past]))] H := hP
                  have hD : va_D A [(g0, .inr (6, [.int 1, .int ar, .ref m_sea, .ref m_center, .ref m_home, .ref m_borders, .int mp, .int mt, .ref m_owner, .ref m_units, .ref m_kind, .ref m_toX, .ref m_toY, .ref m_results, .ref m_known, .ref m_reached, .ref m_way, .ref m_aside, .ref m_origin, .ref m_retreats, .ref m_contested, .ref m_moved, .int msh, .ref m_past]))] := hD
                  refine lv_aload_n hx hb d_Mo_order_95 rfl (lv_at hl 1 rfl) ?_
                  refine va_get (D := D) (ci := 6) (v := .int 1) (C := R_Mo) (T := T_Mo) (N := 24) hx hb hts hin_Mo hown hK hP 0 rfl rfl 0 (by decide) (hts _ wd_704) (fun _ h9 => h9) rfl d_Mo_order_96 ?_
                  refine lv_if_eq (tgt := 104) hx hb d_Mo_order_99 (by decide) (fun h0 => absurd h0 (by decide)) (fun _ => ?_)
                  refine lv_iconst (v := 0) hx hb d_Mo_order_102 (by decide) ?_
                  have hP9 := hP.sub (ws' := [(g0, .inr (6, [.int 1, .int ar, .ref m_sea, .ref m_center, .ref m_home, .ref m_borders, .int mp, .int mt, .ref m_owner, .ref m_units, .ref m_kind, .ref m_toX, .ref m_toY, .ref m_results, .ref m_known, .ref m_reached, .ref m_way, .ref m_aside, .ref m_origin, .ref m_retreats, .ref m_contested, .ref m_moved, .int msh, .ref m_past]))]) [0] rfl
                  have hD9 := hD.sub (ws' := [(g0, .inr (6, [.int 1, .int ar, .ref m_sea, .ref m_center, .ref m_home, .ref m_borders, .int mp, .int mt, .ref m_owner, .ref m_units, .ref m_kind, .ref m_toX, .ref m_toY, .ref m_results, .ref m_known, .ref m_reached, .ref m_way, .ref m_aside, .ref m_origin, .ref m_retreats, .ref m_contested, .ref m_moved, .int msh, .ref m_past]))]) [0] (by decide) rfl
                  exact W.iret (v := 0) hx hb hr (fun t ht hW => ⟨⟨0, (), rfl, rfl, by rw [ht]; exact hP9, hD9⟩, hS.F ht⟩) hS.2.2 d_Mo_order_103
              · -- 47: false
                refine lv_if_eq (tgt := 75) hx hb d_Mo_order_50 (by decide) (fun _ => ?_) (fun h0 => absurd (by decide) h0)
                refine lv_iconst (v := 1) hx hb d_Mo_order_75 (by decide) ?_
                refine lv_goto (tgt := 92) hx hb d_Mo_order_76 (by decide) ?_
                refine va_put (D := D) (ci := 6) (v := .int 1) (ty := .int) (C := R_Mo) (T := T_Mo) (N := 24) hx hb hts hin_Mo ty_Mo tyok_Mo nm_Mo hown hK hP hD hS 0 rfl rfl 0 (by decide) (hts _ wd_704) (fun _ h9 => h9) rfl (by decide +kernel) rfl rfl (Nat.le_of_ble_eq_true rfl) d_Mo_order_92 (fun H locs hP hD hS => ?_)
                have hP : va_P D vwCl [(g0, .inr (6, [.int 1, .int ar, .ref m_sea, .ref m_center, .ref m_home, .ref m_borders, .int mp, .int mt, .ref m_owner, .ref m_units, .ref m_kind, .ref m_toX, .ref m_toY, .ref m_results, .ref m_known, .ref m_reached, .ref m_way, .ref m_aside, .ref m_origin, .ref m_retreats, .ref m_contested, .ref m_moved, .int msh, .ref m_past]))] H := hP
                have hD : va_D A [(g0, .inr (6, [.int 1, .int ar, .ref m_sea, .ref m_center, .ref m_home, .ref m_borders, .int mp, .int mt, .ref m_owner, .ref m_units, .ref m_kind, .ref m_toX, .ref m_toY, .ref m_results, .ref m_known, .ref m_reached, .ref m_way, .ref m_aside, .ref m_origin, .ref m_retreats, .ref m_contested, .ref m_moved, .int msh, .ref m_past]))] := hD
                refine lv_aload_n hx hb d_Mo_order_95 rfl (lv_at hl 1 rfl) ?_
                refine va_get (D := D) (ci := 6) (v := .int 1) (C := R_Mo) (T := T_Mo) (N := 24) hx hb hts hin_Mo hown hK hP 0 rfl rfl 0 (by decide) (hts _ wd_704) (fun _ h9 => h9) rfl d_Mo_order_96 ?_
                refine lv_if_eq (tgt := 104) hx hb d_Mo_order_99 (by decide) (fun h0 => absurd h0 (by decide)) (fun _ => ?_)
                refine lv_iconst (v := 0) hx hb d_Mo_order_102 (by decide) ?_
                have hP9 := hP.sub (ws' := [(g0, .inr (6, [.int 1, .int ar, .ref m_sea, .ref m_center, .ref m_home, .ref m_borders, .int mp, .int mt, .ref m_owner, .ref m_units, .ref m_kind, .ref m_toX, .ref m_toY, .ref m_results, .ref m_known, .ref m_reached, .ref m_way, .ref m_aside, .ref m_origin, .ref m_retreats, .ref m_contested, .ref m_moved, .int msh, .ref m_past]))]) [0] rfl
                have hD9 := hD.sub (ws' := [(g0, .inr (6, [.int 1, .int ar, .ref m_sea, .ref m_center, .ref m_home, .ref m_borders, .int mp, .int mt, .ref m_owner, .ref m_units, .ref m_kind, .ref m_toX, .ref m_toY, .ref m_results, .ref m_known, .ref m_reached, .ref m_way, .ref m_aside, .ref m_origin, .ref m_retreats, .ref m_contested, .ref m_moved, .int msh, .ref m_past]))]) [0] (by decide) rfl
                exact W.iret (v := 0) hx hb hr (fun t ht hW => ⟨⟨0, (), rfl, rfl, by rw [ht]; exact hP9, hD9⟩, hS.F ht⟩) hS.2.2 d_Mo_order_103
      · -- 13: false
        refine lv_if_eq (tgt := 42) hx hb d_Mo_order_16 (by decide) (fun _ => ?_) (fun h0 => absurd (by decide) h0)
        refine lv_iconst (v := 0) hx hb d_Mo_order_42 (by decide) ?_
        refine lv_istore (lv' := [(6, .int 0), (0, .ref g0), (1, .int pl), (2, .int a), (3, .int k), (4, .int x), (5, .int y)]) hx hb d_Mo_order_43 hl (by decide) rfl (fun ls hl => ?_)
        refine lv_aload_n hx hb d_Mo_order_45 rfl (lv_at hl 1 rfl) ?_
        refine lv_iload_n hx hb d_Mo_order_46 rfl (lv_at hl 2 rfl) ?_
        have hPc := hP.sub (ws' := []) [] rfl
        refine vp_callSi (va_Run.run (va_runS (As := [.int pl]) (rest := [.ref g0]) ⟨hx, hb, hml, hown, hts⟩ (c_Mo_isPlayer l D cI cZ cJ cS aT ceT  pl ) (va_cwS 1 hts (tb_3 wd_802 wd_803 wd_8 (tb_c wd_804)) rfl rfl rfl ⟨by decide, by decide, by decide +kernel⟩ ⟨Nat.le_of_ble_eq_true rfl, Nat.le_of_ble_eq_true rfl⟩) (tP_S hK hX (hS.2.1 aT hXl hXn) hPc) rfl rfl hl.1 rfl (lv_room (Nat.le_of_ble_eq_true rfl)) d_Mo_order_47 ⟨Nat.le_of_ble_eq_true rfl, Nat.le_of_ble_eq_true rfl⟩)) (fun r208 hr9 => ?_)
        rcases hr9 with ⟨rfl, hq209⟩ | ⟨rfl, hq209⟩
        · -- 47: true
          refine lv_if_eq (tgt := 75) hx hb d_Mo_order_50 (by decide) (fun h0 => absurd h0 (by decide)) (fun _ => ?_)
          refine lv_aload_n hx hb d_Mo_order_53 rfl (lv_at hl 1 rfl) ?_
          refine lv_iload_n hx hb d_Mo_order_54 rfl (lv_at hl 3 rfl) ?_
          have hPc := hP.sub (ws' := [(g0, .inr (6, [.int co, .int ar, .ref m_sea, .ref m_center, .ref m_home, .ref m_borders, .int mp, .int mt, .ref m_owner, .ref m_units, .ref m_kind, .ref m_toX, .ref m_toY, .ref m_results, .ref m_known, .ref m_reached, .ref m_way, .ref m_aside, .ref m_origin, .ref m_retreats, .ref m_contested, .ref m_moved, .int msh, .ref m_past]))]) [0] rfl
          refine vp_callSi (va_Run.run (va_runV (As := [.int a]) (rest := [.ref g0]) ⟨hx, hb, hml, hown, hts⟩ (c_Mo_isArea l D cI cZ cJ cS aT ceT  g0 m_sea m_center m_home m_borders m_owner m_units m_kind m_toX m_toY m_results m_known m_reached m_way m_aside m_origin m_retreats m_contested m_moved m_past co ar mp mt msh a ) (cwV 1 hts (tb_4 wd_790 wd_792 wp_36 wd_8 (tb_c wd_793)) rfl rfl rfl ⟨rfl, by decide, by decide, by decide +kernel⟩ ⟨Nat.le_of_ble_eq_true rfl, Nat.le_of_ble_eq_true rfl⟩) (tP_V hK hX (hS.2.1 aT hXl hXn) hPc (q := 0) rfl rfl) rfl rfl hl.1 rfl (lv_room (Nat.le_of_ble_eq_true rfl)) d_Mo_order_55 ⟨Nat.le_of_ble_eq_true rfl, Nat.le_of_ble_eq_true rfl⟩)) (fun r211 hr9 => ?_)
          rcases hr9 with ⟨rfl, hq212⟩ | ⟨rfl, hq212⟩
          · -- 55: true
            refine lv_if_eq (tgt := 75) hx hb d_Mo_order_58 (by decide) (fun h0 => absurd h0 (by decide)) (fun _ => ?_)
            refine lv_iload_n hx hb d_Mo_order_61 rfl (lv_at hl 4 rfl) ?_
            refine lv_if_lt (tgt := 75) hx hb d_Mo_order_62 (by decide) (fun hc214 => ?_) (fun hc214 => ?_)
            · -- 62 taken
              refine lv_iconst (v := 1) hx hb d_Mo_order_75 (by decide) ?_
              refine lv_goto (tgt := 92) hx hb d_Mo_order_76 (by decide) ?_
              refine va_put (D := D) (ci := 6) (v := .int 1) (ty := .int) (C := R_Mo) (T := T_Mo) (N := 24) hx hb hts hin_Mo ty_Mo tyok_Mo nm_Mo hown hK hP hD hS 0 rfl rfl 0 (by decide) (hts _ wd_704) (fun _ h9 => h9) rfl (by decide +kernel) rfl rfl (Nat.le_of_ble_eq_true rfl) d_Mo_order_92 (fun H locs hP hD hS => ?_)
              have hP : va_P D vwCl [(g0, .inr (6, [.int 1, .int ar, .ref m_sea, .ref m_center, .ref m_home, .ref m_borders, .int mp, .int mt, .ref m_owner, .ref m_units, .ref m_kind, .ref m_toX, .ref m_toY, .ref m_results, .ref m_known, .ref m_reached, .ref m_way, .ref m_aside, .ref m_origin, .ref m_retreats, .ref m_contested, .ref m_moved, .int msh, .ref m_past]))] H := hP
              have hD : va_D A [(g0, .inr (6, [.int 1, .int ar, .ref m_sea, .ref m_center, .ref m_home, .ref m_borders, .int mp, .int mt, .ref m_owner, .ref m_units, .ref m_kind, .ref m_toX, .ref m_toY, .ref m_results, .ref m_known, .ref m_reached, .ref m_way, .ref m_aside, .ref m_origin, .ref m_retreats, .ref m_contested, .ref m_moved, .int msh, .ref m_past]))] := hD
              refine lv_aload_n hx hb d_Mo_order_95 rfl (lv_at hl 1 rfl) ?_
              refine va_get (D := D) (ci := 6) (v := .int 1) (C := R_Mo) (T := T_Mo) (N := 24) hx hb hts hin_Mo hown hK hP 0 rfl rfl 0 (by decide) (hts _ wd_704) (fun _ h9 => h9) rfl d_Mo_order_96 ?_
              refine lv_if_eq (tgt := 104) hx hb d_Mo_order_99 (by decide) (fun h0 => absurd h0 (by decide)) (fun _ => ?_)
              refine lv_iconst (v := 0) hx hb d_Mo_order_102 (by decide) ?_
              have hP9 := hP.sub (ws' := [(g0, .inr (6, [.int 1, .int ar, .ref m_sea, .ref m_center, .ref m_home, .ref m_borders, .int mp, .int mt, .ref m_owner, .ref m_units, .ref m_kind, .ref m_toX, .ref m_toY, .ref m_results, .ref m_known, .ref m_reached, .ref m_way, .ref m_aside, .ref m_origin, .ref m_retreats, .ref m_contested, .ref m_moved, .int msh, .ref m_past]))]) [0] rfl
              have hD9 := hD.sub (ws' := [(g0, .inr (6, [.int 1, .int ar, .ref m_sea, .ref m_center, .ref m_home, .ref m_borders, .int mp, .int mt, .ref m_owner, .ref m_units, .ref m_kind, .ref m_toX, .ref m_toY, .ref m_results, .ref m_known, .ref m_reached, .ref m_way, .ref m_aside, .ref m_origin, .ref m_retreats, .ref m_contested, .ref m_moved, .int msh, .ref m_past]))]) [0] (by decide) rfl
              exact W.iret (v := 0) hx hb hr (fun t ht hW => ⟨⟨0, (), rfl, rfl, by rw [ht]; exact hP9, hD9⟩, hS.F ht⟩) hS.2.2 d_Mo_order_103
            · -- 62 not taken
              refine lv_iload_n hx hb d_Mo_order_65 rfl (lv_at hl 4 rfl) ?_
              refine lv_iconst (v := 3) hx hb d_Mo_order_66 (by decide) ?_
              refine lv_icmp_gt (tgt := 75) hx hb d_Mo_order_67 (by decide) (fun hc216 => ?_) (fun hc216 => ?_)
              · -- 67 taken
                refine lv_iconst (v := 1) hx hb d_Mo_order_75 (by decide) ?_
                refine lv_goto (tgt := 92) hx hb d_Mo_order_76 (by decide) ?_
                refine va_put (D := D) (ci := 6) (v := .int 1) (ty := .int) (C := R_Mo) (T := T_Mo) (N := 24) hx hb hts hin_Mo ty_Mo tyok_Mo nm_Mo hown hK hP hD hS 0 rfl rfl 0 (by decide) (hts _ wd_704) (fun _ h9 => h9) rfl (by decide +kernel) rfl rfl (Nat.le_of_ble_eq_true rfl) d_Mo_order_92 (fun H locs hP hD hS => ?_)
                have hP : va_P D vwCl [(g0, .inr (6, [.int 1, .int ar, .ref m_sea, .ref m_center, .ref m_home, .ref m_borders, .int mp, .int mt, .ref m_owner, .ref m_units, .ref m_kind, .ref m_toX, .ref m_toY, .ref m_results, .ref m_known, .ref m_reached, .ref m_way, .ref m_aside, .ref m_origin, .ref m_retreats, .ref m_contested, .ref m_moved, .int msh, .ref m_past]))] H := hP
                have hD : va_D A [(g0, .inr (6, [.int 1, .int ar, .ref m_sea, .ref m_center, .ref m_home, .ref m_borders, .int mp, .int mt, .ref m_owner, .ref m_units, .ref m_kind, .ref m_toX, .ref m_toY, .ref m_results, .ref m_known, .ref m_reached, .ref m_way, .ref m_aside, .ref m_origin, .ref m_retreats, .ref m_contested, .ref m_moved, .int msh, .ref m_past]))] := hD
                refine lv_aload_n hx hb d_Mo_order_95 rfl (lv_at hl 1 rfl) ?_
                refine va_get (D := D) (ci := 6) (v := .int 1) (C := R_Mo) (T := T_Mo) (N := 24) hx hb hts hin_Mo hown hK hP 0 rfl rfl 0 (by decide) (hts _ wd_704) (fun _ h9 => h9) rfl d_Mo_order_96 ?_
                refine lv_if_eq (tgt := 104) hx hb d_Mo_order_99 (by decide) (fun h0 => absurd h0 (by decide)) (fun _ => ?_)
                refine lv_iconst (v := 0) hx hb d_Mo_order_102 (by decide) ?_
                have hP9 := hP.sub (ws' := [(g0, .inr (6, [.int 1, .int ar, .ref m_sea, .ref m_center, .ref m_home, .ref m_borders, .int mp, .int mt, .ref m_owner, .ref m_units, .ref m_kind, .ref m_toX, .ref m_toY, .ref m_results, .ref m_known, .ref m_reached, .ref m_way, .ref m_aside, .ref m_origin, .ref m_retreats, .ref m_contested, .ref m_moved, .int msh, .ref m_past]))]) [0] rfl
                have hD9 := hD.sub (ws' := [(g0, .inr (6, [.int 1, .int ar, .ref m_sea, .ref m_center, .ref m_home, .ref m_borders, .int mp, .int mt, .ref m_owner, .ref m_units, .ref m_kind, .ref m_toX, .ref m_toY, .ref m_results, .ref m_known, .ref m_reached, .ref m_way, .ref m_aside, .ref m_origin, .ref m_retreats, .ref m_contested, .ref m_moved, .int msh, .ref m_past]))]) [0] (by decide) rfl
                exact W.iret (v := 0) hx hb hr (fun t ht hW => ⟨⟨0, (), rfl, rfl, by rw [ht]; exact hP9, hD9⟩, hS.F ht⟩) hS.2.2 d_Mo_order_103
              · -- 67 not taken
                refine lv_iload hx hb d_Mo_order_70 (lv_at hl 0 rfl) ?_
                refine lv_if_ne (tgt := 79) hx hb d_Mo_order_72 (by decide) (fun h0 => absurd (by decide) h0) (fun _ => ?_)
                refine lv_iconst (v := 1) hx hb d_Mo_order_75 (by decide) ?_
                refine lv_goto (tgt := 92) hx hb d_Mo_order_76 (by decide) ?_
                refine va_put (D := D) (ci := 6) (v := .int 1) (ty := .int) (C := R_Mo) (T := T_Mo) (N := 24) hx hb hts hin_Mo ty_Mo tyok_Mo nm_Mo hown hK hP hD hS 0 rfl rfl 0 (by decide) (hts _ wd_704) (fun _ h9 => h9) rfl (by decide +kernel) rfl rfl (Nat.le_of_ble_eq_true rfl) d_Mo_order_92 (fun H locs hP hD hS => ?_)
                have hP : va_P D vwCl [(g0, .inr (6, [.int 1, .int ar, .ref m_sea, .ref m_center, .ref m_home, .ref m_borders, .int mp, .int mt, .ref m_owner, .ref m_units, .ref m_kind, .ref m_toX, .ref m_toY, .ref m_results, .ref m_known, .ref m_reached, .ref m_way, .ref m_aside, .ref m_origin, .ref m_retreats, .ref m_contested, .ref m_moved, .int msh, .ref m_past]))] H := hP
                have hD : va_D A [(g0, .inr (6, [.int 1, .int ar, .ref m_sea, .ref m_center, .ref m_home, .ref m_borders, .int mp, .int mt, .ref m_owner, .ref m_units, .ref m_kind, .ref m_toX, .ref m_toY, .ref m_results, .ref m_known, .ref m_reached, .ref m_way, .ref m_aside, .ref m_origin, .ref m_retreats, .ref m_contested, .ref m_moved, .int msh, .ref m_past]))] := hD
                refine lv_aload_n hx hb d_Mo_order_95 rfl (lv_at hl 1 rfl) ?_
                refine va_get (D := D) (ci := 6) (v := .int 1) (C := R_Mo) (T := T_Mo) (N := 24) hx hb hts hin_Mo hown hK hP 0 rfl rfl 0 (by decide) (hts _ wd_704) (fun _ h9 => h9) rfl d_Mo_order_96 ?_
                refine lv_if_eq (tgt := 104) hx hb d_Mo_order_99 (by decide) (fun h0 => absurd h0 (by decide)) (fun _ => ?_)
                refine lv_iconst (v := 0) hx hb d_Mo_order_102 (by decide) ?_
                have hP9 := hP.sub (ws' := [(g0, .inr (6, [.int 1, .int ar, .ref m_sea, .ref m_center, .ref m_home, .ref m_borders, .int mp, .int mt, .ref m_owner, .ref m_units, .ref m_kind, .ref m_toX, .ref m_toY, .ref m_results, .ref m_known, .ref m_reached, .ref m_way, .ref m_aside, .ref m_origin, .ref m_retreats, .ref m_contested, .ref m_moved, .int msh, .ref m_past]))]) [0] rfl
                have hD9 := hD.sub (ws' := [(g0, .inr (6, [.int 1, .int ar, .ref m_sea, .ref m_center, .ref m_home, .ref m_borders, .int mp, .int mt, .ref m_owner, .ref m_units, .ref m_kind, .ref m_toX, .ref m_toY, .ref m_results, .ref m_known, .ref m_reached, .ref m_way, .ref m_aside, .ref m_origin, .ref m_retreats, .ref m_contested, .ref m_moved, .int msh, .ref m_past]))]) [0] (by decide) rfl
                exact W.iret (v := 0) hx hb hr (fun t ht hW => ⟨⟨0, (), rfl, rfl, by rw [ht]; exact hP9, hD9⟩, hS.F ht⟩) hS.2.2 d_Mo_order_103
          · -- 55: false
            refine lv_if_eq (tgt := 75) hx hb d_Mo_order_58 (by decide) (fun _ => ?_) (fun h0 => absurd (by decide) h0)
            refine lv_iconst (v := 1) hx hb d_Mo_order_75 (by decide) ?_
            refine lv_goto (tgt := 92) hx hb d_Mo_order_76 (by decide) ?_
            refine va_put (D := D) (ci := 6) (v := .int 1) (ty := .int) (C := R_Mo) (T := T_Mo) (N := 24) hx hb hts hin_Mo ty_Mo tyok_Mo nm_Mo hown hK hP hD hS 0 rfl rfl 0 (by decide) (hts _ wd_704) (fun _ h9 => h9) rfl (by decide +kernel) rfl rfl (Nat.le_of_ble_eq_true rfl) d_Mo_order_92 (fun H locs hP hD hS => ?_)
            have hP : va_P D vwCl [(g0, .inr (6, [.int 1, .int ar, .ref m_sea, .ref m_center, .ref m_home, .ref m_borders, .int mp, .int mt, .ref m_owner, .ref m_units, .ref m_kind, .ref m_toX, .ref m_toY, .ref m_results, .ref m_known, .ref m_reached, .ref m_way, .ref m_aside, .ref m_origin, .ref m_retreats, .ref m_contested, .ref m_moved, .int msh, .ref m_past]))] H := hP
            have hD : va_D A [(g0, .inr (6, [.int 1, .int ar, .ref m_sea, .ref m_center, .ref m_home, .ref m_borders, .int mp, .int mt, .ref m_owner, .ref m_units, .ref m_kind, .ref m_toX, .ref m_toY, .ref m_results, .ref m_known, .ref m_reached, .ref m_way, .ref m_aside, .ref m_origin, .ref m_retreats, .ref m_contested, .ref m_moved, .int msh, .ref m_past]))] := hD
            refine lv_aload_n hx hb d_Mo_order_95 rfl (lv_at hl 1 rfl) ?_
            refine va_get (D := D) (ci := 6) (v := .int 1) (C := R_Mo) (T := T_Mo) (N := 24) hx hb hts hin_Mo hown hK hP 0 rfl rfl 0 (by decide) (hts _ wd_704) (fun _ h9 => h9) rfl d_Mo_order_96 ?_
            refine lv_if_eq (tgt := 104) hx hb d_Mo_order_99 (by decide) (fun h0 => absurd h0 (by decide)) (fun _ => ?_)
            refine lv_iconst (v := 0) hx hb d_Mo_order_102 (by decide) ?_
            have hP9 := hP.sub (ws' := [(g0, .inr (6, [.int 1, .int ar, .ref m_sea, .ref m_center, .ref m_home, .ref m_borders, .int mp, .int mt, .ref m_owner, .ref m_units, .ref m_kind, .ref m_toX, .ref m_toY, .ref m_results, .ref m_known, .ref m_reached, .ref m_way, .ref m_aside, .ref m_origin, .ref m_retreats, .ref m_contested, .ref m_moved, .int msh, .ref m_past]))]) [0] rfl
            have hD9 := hD.sub (ws' := [(g0, .inr (6, [.int 1, .int ar, .ref m_sea, .ref m_center, .ref m_home, .ref m_borders, .int mp, .int mt, .ref m_owner, .ref m_units, .ref m_kind, .ref m_toX, .ref m_toY, .ref m_results, .ref m_known, .ref m_reached, .ref m_way, .ref m_aside, .ref m_origin, .ref m_retreats, .ref m_contested, .ref m_moved, .int msh, .ref m_past]))]) [0] (by decide) rfl
            exact W.iret (v := 0) hx hb hr (fun t ht hW => ⟨⟨0, (), rfl, rfl, by rw [ht]; exact hP9, hD9⟩, hS.F ht⟩) hS.2.2 d_Mo_order_103
        · -- 47: false
          refine lv_if_eq (tgt := 75) hx hb d_Mo_order_50 (by decide) (fun _ => ?_) (fun h0 => absurd (by decide) h0)
          refine lv_iconst (v := 1) hx hb d_Mo_order_75 (by decide) ?_
          refine lv_goto (tgt := 92) hx hb d_Mo_order_76 (by decide) ?_
          refine va_put (D := D) (ci := 6) (v := .int 1) (ty := .int) (C := R_Mo) (T := T_Mo) (N := 24) hx hb hts hin_Mo ty_Mo tyok_Mo nm_Mo hown hK hP hD hS 0 rfl rfl 0 (by decide) (hts _ wd_704) (fun _ h9 => h9) rfl (by decide +kernel) rfl rfl (Nat.le_of_ble_eq_true rfl) d_Mo_order_92 (fun H locs hP hD hS => ?_)
          have hP : va_P D vwCl [(g0, .inr (6, [.int 1, .int ar, .ref m_sea, .ref m_center, .ref m_home, .ref m_borders, .int mp, .int mt, .ref m_owner, .ref m_units, .ref m_kind, .ref m_toX, .ref m_toY, .ref m_results, .ref m_known, .ref m_reached, .ref m_way, .ref m_aside, .ref m_origin, .ref m_retreats, .ref m_contested, .ref m_moved, .int msh, .ref m_past]))] H := hP
          have hD : va_D A [(g0, .inr (6, [.int 1, .int ar, .ref m_sea, .ref m_center, .ref m_home, .ref m_borders, .int mp, .int mt, .ref m_owner, .ref m_units, .ref m_kind, .ref m_toX, .ref m_toY, .ref m_results, .ref m_known, .ref m_reached, .ref m_way, .ref m_aside, .ref m_origin, .ref m_retreats, .ref m_contested, .ref m_moved, .int msh, .ref m_past]))] := hD
          refine lv_aload_n hx hb d_Mo_order_95 rfl (lv_at hl 1 rfl) ?_
          refine va_get (D := D) (ci := 6) (v := .int 1) (C := R_Mo) (T := T_Mo) (N := 24) hx hb hts hin_Mo hown hK hP 0 rfl rfl 0 (by decide) (hts _ wd_704) (fun _ h9 => h9) rfl d_Mo_order_96 ?_
          refine lv_if_eq (tgt := 104) hx hb d_Mo_order_99 (by decide) (fun h0 => absurd h0 (by decide)) (fun _ => ?_)
          refine lv_iconst (v := 0) hx hb d_Mo_order_102 (by decide) ?_
          have hP9 := hP.sub (ws' := [(g0, .inr (6, [.int 1, .int ar, .ref m_sea, .ref m_center, .ref m_home, .ref m_borders, .int mp, .int mt, .ref m_owner, .ref m_units, .ref m_kind, .ref m_toX, .ref m_toY, .ref m_results, .ref m_known, .ref m_reached, .ref m_way, .ref m_aside, .ref m_origin, .ref m_retreats, .ref m_contested, .ref m_moved, .int msh, .ref m_past]))]) [0] rfl
          have hD9 := hD.sub (ws' := [(g0, .inr (6, [.int 1, .int ar, .ref m_sea, .ref m_center, .ref m_home, .ref m_borders, .int mp, .int mt, .ref m_owner, .ref m_units, .ref m_kind, .ref m_toX, .ref m_toY, .ref m_results, .ref m_known, .ref m_reached, .ref m_way, .ref m_aside, .ref m_origin, .ref m_retreats, .ref m_contested, .ref m_moved, .int msh, .ref m_past]))]) [0] (by decide) rfl
          exact W.iret (v := 0) hx hb hr (fun t ht hW => ⟨⟨0, (), rfl, rfl, by rw [ht]; exact hP9, hD9⟩, hS.F ht⟩) hS.2.2 d_Mo_order_103


set_option maxHeartbeats 4000000 in
set_option maxRecDepth 100000 in
theorem c_Mo_order_2 (l : Launch) (D : va_G) (cI cZ cJ cS : ClassId) (aT : Nat) (ceT : Cell) (sz : Nat) (g0 m_sea m_center m_home m_borders m_owner m_units m_kind m_toX m_toY m_results m_known m_reached m_way m_aside m_origin m_retreats m_contested m_moved m_past : Nat) (co ar mp mt msh : Int32) (pl a k x y : Int32) (hok : okO pl a k x y ar) (hph : ¬ mp = 1) : Met l y_Mo_order w_Mo_order ({ frames := 1, cells := 0, slots := 0, locals := 21 }) (tH D cI cZ cJ cS aT ceT [.ref g0, .int pl, .int a, .int k, .int x, .int y] sz [(g0, .inr (6, [.int co, .int ar, .ref m_sea, .ref m_center, .ref m_home, .ref m_borders, .int mp, .int mt, .ref m_owner, .ref m_units, .ref m_kind, .ref m_toX, .ref m_toY, .ref m_results, .ref m_known, .ref m_reached, .ref m_way, .ref m_aside, .ref m_origin, .ref m_retreats, .ref m_contested, .ref m_moved, .int msh, .ref m_past]))]) (va_Qi (fun (r : Int32) (_ : Unit) => r = 0) (fun _ t => tB D (va_A [(g0, .inr (6, [.int co, .int ar, .ref m_sea, .ref m_center, .ref m_home, .ref m_borders, .int mp, .int mt, .ref m_owner, .ref m_units, .ref m_kind, .ref m_toX, .ref m_toY, .ref m_results, .ref m_known, .ref m_reached, .ref m_way, .ref m_aside, .ref m_origin, .ref m_retreats, .ref m_contested, .ref m_moved, .int msh, .ref m_past]))] sz) [(g0, .inr (6, [.int 2, .int ar, .ref m_sea, .ref m_center, .ref m_home, .ref m_borders, .int mp, .int mt, .ref m_owner, .ref m_units, .ref m_kind, .ref m_toX, .ref m_toY, .ref m_results, .ref m_known, .ref m_reached, .ref m_way, .ref m_aside, .ref m_origin, .ref m_retreats, .ref m_contested, .ref m_moved, .int msh, .ref m_past]))] t) (va_A [(g0, .inr (6, [.int co, .int ar, .ref m_sea, .ref m_center, .ref m_home, .ref m_borders, .int mp, .int mt, .ref m_owner, .ref m_units, .ref m_kind, .ref m_toX, .ref m_toY, .ref m_results, .ref m_known, .ref m_reached, .ref m_way, .ref m_aside, .ref m_origin, .ref m_retreats, .ref m_contested, .ref m_moved, .int msh, .ref m_past]))] sz)) 0 0 (va_A [(g0, .inr (6, [.int co, .int ar, .ref m_sea, .ref m_center, .ref m_home, .ref m_borders, .int mp, .int mt, .ref m_owner, .ref m_units, .ref m_kind, .ref m_toX, .ref m_toY, .ref m_results, .ref m_known, .ref m_reached, .ref m_way, .ref m_aside, .ref m_origin, .ref m_retreats, .ref m_contested, .ref m_moved, .int msh, .ref m_past]))] sz) := by
  refine Met.ofW (cc := b_Mo_order) (maxL := 7) (ret := (some .int)) (by decide) rfl ?_
  intro p e s m args below meth c s₁ B hml hv
  obtain ⟨rfl, hsz, hP, hK, hD0, hX⟩ := hv
  have hx := B.exec
  have hb := B.bytes
  have hr := B.returns
  have hts0 := atoms_spec (ws := w_Mo_order) B.pre
  have hts : ∀ w ∈ TB, w.before _ s = true := fun w h => hts0 w (List.mem_cons_of_mem _ h)
  have hown : s.vm.findClass R_Mo = some m.cls := findClass_of_methodNamed B.named
  have hlocks := B.notSynchronized
  subst hsz
  have hXl := tx_lt hX
  have hXn := tx_far hP hX
  have hD := hD0.self (sz := s.heap.size)
  generalize hAe : va_A [(g0, .inr (6, [.int co, .int ar, .ref m_sea, .ref m_center, .ref m_home, .ref m_borders, .int mp, .int mt, .ref m_owner, .ref m_units, .ref m_kind, .ref m_toX, .ref m_toY, .ref m_results, .ref m_known, .ref m_reached, .ref m_way, .ref m_aside, .ref m_origin, .ref m_retreats, .ref m_contested, .ref m_moved, .int msh, .ref m_past]))] s.heap.size = A at hD hXn ⊢
  have hA : ∀ q : Nat, s.heap.size ≤ q → A q := fun q h => by rw [← hAe]; exact Or.inr h
  have hS : va_S A s.heap s.heap [] := va_S.rf
  have hXH : s.heap[aT]? = s.heap[aT]? := rfl
  have hl := lv_entry ([.ref g0, .int pl, .int a, .int k, .int x, .int y]) (n := 7) (Nat.le_of_ble_eq_true rfl)
  rw [lg_entry_eq]
  generalize (lg_sl ([.ref g0, .int pl, .int a, .int k, .int x, .int y]) ++ List.replicate (7 - (lg_sl ([.ref g0, .int pl, .int a, .int k, .int x, .int y])).length) Slot.unset).toArray = ls at hl ⊢
  have hl : lv_has ls 7 [(0, .ref g0), (1, .int pl), (2, .int a), (3, .int k), (4, .int x), (5, .int y)] := hl
  refine lv_iload_n hx hb d_Mo_order_0 rfl (lv_at hl 3 rfl) ?_
  refine lv_iconst (v := 1) hx hb d_Mo_order_1 (by decide) ?_
  refine lv_icmp_lt (tgt := 19) hx hb d_Mo_order_2 (by decide) (fun hc1 => ?_) (fun hc1 => ?_)
  · -- 2 taken
    refine lv_iload_n hx hb d_Mo_order_19 rfl (lv_at hl 3 rfl) ?_
    refine lv_iconst (v := 2) hx hb d_Mo_order_20 (by decide) ?_
    refine lv_icmp_lt (tgt := 38) hx hb d_Mo_order_21 (by decide) (fun hc2 => ?_) (fun hc2 => ?_)
    · -- 21 taken
      refine lv_iconst (v := 1) hx hb d_Mo_order_38 (by decide) ?_
      refine lv_goto (tgt := 43) hx hb d_Mo_order_39 (by decide) ?_
      refine lv_istore (lv' := [(6, .int 1), (0, .ref g0), (1, .int pl), (2, .int a), (3, .int k), (4, .int x), (5, .int y)]) hx hb d_Mo_order_43 hl (by decide) rfl (fun ls hl => ?_)
      refine lv_aload_n hx hb d_Mo_order_45 rfl (lv_at hl 1 rfl) ?_
      refine lv_iload_n hx hb d_Mo_order_46 rfl (lv_at hl 2 rfl) ?_
      have hPc := hP.sub (ws' := []) [] rfl
      refine vp_callSi (va_Run.run (va_runS (As := [.int pl]) (rest := [.ref g0]) ⟨hx, hb, hml, hown, hts⟩ (c_Mo_isPlayer l D cI cZ cJ cS aT ceT  pl ) (va_cwS 1 hts (tb_3 wd_802 wd_803 wd_8 (tb_c wd_804)) rfl rfl rfl ⟨by decide, by decide, by decide +kernel⟩ ⟨Nat.le_of_ble_eq_true rfl, Nat.le_of_ble_eq_true rfl⟩) (tP_S hK hX (hS.2.1 aT hXl hXn) hPc) rfl rfl hl.1 rfl (lv_room (Nat.le_of_ble_eq_true rfl)) d_Mo_order_47 ⟨Nat.le_of_ble_eq_true rfl, Nat.le_of_ble_eq_true rfl⟩)) (fun r3 hr9 => ?_)
      rcases hr9 with ⟨rfl, hq4⟩ | ⟨rfl, hq4⟩
      · -- 47: true
        refine lv_if_eq (tgt := 75) hx hb d_Mo_order_50 (by decide) (fun h0 => absurd h0 (by decide)) (fun _ => ?_)
        refine lv_aload_n hx hb d_Mo_order_53 rfl (lv_at hl 1 rfl) ?_
        refine lv_iload_n hx hb d_Mo_order_54 rfl (lv_at hl 3 rfl) ?_
        have hPc := hP.sub (ws' := [(g0, .inr (6, [.int co, .int ar, .ref m_sea, .ref m_center, .ref m_home, .ref m_borders, .int mp, .int mt, .ref m_owner, .ref m_units, .ref m_kind, .ref m_toX, .ref m_toY, .ref m_results, .ref m_known, .ref m_reached, .ref m_way, .ref m_aside, .ref m_origin, .ref m_retreats, .ref m_contested, .ref m_moved, .int msh, .ref m_past]))]) [0] rfl
        refine vp_callSi (va_Run.run (va_runV (As := [.int a]) (rest := [.ref g0]) ⟨hx, hb, hml, hown, hts⟩ (c_Mo_isArea l D cI cZ cJ cS aT ceT  g0 m_sea m_center m_home m_borders m_owner m_units m_kind m_toX m_toY m_results m_known m_reached m_way m_aside m_origin m_retreats m_contested m_moved m_past co ar mp mt msh a ) (cwV 1 hts (tb_4 wd_790 wd_792 wp_36 wd_8 (tb_c wd_793)) rfl rfl rfl ⟨rfl, by decide, by decide, by decide +kernel⟩ ⟨Nat.le_of_ble_eq_true rfl, Nat.le_of_ble_eq_true rfl⟩) (tP_V hK hX (hS.2.1 aT hXl hXn) hPc (q := 0) rfl rfl) rfl rfl hl.1 rfl (lv_room (Nat.le_of_ble_eq_true rfl)) d_Mo_order_55 ⟨Nat.le_of_ble_eq_true rfl, Nat.le_of_ble_eq_true rfl⟩)) (fun r6 hr9 => ?_)
        rcases hr9 with ⟨rfl, hq7⟩ | ⟨rfl, hq7⟩
        · -- 55: true
          refine lv_if_eq (tgt := 75) hx hb d_Mo_order_58 (by decide) (fun h0 => absurd h0 (by decide)) (fun _ => ?_)
          refine lv_iload_n hx hb d_Mo_order_61 rfl (lv_at hl 4 rfl) ?_
          refine lv_if_lt (tgt := 75) hx hb d_Mo_order_62 (by decide) (fun hc9 => ?_) (fun hc9 => ?_)
          · -- 62 taken
            exact False.elim (by unfold okO at hok; revert hok hc1 hc2 hq4 hq7 hc9; simp only [Int32.lt_iff_toInt_lt, Int32.le_iff_toInt_le, ← Int32.toInt_inj, Int32.reduceToInt, i32_m1]; omega)
          · -- 62 not taken
            refine lv_iload_n hx hb d_Mo_order_65 rfl (lv_at hl 4 rfl) ?_
            refine lv_iconst (v := 3) hx hb d_Mo_order_66 (by decide) ?_
            refine lv_icmp_gt (tgt := 75) hx hb d_Mo_order_67 (by decide) (fun hc10 => ?_) (fun hc10 => ?_)
            · -- 67 taken
              exact False.elim (by unfold okO at hok; revert hok hc1 hc2 hq4 hq7 hc9 hc10; simp only [Int32.lt_iff_toInt_lt, Int32.le_iff_toInt_le, ← Int32.toInt_inj, Int32.reduceToInt, i32_m1]; omega)
            · -- 67 not taken
              refine lv_iload hx hb d_Mo_order_70 (lv_at hl 0 rfl) ?_
              refine lv_if_ne (tgt := 79) hx hb d_Mo_order_72 (by decide) (fun _ => ?_) (fun h0 => absurd h0 (by decide))
              refine lv_aload_n hx hb d_Mo_order_79 rfl (lv_at hl 1 rfl) ?_
              refine va_get (D := D) (ci := 6) (v := .int mp) (C := R_Mo) (T := T_Mo) (N := 24) hx hb hts hin_Mo hown hK hP 0 rfl rfl 6 (by decide) (hts _ wd_710) (fun _ h9 => h9) rfl d_Mo_order_80 ?_
              refine lv_iconst (v := 1) hx hb d_Mo_order_83 (by decide) ?_
              refine lv_icmp_eq (tgt := 91) hx hb d_Mo_order_84 (by decide) (fun hc12 => ?_) (fun hc12 => ?_)
              · -- 84 taken
                exact absurd hc12 hph
              · -- 84 not taken
                refine lv_iconst (v := 2) hx hb d_Mo_order_87 (by decide) ?_
                refine lv_goto (tgt := 92) hx hb d_Mo_order_88 (by decide) ?_
                refine va_put (D := D) (ci := 6) (v := .int 2) (ty := .int) (C := R_Mo) (T := T_Mo) (N := 24) hx hb hts hin_Mo ty_Mo tyok_Mo nm_Mo hown hK hP hD hS 0 rfl rfl 0 (by decide) (hts _ wd_704) (fun _ h9 => h9) rfl (by decide +kernel) rfl rfl (Nat.le_of_ble_eq_true rfl) d_Mo_order_92 (fun H locs hP hD hS => ?_)
                have hP : va_P D vwCl [(g0, .inr (6, [.int 2, .int ar, .ref m_sea, .ref m_center, .ref m_home, .ref m_borders, .int mp, .int mt, .ref m_owner, .ref m_units, .ref m_kind, .ref m_toX, .ref m_toY, .ref m_results, .ref m_known, .ref m_reached, .ref m_way, .ref m_aside, .ref m_origin, .ref m_retreats, .ref m_contested, .ref m_moved, .int msh, .ref m_past]))] H := hP
                have hD : va_D A [(g0, .inr (6, [.int 2, .int ar, .ref m_sea, .ref m_center, .ref m_home, .ref m_borders, .int mp, .int mt, .ref m_owner, .ref m_units, .ref m_kind, .ref m_toX, .ref m_toY, .ref m_results, .ref m_known, .ref m_reached, .ref m_way, .ref m_aside, .ref m_origin, .ref m_retreats, .ref m_contested, .ref m_moved, .int msh, .ref m_past]))] := hD
                refine lv_aload_n hx hb d_Mo_order_95 rfl (lv_at hl 1 rfl) ?_
                refine va_get (D := D) (ci := 6) (v := .int 2) (C := R_Mo) (T := T_Mo) (N := 24) hx hb hts hin_Mo hown hK hP 0 rfl rfl 0 (by decide) (hts _ wd_704) (fun _ h9 => h9) rfl d_Mo_order_96 ?_
                refine lv_if_eq (tgt := 104) hx hb d_Mo_order_99 (by decide) (fun h0 => absurd h0 (by decide)) (fun _ => ?_)
                refine lv_iconst (v := 0) hx hb d_Mo_order_102 (by decide) ?_
                have hP9 := hP.sub (ws' := [(g0, .inr (6, [.int 2, .int ar, .ref m_sea, .ref m_center, .ref m_home, .ref m_borders, .int mp, .int mt, .ref m_owner, .ref m_units, .ref m_kind, .ref m_toX, .ref m_toY, .ref m_results, .ref m_known, .ref m_reached, .ref m_way, .ref m_aside, .ref m_origin, .ref m_retreats, .ref m_contested, .ref m_moved, .int msh, .ref m_past]))]) [0] rfl
                have hD9 := hD.sub (ws' := [(g0, .inr (6, [.int 2, .int ar, .ref m_sea, .ref m_center, .ref m_home, .ref m_borders, .int mp, .int mt, .ref m_owner, .ref m_units, .ref m_kind, .ref m_toX, .ref m_toY, .ref m_results, .ref m_known, .ref m_reached, .ref m_way, .ref m_aside, .ref m_origin, .ref m_retreats, .ref m_contested, .ref m_moved, .int msh, .ref m_past]))]) [0] (by decide) rfl
                exact W.iret (v := 0) hx hb hr (fun t ht hW => ⟨⟨0, (), rfl, rfl, by rw [ht]; exact hP9, hD9⟩, hS.F ht⟩) hS.2.2 d_Mo_order_103
        · -- 55: false
          refine lv_if_eq (tgt := 75) hx hb d_Mo_order_58 (by decide) (fun _ => ?_) (fun h0 => absurd (by decide) h0)
          exact False.elim (by unfold okO at hok; revert hok hc1 hc2 hq4 hq7; simp only [Int32.lt_iff_toInt_lt, Int32.le_iff_toInt_le, ← Int32.toInt_inj, Int32.reduceToInt, i32_m1]; omega)
      · -- 47: false
        refine lv_if_eq (tgt := 75) hx hb d_Mo_order_50 (by decide) (fun _ => ?_) (fun h0 => absurd (by decide) h0)
        exact False.elim (by unfold okO at hok; revert hok hc1 hc2 hq4; simp only [Int32.lt_iff_toInt_lt, Int32.le_iff_toInt_le, ← Int32.toInt_inj, Int32.reduceToInt, i32_m1]; omega)
    · -- 21 not taken
      refine lv_iload_n hx hb d_Mo_order_24 rfl (lv_at hl 3 rfl) ?_
      refine lv_iconst (v := 3) hx hb d_Mo_order_25 (by decide) ?_
      refine lv_icmp_gt (tgt := 38) hx hb d_Mo_order_26 (by decide) (fun hc16 => ?_) (fun hc16 => ?_)
      · -- 26 taken
        refine lv_iconst (v := 1) hx hb d_Mo_order_38 (by decide) ?_
        refine lv_goto (tgt := 43) hx hb d_Mo_order_39 (by decide) ?_
        refine lv_istore (lv' := [(6, .int 1), (0, .ref g0), (1, .int pl), (2, .int a), (3, .int k), (4, .int x), (5, .int y)]) hx hb d_Mo_order_43 hl (by decide) rfl (fun ls hl => ?_)
        refine lv_aload_n hx hb d_Mo_order_45 rfl (lv_at hl 1 rfl) ?_
        refine lv_iload_n hx hb d_Mo_order_46 rfl (lv_at hl 2 rfl) ?_
        have hPc := hP.sub (ws' := []) [] rfl
        refine vp_callSi (va_Run.run (va_runS (As := [.int pl]) (rest := [.ref g0]) ⟨hx, hb, hml, hown, hts⟩ (c_Mo_isPlayer l D cI cZ cJ cS aT ceT  pl ) (va_cwS 1 hts (tb_3 wd_802 wd_803 wd_8 (tb_c wd_804)) rfl rfl rfl ⟨by decide, by decide, by decide +kernel⟩ ⟨Nat.le_of_ble_eq_true rfl, Nat.le_of_ble_eq_true rfl⟩) (tP_S hK hX (hS.2.1 aT hXl hXn) hPc) rfl rfl hl.1 rfl (lv_room (Nat.le_of_ble_eq_true rfl)) d_Mo_order_47 ⟨Nat.le_of_ble_eq_true rfl, Nat.le_of_ble_eq_true rfl⟩)) (fun r17 hr9 => ?_)
        rcases hr9 with ⟨rfl, hq18⟩ | ⟨rfl, hq18⟩
        · -- 47: true
          refine lv_if_eq (tgt := 75) hx hb d_Mo_order_50 (by decide) (fun h0 => absurd h0 (by decide)) (fun _ => ?_)
          refine lv_aload_n hx hb d_Mo_order_53 rfl (lv_at hl 1 rfl) ?_
          refine lv_iload_n hx hb d_Mo_order_54 rfl (lv_at hl 3 rfl) ?_
          have hPc := hP.sub (ws' := [(g0, .inr (6, [.int co, .int ar, .ref m_sea, .ref m_center, .ref m_home, .ref m_borders, .int mp, .int mt, .ref m_owner, .ref m_units, .ref m_kind, .ref m_toX, .ref m_toY, .ref m_results, .ref m_known, .ref m_reached, .ref m_way, .ref m_aside, .ref m_origin, .ref m_retreats, .ref m_contested, .ref m_moved, .int msh, .ref m_past]))]) [0] rfl
          refine vp_callSi (va_Run.run (va_runV (As := [.int a]) (rest := [.ref g0]) ⟨hx, hb, hml, hown, hts⟩ (c_Mo_isArea l D cI cZ cJ cS aT ceT  g0 m_sea m_center m_home m_borders m_owner m_units m_kind m_toX m_toY m_results m_known m_reached m_way m_aside m_origin m_retreats m_contested m_moved m_past co ar mp mt msh a ) (cwV 1 hts (tb_4 wd_790 wd_792 wp_36 wd_8 (tb_c wd_793)) rfl rfl rfl ⟨rfl, by decide, by decide, by decide +kernel⟩ ⟨Nat.le_of_ble_eq_true rfl, Nat.le_of_ble_eq_true rfl⟩) (tP_V hK hX (hS.2.1 aT hXl hXn) hPc (q := 0) rfl rfl) rfl rfl hl.1 rfl (lv_room (Nat.le_of_ble_eq_true rfl)) d_Mo_order_55 ⟨Nat.le_of_ble_eq_true rfl, Nat.le_of_ble_eq_true rfl⟩)) (fun r20 hr9 => ?_)
          rcases hr9 with ⟨rfl, hq21⟩ | ⟨rfl, hq21⟩
          · -- 55: true
            refine lv_if_eq (tgt := 75) hx hb d_Mo_order_58 (by decide) (fun h0 => absurd h0 (by decide)) (fun _ => ?_)
            refine lv_iload_n hx hb d_Mo_order_61 rfl (lv_at hl 4 rfl) ?_
            refine lv_if_lt (tgt := 75) hx hb d_Mo_order_62 (by decide) (fun hc23 => ?_) (fun hc23 => ?_)
            · -- 62 taken
              exact False.elim (by unfold okO at hok; revert hok hc1 hc2 hc16 hq18 hq21 hc23; simp only [Int32.lt_iff_toInt_lt, Int32.le_iff_toInt_le, ← Int32.toInt_inj, Int32.reduceToInt, i32_m1]; omega)
            · -- 62 not taken
              refine lv_iload_n hx hb d_Mo_order_65 rfl (lv_at hl 4 rfl) ?_
              refine lv_iconst (v := 3) hx hb d_Mo_order_66 (by decide) ?_
              refine lv_icmp_gt (tgt := 75) hx hb d_Mo_order_67 (by decide) (fun hc24 => ?_) (fun hc24 => ?_)
              · -- 67 taken
                exact False.elim (by unfold okO at hok; revert hok hc1 hc2 hc16 hq18 hq21 hc23 hc24; simp only [Int32.lt_iff_toInt_lt, Int32.le_iff_toInt_le, ← Int32.toInt_inj, Int32.reduceToInt, i32_m1]; omega)
              · -- 67 not taken
                refine lv_iload hx hb d_Mo_order_70 (lv_at hl 0 rfl) ?_
                refine lv_if_ne (tgt := 79) hx hb d_Mo_order_72 (by decide) (fun _ => ?_) (fun h0 => absurd h0 (by decide))
                refine lv_aload_n hx hb d_Mo_order_79 rfl (lv_at hl 1 rfl) ?_
                refine va_get (D := D) (ci := 6) (v := .int mp) (C := R_Mo) (T := T_Mo) (N := 24) hx hb hts hin_Mo hown hK hP 0 rfl rfl 6 (by decide) (hts _ wd_710) (fun _ h9 => h9) rfl d_Mo_order_80 ?_
                refine lv_iconst (v := 1) hx hb d_Mo_order_83 (by decide) ?_
                refine lv_icmp_eq (tgt := 91) hx hb d_Mo_order_84 (by decide) (fun hc26 => ?_) (fun hc26 => ?_)
                · -- 84 taken
                  exact absurd hc26 hph
                · -- 84 not taken
                  refine lv_iconst (v := 2) hx hb d_Mo_order_87 (by decide) ?_
                  refine lv_goto (tgt := 92) hx hb d_Mo_order_88 (by decide) ?_
                  refine va_put (D := D) (ci := 6) (v := .int 2) (ty := .int) (C := R_Mo) (T := T_Mo) (N := 24) hx hb hts hin_Mo ty_Mo tyok_Mo nm_Mo hown hK hP hD hS 0 rfl rfl 0 (by decide) (hts _ wd_704) (fun _ h9 => h9) rfl (by decide +kernel) rfl rfl (Nat.le_of_ble_eq_true rfl) d_Mo_order_92 (fun H locs hP hD hS => ?_)
                  have hP : va_P D vwCl [(g0, .inr (6, [.int 2, .int ar, .ref m_sea, .ref m_center, .ref m_home, .ref m_borders, .int mp, .int mt, .ref m_owner, .ref m_units, .ref m_kind, .ref m_toX, .ref m_toY, .ref m_results, .ref m_known, .ref m_reached, .ref m_way, .ref m_aside, .ref m_origin, .ref m_retreats, .ref m_contested, .ref m_moved, .int msh, .ref m_past]))] H := hP
                  have hD : va_D A [(g0, .inr (6, [.int 2, .int ar, .ref m_sea, .ref m_center, .ref m_home, .ref m_borders, .int mp, .int mt, .ref m_owner, .ref m_units, .ref m_kind, .ref m_toX, .ref m_toY, .ref m_results, .ref m_known, .ref m_reached, .ref m_way, .ref m_aside, .ref m_origin, .ref m_retreats, .ref m_contested, .ref m_moved, .int msh, .ref m_past]))] := hD
                  refine lv_aload_n hx hb d_Mo_order_95 rfl (lv_at hl 1 rfl) ?_
                  refine va_get (D := D) (ci := 6) (v := .int 2) (C := R_Mo) (T := T_Mo) (N := 24) hx hb hts hin_Mo hown hK hP 0 rfl rfl 0 (by decide) (hts _ wd_704) (fun _ h9 => h9) rfl d_Mo_order_96 ?_
                  refine lv_if_eq (tgt := 104) hx hb d_Mo_order_99 (by decide) (fun h0 => absurd h0 (by decide)) (fun _ => ?_)
                  refine lv_iconst (v := 0) hx hb d_Mo_order_102 (by decide) ?_
                  have hP9 := hP.sub (ws' := [(g0, .inr (6, [.int 2, .int ar, .ref m_sea, .ref m_center, .ref m_home, .ref m_borders, .int mp, .int mt, .ref m_owner, .ref m_units, .ref m_kind, .ref m_toX, .ref m_toY, .ref m_results, .ref m_known, .ref m_reached, .ref m_way, .ref m_aside, .ref m_origin, .ref m_retreats, .ref m_contested, .ref m_moved, .int msh, .ref m_past]))]) [0] rfl
                  have hD9 := hD.sub (ws' := [(g0, .inr (6, [.int 2, .int ar, .ref m_sea, .ref m_center, .ref m_home, .ref m_borders, .int mp, .int mt, .ref m_owner, .ref m_units, .ref m_kind, .ref m_toX, .ref m_toY, .ref m_results, .ref m_known, .ref m_reached, .ref m_way, .ref m_aside, .ref m_origin, .ref m_retreats, .ref m_contested, .ref m_moved, .int msh, .ref m_past]))]) [0] (by decide) rfl
                  exact W.iret (v := 0) hx hb hr (fun t ht hW => ⟨⟨0, (), rfl, rfl, by rw [ht]; exact hP9, hD9⟩, hS.F ht⟩) hS.2.2 d_Mo_order_103
          · -- 55: false
            refine lv_if_eq (tgt := 75) hx hb d_Mo_order_58 (by decide) (fun _ => ?_) (fun h0 => absurd (by decide) h0)
            exact False.elim (by unfold okO at hok; revert hok hc1 hc2 hc16 hq18 hq21; simp only [Int32.lt_iff_toInt_lt, Int32.le_iff_toInt_le, ← Int32.toInt_inj, Int32.reduceToInt, i32_m1]; omega)
        · -- 47: false
          refine lv_if_eq (tgt := 75) hx hb d_Mo_order_50 (by decide) (fun _ => ?_) (fun h0 => absurd (by decide) h0)
          exact False.elim (by unfold okO at hok; revert hok hc1 hc2 hc16 hq18; simp only [Int32.lt_iff_toInt_lt, Int32.le_iff_toInt_le, ← Int32.toInt_inj, Int32.reduceToInt, i32_m1]; omega)
      · -- 26 not taken
        refine lv_aload_n hx hb d_Mo_order_29 rfl (lv_at hl 0 rfl) ?_
        refine lv_iload hx hb d_Mo_order_30 (lv_at hl 5 rfl) ?_
        have hPc := hP.sub (ws' := [(g0, .inr (6, [.int co, .int ar, .ref m_sea, .ref m_center, .ref m_home, .ref m_borders, .int mp, .int mt, .ref m_owner, .ref m_units, .ref m_kind, .ref m_toX, .ref m_toY, .ref m_results, .ref m_known, .ref m_reached, .ref m_way, .ref m_aside, .ref m_origin, .ref m_retreats, .ref m_contested, .ref m_moved, .int msh, .ref m_past]))]) [0] rfl
        refine vp_callSi (va_Run.run (va_runV (As := [.int y]) (rest := []) ⟨hx, hb, hml, hown, hts⟩ (c_Mo_isArea l D cI cZ cJ cS aT ceT  g0 m_sea m_center m_home m_borders m_owner m_units m_kind m_toX m_toY m_results m_known m_reached m_way m_aside m_origin m_retreats m_contested m_moved m_past co ar mp mt msh y ) (cwV 1 hts (tb_4 wd_790 wd_792 wp_36 wd_8 (tb_c wd_793)) rfl rfl rfl ⟨rfl, by decide, by decide, by decide +kernel⟩ ⟨Nat.le_of_ble_eq_true rfl, Nat.le_of_ble_eq_true rfl⟩) (tP_V hK hX (hS.2.1 aT hXl hXn) hPc (q := 0) rfl rfl) rfl rfl hl.1 rfl (lv_room (Nat.le_of_ble_eq_true rfl)) d_Mo_order_32 ⟨Nat.le_of_ble_eq_true rfl, Nat.le_of_ble_eq_true rfl⟩)) (fun r30 hr9 => ?_)
        rcases hr9 with ⟨rfl, hq31⟩ | ⟨rfl, hq31⟩
        · -- 32: true
          refine lv_if_eq (tgt := 42) hx hb d_Mo_order_35 (by decide) (fun h0 => absurd h0 (by decide)) (fun _ => ?_)
          refine lv_iconst (v := 1) hx hb d_Mo_order_38 (by decide) ?_
          refine lv_goto (tgt := 43) hx hb d_Mo_order_39 (by decide) ?_
          refine lv_istore (lv' := [(6, .int 1), (0, .ref g0), (1, .int pl), (2, .int a), (3, .int k), (4, .int x), (5, .int y)]) hx hb d_Mo_order_43 hl (by decide) rfl (fun ls hl => ?_)
          refine lv_aload_n hx hb d_Mo_order_45 rfl (lv_at hl 1 rfl) ?_
          refine lv_iload_n hx hb d_Mo_order_46 rfl (lv_at hl 2 rfl) ?_
          have hPc := hP.sub (ws' := []) [] rfl
          refine vp_callSi (va_Run.run (va_runS (As := [.int pl]) (rest := [.ref g0]) ⟨hx, hb, hml, hown, hts⟩ (c_Mo_isPlayer l D cI cZ cJ cS aT ceT  pl ) (va_cwS 1 hts (tb_3 wd_802 wd_803 wd_8 (tb_c wd_804)) rfl rfl rfl ⟨by decide, by decide, by decide +kernel⟩ ⟨Nat.le_of_ble_eq_true rfl, Nat.le_of_ble_eq_true rfl⟩) (tP_S hK hX (hS.2.1 aT hXl hXn) hPc) rfl rfl hl.1 rfl (lv_room (Nat.le_of_ble_eq_true rfl)) d_Mo_order_47 ⟨Nat.le_of_ble_eq_true rfl, Nat.le_of_ble_eq_true rfl⟩)) (fun r33 hr9 => ?_)
          rcases hr9 with ⟨rfl, hq34⟩ | ⟨rfl, hq34⟩
          · -- 47: true
            refine lv_if_eq (tgt := 75) hx hb d_Mo_order_50 (by decide) (fun h0 => absurd h0 (by decide)) (fun _ => ?_)
            refine lv_aload_n hx hb d_Mo_order_53 rfl (lv_at hl 1 rfl) ?_
            refine lv_iload_n hx hb d_Mo_order_54 rfl (lv_at hl 3 rfl) ?_
            have hPc := hP.sub (ws' := [(g0, .inr (6, [.int co, .int ar, .ref m_sea, .ref m_center, .ref m_home, .ref m_borders, .int mp, .int mt, .ref m_owner, .ref m_units, .ref m_kind, .ref m_toX, .ref m_toY, .ref m_results, .ref m_known, .ref m_reached, .ref m_way, .ref m_aside, .ref m_origin, .ref m_retreats, .ref m_contested, .ref m_moved, .int msh, .ref m_past]))]) [0] rfl
            refine vp_callSi (va_Run.run (va_runV (As := [.int a]) (rest := [.ref g0]) ⟨hx, hb, hml, hown, hts⟩ (c_Mo_isArea l D cI cZ cJ cS aT ceT  g0 m_sea m_center m_home m_borders m_owner m_units m_kind m_toX m_toY m_results m_known m_reached m_way m_aside m_origin m_retreats m_contested m_moved m_past co ar mp mt msh a ) (cwV 1 hts (tb_4 wd_790 wd_792 wp_36 wd_8 (tb_c wd_793)) rfl rfl rfl ⟨rfl, by decide, by decide, by decide +kernel⟩ ⟨Nat.le_of_ble_eq_true rfl, Nat.le_of_ble_eq_true rfl⟩) (tP_V hK hX (hS.2.1 aT hXl hXn) hPc (q := 0) rfl rfl) rfl rfl hl.1 rfl (lv_room (Nat.le_of_ble_eq_true rfl)) d_Mo_order_55 ⟨Nat.le_of_ble_eq_true rfl, Nat.le_of_ble_eq_true rfl⟩)) (fun r36 hr9 => ?_)
            rcases hr9 with ⟨rfl, hq37⟩ | ⟨rfl, hq37⟩
            · -- 55: true
              refine lv_if_eq (tgt := 75) hx hb d_Mo_order_58 (by decide) (fun h0 => absurd h0 (by decide)) (fun _ => ?_)
              refine lv_iload_n hx hb d_Mo_order_61 rfl (lv_at hl 4 rfl) ?_
              refine lv_if_lt (tgt := 75) hx hb d_Mo_order_62 (by decide) (fun hc39 => ?_) (fun hc39 => ?_)
              · -- 62 taken
                exact False.elim (by unfold okO at hok; revert hok hc1 hc2 hc16 hq31 hq34 hq37 hc39; simp only [Int32.lt_iff_toInt_lt, Int32.le_iff_toInt_le, ← Int32.toInt_inj, Int32.reduceToInt, i32_m1]; omega)
              · -- 62 not taken
                refine lv_iload_n hx hb d_Mo_order_65 rfl (lv_at hl 4 rfl) ?_
                refine lv_iconst (v := 3) hx hb d_Mo_order_66 (by decide) ?_
                refine lv_icmp_gt (tgt := 75) hx hb d_Mo_order_67 (by decide) (fun hc40 => ?_) (fun hc40 => ?_)
                · -- 67 taken
                  exact False.elim (by unfold okO at hok; revert hok hc1 hc2 hc16 hq31 hq34 hq37 hc39 hc40; simp only [Int32.lt_iff_toInt_lt, Int32.le_iff_toInt_le, ← Int32.toInt_inj, Int32.reduceToInt, i32_m1]; omega)
                · -- 67 not taken
                  refine lv_iload hx hb d_Mo_order_70 (lv_at hl 0 rfl) ?_
                  refine lv_if_ne (tgt := 79) hx hb d_Mo_order_72 (by decide) (fun _ => ?_) (fun h0 => absurd h0 (by decide))
                  refine lv_aload_n hx hb d_Mo_order_79 rfl (lv_at hl 1 rfl) ?_
                  refine va_get (D := D) (ci := 6) (v := .int mp) (C := R_Mo) (T := T_Mo) (N := 24) hx hb hts hin_Mo hown hK hP 0 rfl rfl 6 (by decide) (hts _ wd_710) (fun _ h9 => h9) rfl d_Mo_order_80 ?_
                  refine lv_iconst (v := 1) hx hb d_Mo_order_83 (by decide) ?_
                  refine lv_icmp_eq (tgt := 91) hx hb d_Mo_order_84 (by decide) (fun hc42 => ?_) (fun hc42 => ?_)
                  · -- 84 taken
                    exact absurd hc42 hph
                  · -- 84 not taken
                    refine lv_iconst (v := 2) hx hb d_Mo_order_87 (by decide) ?_
                    refine lv_goto (tgt := 92) hx hb d_Mo_order_88 (by decide) ?_
                    refine va_put (D := D) (ci := 6) (v := .int 2) (ty := .int) (C := R_Mo) (T := T_Mo) (N := 24) hx hb hts hin_Mo ty_Mo tyok_Mo nm_Mo hown hK hP hD hS 0 rfl rfl 0 (by decide) (hts _ wd_704) (fun _ h9 => h9) rfl (by decide +kernel) rfl rfl (Nat.le_of_ble_eq_true rfl) d_Mo_order_92 (fun H locs hP hD hS => ?_)
                    have hP : va_P D vwCl [(g0, .inr (6, [.int 2, .int ar, .ref m_sea, .ref m_center, .ref m_home, .ref m_borders, .int mp, .int mt, .ref m_owner, .ref m_units, .ref m_kind, .ref m_toX, .ref m_toY, .ref m_results, .ref m_known, .ref m_reached, .ref m_way, .ref m_aside, .ref m_origin, .ref m_retreats, .ref m_contested, .ref m_moved, .int msh, .ref m_past]))] H := hP
                    have hD : va_D A [(g0, .inr (6, [.int 2, .int ar, .ref m_sea, .ref m_center, .ref m_home, .ref m_borders, .int mp, .int mt, .ref m_owner, .ref m_units, .ref m_kind, .ref m_toX, .ref m_toY, .ref m_results, .ref m_known, .ref m_reached, .ref m_way, .ref m_aside, .ref m_origin, .ref m_retreats, .ref m_contested, .ref m_moved, .int msh, .ref m_past]))] := hD
                    refine lv_aload_n hx hb d_Mo_order_95 rfl (lv_at hl 1 rfl) ?_
                    refine va_get (D := D) (ci := 6) (v := .int 2) (C := R_Mo) (T := T_Mo) (N := 24) hx hb hts hin_Mo hown hK hP 0 rfl rfl 0 (by decide) (hts _ wd_704) (fun _ h9 => h9) rfl d_Mo_order_96 ?_
                    refine lv_if_eq (tgt := 104) hx hb d_Mo_order_99 (by decide) (fun h0 => absurd h0 (by decide)) (fun _ => ?_)
                    refine lv_iconst (v := 0) hx hb d_Mo_order_102 (by decide) ?_
                    have hP9 := hP.sub (ws' := [(g0, .inr (6, [.int 2, .int ar, .ref m_sea, .ref m_center, .ref m_home, .ref m_borders, .int mp, .int mt, .ref m_owner, .ref m_units, .ref m_kind, .ref m_toX, .ref m_toY, .ref m_results, .ref m_known, .ref m_reached, .ref m_way, .ref m_aside, .ref m_origin, .ref m_retreats, .ref m_contested, .ref m_moved, .int msh, .ref m_past]))]) [0] rfl
                    have hD9 := hD.sub (ws' := [(g0, .inr (6, [.int 2, .int ar, .ref m_sea, .ref m_center, .ref m_home, .ref m_borders, .int mp, .int mt, .ref m_owner, .ref m_units, .ref m_kind, .ref m_toX, .ref m_toY, .ref m_results, .ref m_known, .ref m_reached, .ref m_way, .ref m_aside, .ref m_origin, .ref m_retreats, .ref m_contested, .ref m_moved, .int msh, .ref m_past]))]) [0] (by decide) rfl
                    exact W.iret (v := 0) hx hb hr (fun t ht hW => ⟨⟨0, (), rfl, rfl, by rw [ht]; exact hP9, hD9⟩, hS.F ht⟩) hS.2.2 d_Mo_order_103
            · -- 55: false
              refine lv_if_eq (tgt := 75) hx hb d_Mo_order_58 (by decide) (fun _ => ?_) (fun h0 => absurd (by decide) h0)
              exact False.elim (by unfold okO at hok; revert hok hc1 hc2 hc16 hq31 hq34 hq37; simp only [Int32.lt_iff_toInt_lt, Int32.le_iff_toInt_le, ← Int32.toInt_inj, Int32.reduceToInt, i32_m1]; omega)
          · -- 47: false
            refine lv_if_eq (tgt := 75) hx hb d_Mo_order_50 (by decide) (fun _ => ?_) (fun h0 => absurd (by decide) h0)
            exact False.elim (by unfold okO at hok; revert hok hc1 hc2 hc16 hq31 hq34; simp only [Int32.lt_iff_toInt_lt, Int32.le_iff_toInt_le, ← Int32.toInt_inj, Int32.reduceToInt, i32_m1]; omega)
        · -- 32: false
          refine lv_if_eq (tgt := 42) hx hb d_Mo_order_35 (by decide) (fun _ => ?_) (fun h0 => absurd (by decide) h0)
          refine lv_iconst (v := 0) hx hb d_Mo_order_42 (by decide) ?_
          refine lv_istore (lv' := [(6, .int 0), (0, .ref g0), (1, .int pl), (2, .int a), (3, .int k), (4, .int x), (5, .int y)]) hx hb d_Mo_order_43 hl (by decide) rfl (fun ls hl => ?_)
          refine lv_aload_n hx hb d_Mo_order_45 rfl (lv_at hl 1 rfl) ?_
          refine lv_iload_n hx hb d_Mo_order_46 rfl (lv_at hl 2 rfl) ?_
          have hPc := hP.sub (ws' := []) [] rfl
          refine vp_callSi (va_Run.run (va_runS (As := [.int pl]) (rest := [.ref g0]) ⟨hx, hb, hml, hown, hts⟩ (c_Mo_isPlayer l D cI cZ cJ cS aT ceT  pl ) (va_cwS 1 hts (tb_3 wd_802 wd_803 wd_8 (tb_c wd_804)) rfl rfl rfl ⟨by decide, by decide, by decide +kernel⟩ ⟨Nat.le_of_ble_eq_true rfl, Nat.le_of_ble_eq_true rfl⟩) (tP_S hK hX (hS.2.1 aT hXl hXn) hPc) rfl rfl hl.1 rfl (lv_room (Nat.le_of_ble_eq_true rfl)) d_Mo_order_47 ⟨Nat.le_of_ble_eq_true rfl, Nat.le_of_ble_eq_true rfl⟩)) (fun r47 hr9 => ?_)
          rcases hr9 with ⟨rfl, hq48⟩ | ⟨rfl, hq48⟩
          · -- 47: true
            refine lv_if_eq (tgt := 75) hx hb d_Mo_order_50 (by decide) (fun h0 => absurd h0 (by decide)) (fun _ => ?_)
            refine lv_aload_n hx hb d_Mo_order_53 rfl (lv_at hl 1 rfl) ?_
            refine lv_iload_n hx hb d_Mo_order_54 rfl (lv_at hl 3 rfl) ?_
            have hPc := hP.sub (ws' := [(g0, .inr (6, [.int co, .int ar, .ref m_sea, .ref m_center, .ref m_home, .ref m_borders, .int mp, .int mt, .ref m_owner, .ref m_units, .ref m_kind, .ref m_toX, .ref m_toY, .ref m_results, .ref m_known, .ref m_reached, .ref m_way, .ref m_aside, .ref m_origin, .ref m_retreats, .ref m_contested, .ref m_moved, .int msh, .ref m_past]))]) [0] rfl
            refine vp_callSi (va_Run.run (va_runV (As := [.int a]) (rest := [.ref g0]) ⟨hx, hb, hml, hown, hts⟩ (c_Mo_isArea l D cI cZ cJ cS aT ceT  g0 m_sea m_center m_home m_borders m_owner m_units m_kind m_toX m_toY m_results m_known m_reached m_way m_aside m_origin m_retreats m_contested m_moved m_past co ar mp mt msh a ) (cwV 1 hts (tb_4 wd_790 wd_792 wp_36 wd_8 (tb_c wd_793)) rfl rfl rfl ⟨rfl, by decide, by decide, by decide +kernel⟩ ⟨Nat.le_of_ble_eq_true rfl, Nat.le_of_ble_eq_true rfl⟩) (tP_V hK hX (hS.2.1 aT hXl hXn) hPc (q := 0) rfl rfl) rfl rfl hl.1 rfl (lv_room (Nat.le_of_ble_eq_true rfl)) d_Mo_order_55 ⟨Nat.le_of_ble_eq_true rfl, Nat.le_of_ble_eq_true rfl⟩)) (fun r50 hr9 => ?_)
            rcases hr9 with ⟨rfl, hq51⟩ | ⟨rfl, hq51⟩
            · -- 55: true
              refine lv_if_eq (tgt := 75) hx hb d_Mo_order_58 (by decide) (fun h0 => absurd h0 (by decide)) (fun _ => ?_)
              refine lv_iload_n hx hb d_Mo_order_61 rfl (lv_at hl 4 rfl) ?_
              refine lv_if_lt (tgt := 75) hx hb d_Mo_order_62 (by decide) (fun hc53 => ?_) (fun hc53 => ?_)
              · -- 62 taken
                exact False.elim (by unfold okO at hok; revert hok hc1 hc2 hc16 hq31 hq48 hq51 hc53; simp only [Int32.lt_iff_toInt_lt, Int32.le_iff_toInt_le, ← Int32.toInt_inj, Int32.reduceToInt, i32_m1]; omega)
              · -- 62 not taken
                refine lv_iload_n hx hb d_Mo_order_65 rfl (lv_at hl 4 rfl) ?_
                refine lv_iconst (v := 3) hx hb d_Mo_order_66 (by decide) ?_
                refine lv_icmp_gt (tgt := 75) hx hb d_Mo_order_67 (by decide) (fun hc54 => ?_) (fun hc54 => ?_)
                · -- 67 taken
                  exact False.elim (by unfold okO at hok; revert hok hc1 hc2 hc16 hq31 hq48 hq51 hc53 hc54; simp only [Int32.lt_iff_toInt_lt, Int32.le_iff_toInt_le, ← Int32.toInt_inj, Int32.reduceToInt, i32_m1]; omega)
                · -- 67 not taken
                  refine lv_iload hx hb d_Mo_order_70 (lv_at hl 0 rfl) ?_
                  refine lv_if_ne (tgt := 79) hx hb d_Mo_order_72 (by decide) (fun h0 => absurd (by decide) h0) (fun _ => ?_)
                  exact False.elim (by unfold okO at hok; revert hok hc1 hc2 hc16 hq31 hq48 hq51 hc53 hc54; simp only [Int32.lt_iff_toInt_lt, Int32.le_iff_toInt_le, ← Int32.toInt_inj, Int32.reduceToInt, i32_m1]; omega)
            · -- 55: false
              refine lv_if_eq (tgt := 75) hx hb d_Mo_order_58 (by decide) (fun _ => ?_) (fun h0 => absurd (by decide) h0)
              exact False.elim (by unfold okO at hok; revert hok hc1 hc2 hc16 hq31 hq48 hq51; simp only [Int32.lt_iff_toInt_lt, Int32.le_iff_toInt_le, ← Int32.toInt_inj, Int32.reduceToInt, i32_m1]; omega)
          · -- 47: false
            refine lv_if_eq (tgt := 75) hx hb d_Mo_order_50 (by decide) (fun _ => ?_) (fun h0 => absurd (by decide) h0)
            exact False.elim (by unfold okO at hok; revert hok hc1 hc2 hc16 hq31 hq48; simp only [Int32.lt_iff_toInt_lt, Int32.le_iff_toInt_le, ← Int32.toInt_inj, Int32.reduceToInt, i32_m1]; omega)
  · -- 2 not taken
    refine lv_iload_n hx hb d_Mo_order_5 rfl (lv_at hl 3 rfl) ?_
    refine lv_iconst (v := 3) hx hb d_Mo_order_6 (by decide) ?_
    refine lv_icmp_gt (tgt := 19) hx hb d_Mo_order_7 (by decide) (fun hc58 => ?_) (fun hc58 => ?_)
    · -- 7 taken
      refine lv_iload_n hx hb d_Mo_order_19 rfl (lv_at hl 3 rfl) ?_
      refine lv_iconst (v := 2) hx hb d_Mo_order_20 (by decide) ?_
      refine lv_icmp_lt (tgt := 38) hx hb d_Mo_order_21 (by decide) (fun hc59 => ?_) (fun hc59 => ?_)
      · -- 21 taken
        refine lv_iconst (v := 1) hx hb d_Mo_order_38 (by decide) ?_
        refine lv_goto (tgt := 43) hx hb d_Mo_order_39 (by decide) ?_
        refine lv_istore (lv' := [(6, .int 1), (0, .ref g0), (1, .int pl), (2, .int a), (3, .int k), (4, .int x), (5, .int y)]) hx hb d_Mo_order_43 hl (by decide) rfl (fun ls hl => ?_)
        refine lv_aload_n hx hb d_Mo_order_45 rfl (lv_at hl 1 rfl) ?_
        refine lv_iload_n hx hb d_Mo_order_46 rfl (lv_at hl 2 rfl) ?_
        have hPc := hP.sub (ws' := []) [] rfl
        refine vp_callSi (va_Run.run (va_runS (As := [.int pl]) (rest := [.ref g0]) ⟨hx, hb, hml, hown, hts⟩ (c_Mo_isPlayer l D cI cZ cJ cS aT ceT  pl ) (va_cwS 1 hts (tb_3 wd_802 wd_803 wd_8 (tb_c wd_804)) rfl rfl rfl ⟨by decide, by decide, by decide +kernel⟩ ⟨Nat.le_of_ble_eq_true rfl, Nat.le_of_ble_eq_true rfl⟩) (tP_S hK hX (hS.2.1 aT hXl hXn) hPc) rfl rfl hl.1 rfl (lv_room (Nat.le_of_ble_eq_true rfl)) d_Mo_order_47 ⟨Nat.le_of_ble_eq_true rfl, Nat.le_of_ble_eq_true rfl⟩)) (fun r60 hr9 => ?_)
        rcases hr9 with ⟨rfl, hq61⟩ | ⟨rfl, hq61⟩
        · -- 47: true
          refine lv_if_eq (tgt := 75) hx hb d_Mo_order_50 (by decide) (fun h0 => absurd h0 (by decide)) (fun _ => ?_)
          refine lv_aload_n hx hb d_Mo_order_53 rfl (lv_at hl 1 rfl) ?_
          refine lv_iload_n hx hb d_Mo_order_54 rfl (lv_at hl 3 rfl) ?_
          have hPc := hP.sub (ws' := [(g0, .inr (6, [.int co, .int ar, .ref m_sea, .ref m_center, .ref m_home, .ref m_borders, .int mp, .int mt, .ref m_owner, .ref m_units, .ref m_kind, .ref m_toX, .ref m_toY, .ref m_results, .ref m_known, .ref m_reached, .ref m_way, .ref m_aside, .ref m_origin, .ref m_retreats, .ref m_contested, .ref m_moved, .int msh, .ref m_past]))]) [0] rfl
          refine vp_callSi (va_Run.run (va_runV (As := [.int a]) (rest := [.ref g0]) ⟨hx, hb, hml, hown, hts⟩ (c_Mo_isArea l D cI cZ cJ cS aT ceT  g0 m_sea m_center m_home m_borders m_owner m_units m_kind m_toX m_toY m_results m_known m_reached m_way m_aside m_origin m_retreats m_contested m_moved m_past co ar mp mt msh a ) (cwV 1 hts (tb_4 wd_790 wd_792 wp_36 wd_8 (tb_c wd_793)) rfl rfl rfl ⟨rfl, by decide, by decide, by decide +kernel⟩ ⟨Nat.le_of_ble_eq_true rfl, Nat.le_of_ble_eq_true rfl⟩) (tP_V hK hX (hS.2.1 aT hXl hXn) hPc (q := 0) rfl rfl) rfl rfl hl.1 rfl (lv_room (Nat.le_of_ble_eq_true rfl)) d_Mo_order_55 ⟨Nat.le_of_ble_eq_true rfl, Nat.le_of_ble_eq_true rfl⟩)) (fun r63 hr9 => ?_)
          rcases hr9 with ⟨rfl, hq64⟩ | ⟨rfl, hq64⟩
          · -- 55: true
            refine lv_if_eq (tgt := 75) hx hb d_Mo_order_58 (by decide) (fun h0 => absurd h0 (by decide)) (fun _ => ?_)
            refine lv_iload_n hx hb d_Mo_order_61 rfl (lv_at hl 4 rfl) ?_
            refine lv_if_lt (tgt := 75) hx hb d_Mo_order_62 (by decide) (fun hc66 => ?_) (fun hc66 => ?_)
            · -- 62 taken
              exact False.elim (by unfold okO at hok; revert hok hc1 hc58 hc59 hq61 hq64 hc66; simp only [Int32.lt_iff_toInt_lt, Int32.le_iff_toInt_le, ← Int32.toInt_inj, Int32.reduceToInt, i32_m1]; omega)
            · -- 62 not taken
              refine lv_iload_n hx hb d_Mo_order_65 rfl (lv_at hl 4 rfl) ?_
              refine lv_iconst (v := 3) hx hb d_Mo_order_66 (by decide) ?_
              refine lv_icmp_gt (tgt := 75) hx hb d_Mo_order_67 (by decide) (fun hc67 => ?_) (fun hc67 => ?_)
              · -- 67 taken
                exact False.elim (by unfold okO at hok; revert hok hc1 hc58 hc59 hq61 hq64 hc66 hc67; simp only [Int32.lt_iff_toInt_lt, Int32.le_iff_toInt_le, ← Int32.toInt_inj, Int32.reduceToInt, i32_m1]; omega)
              · -- 67 not taken
                refine lv_iload hx hb d_Mo_order_70 (lv_at hl 0 rfl) ?_
                refine lv_if_ne (tgt := 79) hx hb d_Mo_order_72 (by decide) (fun _ => ?_) (fun h0 => absurd h0 (by decide))
                refine lv_aload_n hx hb d_Mo_order_79 rfl (lv_at hl 1 rfl) ?_
                refine va_get (D := D) (ci := 6) (v := .int mp) (C := R_Mo) (T := T_Mo) (N := 24) hx hb hts hin_Mo hown hK hP 0 rfl rfl 6 (by decide) (hts _ wd_710) (fun _ h9 => h9) rfl d_Mo_order_80 ?_
                refine lv_iconst (v := 1) hx hb d_Mo_order_83 (by decide) ?_
                refine lv_icmp_eq (tgt := 91) hx hb d_Mo_order_84 (by decide) (fun hc69 => ?_) (fun hc69 => ?_)
                · -- 84 taken
                  exact absurd hc69 hph
                · -- 84 not taken
                  refine lv_iconst (v := 2) hx hb d_Mo_order_87 (by decide) ?_
                  refine lv_goto (tgt := 92) hx hb d_Mo_order_88 (by decide) ?_
                  refine va_put (D := D) (ci := 6) (v := .int 2) (ty := .int) (C := R_Mo) (T := T_Mo) (N := 24) hx hb hts hin_Mo ty_Mo tyok_Mo nm_Mo hown hK hP hD hS 0 rfl rfl 0 (by decide) (hts _ wd_704) (fun _ h9 => h9) rfl (by decide +kernel) rfl rfl (Nat.le_of_ble_eq_true rfl) d_Mo_order_92 (fun H locs hP hD hS => ?_)
                  have hP : va_P D vwCl [(g0, .inr (6, [.int 2, .int ar, .ref m_sea, .ref m_center, .ref m_home, .ref m_borders, .int mp, .int mt, .ref m_owner, .ref m_units, .ref m_kind, .ref m_toX, .ref m_toY, .ref m_results, .ref m_known, .ref m_reached, .ref m_way, .ref m_aside, .ref m_origin, .ref m_retreats, .ref m_contested, .ref m_moved, .int msh, .ref m_past]))] H := hP
                  have hD : va_D A [(g0, .inr (6, [.int 2, .int ar, .ref m_sea, .ref m_center, .ref m_home, .ref m_borders, .int mp, .int mt, .ref m_owner, .ref m_units, .ref m_kind, .ref m_toX, .ref m_toY, .ref m_results, .ref m_known, .ref m_reached, .ref m_way, .ref m_aside, .ref m_origin, .ref m_retreats, .ref m_contested, .ref m_moved, .int msh, .ref m_past]))] := hD
                  refine lv_aload_n hx hb d_Mo_order_95 rfl (lv_at hl 1 rfl) ?_
                  refine va_get (D := D) (ci := 6) (v := .int 2) (C := R_Mo) (T := T_Mo) (N := 24) hx hb hts hin_Mo hown hK hP 0 rfl rfl 0 (by decide) (hts _ wd_704) (fun _ h9 => h9) rfl d_Mo_order_96 ?_
                  refine lv_if_eq (tgt := 104) hx hb d_Mo_order_99 (by decide) (fun h0 => absurd h0 (by decide)) (fun _ => ?_)
                  refine lv_iconst (v := 0) hx hb d_Mo_order_102 (by decide) ?_
                  have hP9 := hP.sub (ws' := [(g0, .inr (6, [.int 2, .int ar, .ref m_sea, .ref m_center, .ref m_home, .ref m_borders, .int mp, .int mt, .ref m_owner, .ref m_units, .ref m_kind, .ref m_toX, .ref m_toY, .ref m_results, .ref m_known, .ref m_reached, .ref m_way, .ref m_aside, .ref m_origin, .ref m_retreats, .ref m_contested, .ref m_moved, .int msh, .ref m_past]))]) [0] rfl
                  have hD9 := hD.sub (ws' := [(g0, .inr (6, [.int 2, .int ar, .ref m_sea, .ref m_center, .ref m_home, .ref m_borders, .int mp, .int mt, .ref m_owner, .ref m_units, .ref m_kind, .ref m_toX, .ref m_toY, .ref m_results, .ref m_known, .ref m_reached, .ref m_way, .ref m_aside, .ref m_origin, .ref m_retreats, .ref m_contested, .ref m_moved, .int msh, .ref m_past]))]) [0] (by decide) rfl
                  exact W.iret (v := 0) hx hb hr (fun t ht hW => ⟨⟨0, (), rfl, rfl, by rw [ht]; exact hP9, hD9⟩, hS.F ht⟩) hS.2.2 d_Mo_order_103
          · -- 55: false
            refine lv_if_eq (tgt := 75) hx hb d_Mo_order_58 (by decide) (fun _ => ?_) (fun h0 => absurd (by decide) h0)
            exact False.elim (by unfold okO at hok; revert hok hc1 hc58 hc59 hq61 hq64; simp only [Int32.lt_iff_toInt_lt, Int32.le_iff_toInt_le, ← Int32.toInt_inj, Int32.reduceToInt, i32_m1]; omega)
        · -- 47: false
          refine lv_if_eq (tgt := 75) hx hb d_Mo_order_50 (by decide) (fun _ => ?_) (fun h0 => absurd (by decide) h0)
          exact False.elim (by unfold okO at hok; revert hok hc1 hc58 hc59 hq61; simp only [Int32.lt_iff_toInt_lt, Int32.le_iff_toInt_le, ← Int32.toInt_inj, Int32.reduceToInt, i32_m1]; omega)
      · -- 21 not taken
        refine lv_iload_n hx hb d_Mo_order_24 rfl (lv_at hl 3 rfl) ?_
        refine lv_iconst (v := 3) hx hb d_Mo_order_25 (by decide) ?_
        refine lv_icmp_gt (tgt := 38) hx hb d_Mo_order_26 (by decide) (fun hc73 => ?_) (fun hc73 => ?_)
        · -- 26 taken
          refine lv_iconst (v := 1) hx hb d_Mo_order_38 (by decide) ?_
          refine lv_goto (tgt := 43) hx hb d_Mo_order_39 (by decide) ?_
          refine lv_istore (lv' := [(6, .int 1), (0, .ref g0), (1, .int pl), (2, .int a), (3, .int k), (4, .int x), (5, .int y)]) hx hb d_Mo_order_43 hl (by decide) rfl (fun ls hl => ?_)
          refine lv_aload_n hx hb d_Mo_order_45 rfl (lv_at hl 1 rfl) ?_
          refine lv_iload_n hx hb d_Mo_order_46 rfl (lv_at hl 2 rfl) ?_
          have hPc := hP.sub (ws' := []) [] rfl
          refine vp_callSi (va_Run.run (va_runS (As := [.int pl]) (rest := [.ref g0]) ⟨hx, hb, hml, hown, hts⟩ (c_Mo_isPlayer l D cI cZ cJ cS aT ceT  pl ) (va_cwS 1 hts (tb_3 wd_802 wd_803 wd_8 (tb_c wd_804)) rfl rfl rfl ⟨by decide, by decide, by decide +kernel⟩ ⟨Nat.le_of_ble_eq_true rfl, Nat.le_of_ble_eq_true rfl⟩) (tP_S hK hX (hS.2.1 aT hXl hXn) hPc) rfl rfl hl.1 rfl (lv_room (Nat.le_of_ble_eq_true rfl)) d_Mo_order_47 ⟨Nat.le_of_ble_eq_true rfl, Nat.le_of_ble_eq_true rfl⟩)) (fun r74 hr9 => ?_)
          rcases hr9 with ⟨rfl, hq75⟩ | ⟨rfl, hq75⟩
          · -- 47: true
            refine lv_if_eq (tgt := 75) hx hb d_Mo_order_50 (by decide) (fun h0 => absurd h0 (by decide)) (fun _ => ?_)
            refine lv_aload_n hx hb d_Mo_order_53 rfl (lv_at hl 1 rfl) ?_
            refine lv_iload_n hx hb d_Mo_order_54 rfl (lv_at hl 3 rfl) ?_
            have hPc := hP.sub (ws' := [(g0, .inr (6, [.int co, .int ar, .ref m_sea, .ref m_center, .ref m_home, .ref m_borders, .int mp, .int mt, .ref m_owner, .ref m_units, .ref m_kind, .ref m_toX, .ref m_toY, .ref m_results, .ref m_known, .ref m_reached, .ref m_way, .ref m_aside, .ref m_origin, .ref m_retreats, .ref m_contested, .ref m_moved, .int msh, .ref m_past]))]) [0] rfl
            refine vp_callSi (va_Run.run (va_runV (As := [.int a]) (rest := [.ref g0]) ⟨hx, hb, hml, hown, hts⟩ (c_Mo_isArea l D cI cZ cJ cS aT ceT  g0 m_sea m_center m_home m_borders m_owner m_units m_kind m_toX m_toY m_results m_known m_reached m_way m_aside m_origin m_retreats m_contested m_moved m_past co ar mp mt msh a ) (cwV 1 hts (tb_4 wd_790 wd_792 wp_36 wd_8 (tb_c wd_793)) rfl rfl rfl ⟨rfl, by decide, by decide, by decide +kernel⟩ ⟨Nat.le_of_ble_eq_true rfl, Nat.le_of_ble_eq_true rfl⟩) (tP_V hK hX (hS.2.1 aT hXl hXn) hPc (q := 0) rfl rfl) rfl rfl hl.1 rfl (lv_room (Nat.le_of_ble_eq_true rfl)) d_Mo_order_55 ⟨Nat.le_of_ble_eq_true rfl, Nat.le_of_ble_eq_true rfl⟩)) (fun r77 hr9 => ?_)
            rcases hr9 with ⟨rfl, hq78⟩ | ⟨rfl, hq78⟩
            · -- 55: true
              refine lv_if_eq (tgt := 75) hx hb d_Mo_order_58 (by decide) (fun h0 => absurd h0 (by decide)) (fun _ => ?_)
              refine lv_iload_n hx hb d_Mo_order_61 rfl (lv_at hl 4 rfl) ?_
              refine lv_if_lt (tgt := 75) hx hb d_Mo_order_62 (by decide) (fun hc80 => ?_) (fun hc80 => ?_)
              · -- 62 taken
                exact False.elim (by unfold okO at hok; revert hok hc1 hc58 hc59 hc73 hq75 hq78 hc80; simp only [Int32.lt_iff_toInt_lt, Int32.le_iff_toInt_le, ← Int32.toInt_inj, Int32.reduceToInt, i32_m1]; omega)
              · -- 62 not taken
                refine lv_iload_n hx hb d_Mo_order_65 rfl (lv_at hl 4 rfl) ?_
                refine lv_iconst (v := 3) hx hb d_Mo_order_66 (by decide) ?_
                refine lv_icmp_gt (tgt := 75) hx hb d_Mo_order_67 (by decide) (fun hc81 => ?_) (fun hc81 => ?_)
                · -- 67 taken
                  exact False.elim (by unfold okO at hok; revert hok hc1 hc58 hc59 hc73 hq75 hq78 hc80 hc81; simp only [Int32.lt_iff_toInt_lt, Int32.le_iff_toInt_le, ← Int32.toInt_inj, Int32.reduceToInt, i32_m1]; omega)
                · -- 67 not taken
                  refine lv_iload hx hb d_Mo_order_70 (lv_at hl 0 rfl) ?_
                  refine lv_if_ne (tgt := 79) hx hb d_Mo_order_72 (by decide) (fun _ => ?_) (fun h0 => absurd h0 (by decide))
                  refine lv_aload_n hx hb d_Mo_order_79 rfl (lv_at hl 1 rfl) ?_
                  refine va_get (D := D) (ci := 6) (v := .int mp) (C := R_Mo) (T := T_Mo) (N := 24) hx hb hts hin_Mo hown hK hP 0 rfl rfl 6 (by decide) (hts _ wd_710) (fun _ h9 => h9) rfl d_Mo_order_80 ?_
                  refine lv_iconst (v := 1) hx hb d_Mo_order_83 (by decide) ?_
                  refine lv_icmp_eq (tgt := 91) hx hb d_Mo_order_84 (by decide) (fun hc83 => ?_) (fun hc83 => ?_)
                  · -- 84 taken
                    exact absurd hc83 hph
                  · -- 84 not taken
                    refine lv_iconst (v := 2) hx hb d_Mo_order_87 (by decide) ?_
                    refine lv_goto (tgt := 92) hx hb d_Mo_order_88 (by decide) ?_
                    refine va_put (D := D) (ci := 6) (v := .int 2) (ty := .int) (C := R_Mo) (T := T_Mo) (N := 24) hx hb hts hin_Mo ty_Mo tyok_Mo nm_Mo hown hK hP hD hS 0 rfl rfl 0 (by decide) (hts _ wd_704) (fun _ h9 => h9) rfl (by decide +kernel) rfl rfl (Nat.le_of_ble_eq_true rfl) d_Mo_order_92 (fun H locs hP hD hS => ?_)
                    have hP : va_P D vwCl [(g0, .inr (6, [.int 2, .int ar, .ref m_sea, .ref m_center, .ref m_home, .ref m_borders, .int mp, .int mt, .ref m_owner, .ref m_units, .ref m_kind, .ref m_toX, .ref m_toY, .ref m_results, .ref m_known, .ref m_reached, .ref m_way, .ref m_aside, .ref m_origin, .ref m_retreats, .ref m_contested, .ref m_moved, .int msh, .ref m_past]))] H := hP
                    have hD : va_D A [(g0, .inr (6, [.int 2, .int ar, .ref m_sea, .ref m_center, .ref m_home, .ref m_borders, .int mp, .int mt, .ref m_owner, .ref m_units, .ref m_kind, .ref m_toX, .ref m_toY, .ref m_results, .ref m_known, .ref m_reached, .ref m_way, .ref m_aside, .ref m_origin, .ref m_retreats, .ref m_contested, .ref m_moved, .int msh, .ref m_past]))] := hD
                    refine lv_aload_n hx hb d_Mo_order_95 rfl (lv_at hl 1 rfl) ?_
                    refine va_get (D := D) (ci := 6) (v := .int 2) (C := R_Mo) (T := T_Mo) (N := 24) hx hb hts hin_Mo hown hK hP 0 rfl rfl 0 (by decide) (hts _ wd_704) (fun _ h9 => h9) rfl d_Mo_order_96 ?_
                    refine lv_if_eq (tgt := 104) hx hb d_Mo_order_99 (by decide) (fun h0 => absurd h0 (by decide)) (fun _ => ?_)
                    refine lv_iconst (v := 0) hx hb d_Mo_order_102 (by decide) ?_
                    have hP9 := hP.sub (ws' := [(g0, .inr (6, [.int 2, .int ar, .ref m_sea, .ref m_center, .ref m_home, .ref m_borders, .int mp, .int mt, .ref m_owner, .ref m_units, .ref m_kind, .ref m_toX, .ref m_toY, .ref m_results, .ref m_known, .ref m_reached, .ref m_way, .ref m_aside, .ref m_origin, .ref m_retreats, .ref m_contested, .ref m_moved, .int msh, .ref m_past]))]) [0] rfl
                    have hD9 := hD.sub (ws' := [(g0, .inr (6, [.int 2, .int ar, .ref m_sea, .ref m_center, .ref m_home, .ref m_borders, .int mp, .int mt, .ref m_owner, .ref m_units, .ref m_kind, .ref m_toX, .ref m_toY, .ref m_results, .ref m_known, .ref m_reached, .ref m_way, .ref m_aside, .ref m_origin, .ref m_retreats, .ref m_contested, .ref m_moved, .int msh, .ref m_past]))]) [0] (by decide) rfl
                    exact W.iret (v := 0) hx hb hr (fun t ht hW => ⟨⟨0, (), rfl, rfl, by rw [ht]; exact hP9, hD9⟩, hS.F ht⟩) hS.2.2 d_Mo_order_103
            · -- 55: false
              refine lv_if_eq (tgt := 75) hx hb d_Mo_order_58 (by decide) (fun _ => ?_) (fun h0 => absurd (by decide) h0)
              exact False.elim (by unfold okO at hok; revert hok hc1 hc58 hc59 hc73 hq75 hq78; simp only [Int32.lt_iff_toInt_lt, Int32.le_iff_toInt_le, ← Int32.toInt_inj, Int32.reduceToInt, i32_m1]; omega)
          · -- 47: false
            refine lv_if_eq (tgt := 75) hx hb d_Mo_order_50 (by decide) (fun _ => ?_) (fun h0 => absurd (by decide) h0)
            exact False.elim (by unfold okO at hok; revert hok hc1 hc58 hc59 hc73 hq75; simp only [Int32.lt_iff_toInt_lt, Int32.le_iff_toInt_le, ← Int32.toInt_inj, Int32.reduceToInt, i32_m1]; omega)
        · -- 26 not taken
          refine lv_aload_n hx hb d_Mo_order_29 rfl (lv_at hl 0 rfl) ?_
          refine lv_iload hx hb d_Mo_order_30 (lv_at hl 5 rfl) ?_
          have hPc := hP.sub (ws' := [(g0, .inr (6, [.int co, .int ar, .ref m_sea, .ref m_center, .ref m_home, .ref m_borders, .int mp, .int mt, .ref m_owner, .ref m_units, .ref m_kind, .ref m_toX, .ref m_toY, .ref m_results, .ref m_known, .ref m_reached, .ref m_way, .ref m_aside, .ref m_origin, .ref m_retreats, .ref m_contested, .ref m_moved, .int msh, .ref m_past]))]) [0] rfl
          refine vp_callSi (va_Run.run (va_runV (As := [.int y]) (rest := []) ⟨hx, hb, hml, hown, hts⟩ (c_Mo_isArea l D cI cZ cJ cS aT ceT  g0 m_sea m_center m_home m_borders m_owner m_units m_kind m_toX m_toY m_results m_known m_reached m_way m_aside m_origin m_retreats m_contested m_moved m_past co ar mp mt msh y ) (cwV 1 hts (tb_4 wd_790 wd_792 wp_36 wd_8 (tb_c wd_793)) rfl rfl rfl ⟨rfl, by decide, by decide, by decide +kernel⟩ ⟨Nat.le_of_ble_eq_true rfl, Nat.le_of_ble_eq_true rfl⟩) (tP_V hK hX (hS.2.1 aT hXl hXn) hPc (q := 0) rfl rfl) rfl rfl hl.1 rfl (lv_room (Nat.le_of_ble_eq_true rfl)) d_Mo_order_32 ⟨Nat.le_of_ble_eq_true rfl, Nat.le_of_ble_eq_true rfl⟩)) (fun r87 hr9 => ?_)
          rcases hr9 with ⟨rfl, hq88⟩ | ⟨rfl, hq88⟩
          · -- 32: true
            refine lv_if_eq (tgt := 42) hx hb d_Mo_order_35 (by decide) (fun h0 => absurd h0 (by decide)) (fun _ => ?_)
            refine lv_iconst (v := 1) hx hb d_Mo_order_38 (by decide) ?_
            refine lv_goto (tgt := 43) hx hb d_Mo_order_39 (by decide) ?_
            refine lv_istore (lv' := [(6, .int 1), (0, .ref g0), (1, .int pl), (2, .int a), (3, .int k), (4, .int x), (5, .int y)]) hx hb d_Mo_order_43 hl (by decide) rfl (fun ls hl => ?_)
            refine lv_aload_n hx hb d_Mo_order_45 rfl (lv_at hl 1 rfl) ?_
            refine lv_iload_n hx hb d_Mo_order_46 rfl (lv_at hl 2 rfl) ?_
            have hPc := hP.sub (ws' := []) [] rfl
            refine vp_callSi (va_Run.run (va_runS (As := [.int pl]) (rest := [.ref g0]) ⟨hx, hb, hml, hown, hts⟩ (c_Mo_isPlayer l D cI cZ cJ cS aT ceT  pl ) (va_cwS 1 hts (tb_3 wd_802 wd_803 wd_8 (tb_c wd_804)) rfl rfl rfl ⟨by decide, by decide, by decide +kernel⟩ ⟨Nat.le_of_ble_eq_true rfl, Nat.le_of_ble_eq_true rfl⟩) (tP_S hK hX (hS.2.1 aT hXl hXn) hPc) rfl rfl hl.1 rfl (lv_room (Nat.le_of_ble_eq_true rfl)) d_Mo_order_47 ⟨Nat.le_of_ble_eq_true rfl, Nat.le_of_ble_eq_true rfl⟩)) (fun r90 hr9 => ?_)
            rcases hr9 with ⟨rfl, hq91⟩ | ⟨rfl, hq91⟩
            · -- 47: true
              refine lv_if_eq (tgt := 75) hx hb d_Mo_order_50 (by decide) (fun h0 => absurd h0 (by decide)) (fun _ => ?_)
              refine lv_aload_n hx hb d_Mo_order_53 rfl (lv_at hl 1 rfl) ?_
              refine lv_iload_n hx hb d_Mo_order_54 rfl (lv_at hl 3 rfl) ?_
              have hPc := hP.sub (ws' := [(g0, .inr (6, [.int co, .int ar, .ref m_sea, .ref m_center, .ref m_home, .ref m_borders, .int mp, .int mt, .ref m_owner, .ref m_units, .ref m_kind, .ref m_toX, .ref m_toY, .ref m_results, .ref m_known, .ref m_reached, .ref m_way, .ref m_aside, .ref m_origin, .ref m_retreats, .ref m_contested, .ref m_moved, .int msh, .ref m_past]))]) [0] rfl
              refine vp_callSi (va_Run.run (va_runV (As := [.int a]) (rest := [.ref g0]) ⟨hx, hb, hml, hown, hts⟩ (c_Mo_isArea l D cI cZ cJ cS aT ceT  g0 m_sea m_center m_home m_borders m_owner m_units m_kind m_toX m_toY m_results m_known m_reached m_way m_aside m_origin m_retreats m_contested m_moved m_past co ar mp mt msh a ) (cwV 1 hts (tb_4 wd_790 wd_792 wp_36 wd_8 (tb_c wd_793)) rfl rfl rfl ⟨rfl, by decide, by decide, by decide +kernel⟩ ⟨Nat.le_of_ble_eq_true rfl, Nat.le_of_ble_eq_true rfl⟩) (tP_V hK hX (hS.2.1 aT hXl hXn) hPc (q := 0) rfl rfl) rfl rfl hl.1 rfl (lv_room (Nat.le_of_ble_eq_true rfl)) d_Mo_order_55 ⟨Nat.le_of_ble_eq_true rfl, Nat.le_of_ble_eq_true rfl⟩)) (fun r93 hr9 => ?_)
              rcases hr9 with ⟨rfl, hq94⟩ | ⟨rfl, hq94⟩
              · -- 55: true
                refine lv_if_eq (tgt := 75) hx hb d_Mo_order_58 (by decide) (fun h0 => absurd h0 (by decide)) (fun _ => ?_)
                refine lv_iload_n hx hb d_Mo_order_61 rfl (lv_at hl 4 rfl) ?_
                refine lv_if_lt (tgt := 75) hx hb d_Mo_order_62 (by decide) (fun hc96 => ?_) (fun hc96 => ?_)
                · -- 62 taken
                  exact False.elim (by unfold okO at hok; revert hok hc1 hc58 hc59 hc73 hq88 hq91 hq94 hc96; simp only [Int32.lt_iff_toInt_lt, Int32.le_iff_toInt_le, ← Int32.toInt_inj, Int32.reduceToInt, i32_m1]; omega)
                · -- 62 not taken
                  refine lv_iload_n hx hb d_Mo_order_65 rfl (lv_at hl 4 rfl) ?_
                  refine lv_iconst (v := 3) hx hb d_Mo_order_66 (by decide) ?_
                  refine lv_icmp_gt (tgt := 75) hx hb d_Mo_order_67 (by decide) (fun hc97 => ?_) (fun hc97 => ?_)
                  · -- 67 taken
                    exact False.elim (by unfold okO at hok; revert hok hc1 hc58 hc59 hc73 hq88 hq91 hq94 hc96 hc97; simp only [Int32.lt_iff_toInt_lt, Int32.le_iff_toInt_le, ← Int32.toInt_inj, Int32.reduceToInt, i32_m1]; omega)
                  · -- 67 not taken
                    refine lv_iload hx hb d_Mo_order_70 (lv_at hl 0 rfl) ?_
                    refine lv_if_ne (tgt := 79) hx hb d_Mo_order_72 (by decide) (fun _ => ?_) (fun h0 => absurd h0 (by decide))
                    refine lv_aload_n hx hb d_Mo_order_79 rfl (lv_at hl 1 rfl) ?_
                    refine va_get (D := D) (ci := 6) (v := .int mp) (C := R_Mo) (T := T_Mo) (N := 24) hx hb hts hin_Mo hown hK hP 0 rfl rfl 6 (by decide) (hts _ wd_710) (fun _ h9 => h9) rfl d_Mo_order_80 ?_
                    refine lv_iconst (v := 1) hx hb d_Mo_order_83 (by decide) ?_
                    refine lv_icmp_eq (tgt := 91) hx hb d_Mo_order_84 (by decide) (fun hc99 => ?_) (fun hc99 => ?_)
                    · -- 84 taken
                      exact absurd hc99 hph
                    · -- 84 not taken
                      refine lv_iconst (v := 2) hx hb d_Mo_order_87 (by decide) ?_
                      refine lv_goto (tgt := 92) hx hb d_Mo_order_88 (by decide) ?_
                      refine va_put (D := D) (ci := 6) (v := .int 2) (ty := .int) (C := R_Mo) (T := T_Mo) (N := 24) hx hb hts hin_Mo ty_Mo tyok_Mo nm_Mo hown hK hP hD hS 0 rfl rfl 0 (by decide) (hts _ wd_704) (fun _ h9 => h9) rfl (by decide +kernel) rfl rfl (Nat.le_of_ble_eq_true rfl) d_Mo_order_92 (fun H locs hP hD hS => ?_)
                      have hP : va_P D vwCl [(g0, .inr (6, [.int 2, .int ar, .ref m_sea, .ref m_center, .ref m_home, .ref m_borders, .int mp, .int mt, .ref m_owner, .ref m_units, .ref m_kind, .ref m_toX, .ref m_toY, .ref m_results, .ref m_known, .ref m_reached, .ref m_way, .ref m_aside, .ref m_origin, .ref m_retreats, .ref m_contested, .ref m_moved, .int msh, .ref m_past]))] H := hP
                      have hD : va_D A [(g0, .inr (6, [.int 2, .int ar, .ref m_sea, .ref m_center, .ref m_home, .ref m_borders, .int mp, .int mt, .ref m_owner, .ref m_units, .ref m_kind, .ref m_toX, .ref m_toY, .ref m_results, .ref m_known, .ref m_reached, .ref m_way, .ref m_aside, .ref m_origin, .ref m_retreats, .ref m_contested, .ref m_moved, .int msh, .ref m_past]))] := hD
                      refine lv_aload_n hx hb d_Mo_order_95 rfl (lv_at hl 1 rfl) ?_
                      refine va_get (D := D) (ci := 6) (v := .int 2) (C := R_Mo) (T := T_Mo) (N := 24) hx hb hts hin_Mo hown hK hP 0 rfl rfl 0 (by decide) (hts _ wd_704) (fun _ h9 => h9) rfl d_Mo_order_96 ?_
                      refine lv_if_eq (tgt := 104) hx hb d_Mo_order_99 (by decide) (fun h0 => absurd h0 (by decide)) (fun _ => ?_)
                      refine lv_iconst (v := 0) hx hb d_Mo_order_102 (by decide) ?_
                      have hP9 := hP.sub (ws' := [(g0, .inr (6, [.int 2, .int ar, .ref m_sea, .ref m_center, .ref m_home, .ref m_borders, .int mp, .int mt, .ref m_owner, .ref m_units, .ref m_kind, .ref m_toX, .ref m_toY, .ref m_results, .ref m_known, .ref m_reached, .ref m_way, .ref m_aside, .ref m_origin, .ref m_retreats, .ref m_contested, .ref m_moved, .int msh, .ref m_past]))]) [0] rfl
                      have hD9 := hD.sub (ws' := [(g0, .inr (6, [.int 2, .int ar, .ref m_sea, .ref m_center, .ref m_home, .ref m_borders, .int mp, .int mt, .ref m_owner, .ref m_units, .ref m_kind, .ref m_toX, .ref m_toY, .ref m_results, .ref m_known, .ref m_reached, .ref m_way, .ref m_aside, .ref m_origin, .ref m_retreats, .ref m_contested, .ref m_moved, .int msh, .ref m_past]))]) [0] (by decide) rfl
                      exact W.iret (v := 0) hx hb hr (fun t ht hW => ⟨⟨0, (), rfl, rfl, by rw [ht]; exact hP9, hD9⟩, hS.F ht⟩) hS.2.2 d_Mo_order_103
              · -- 55: false
                refine lv_if_eq (tgt := 75) hx hb d_Mo_order_58 (by decide) (fun _ => ?_) (fun h0 => absurd (by decide) h0)
                exact False.elim (by unfold okO at hok; revert hok hc1 hc58 hc59 hc73 hq88 hq91 hq94; simp only [Int32.lt_iff_toInt_lt, Int32.le_iff_toInt_le, ← Int32.toInt_inj, Int32.reduceToInt, i32_m1]; omega)
            · -- 47: false
              refine lv_if_eq (tgt := 75) hx hb d_Mo_order_50 (by decide) (fun _ => ?_) (fun h0 => absurd (by decide) h0)
              exact False.elim (by unfold okO at hok; revert hok hc1 hc58 hc59 hc73 hq88 hq91; simp only [Int32.lt_iff_toInt_lt, Int32.le_iff_toInt_le, ← Int32.toInt_inj, Int32.reduceToInt, i32_m1]; omega)
          · -- 32: false
            refine lv_if_eq (tgt := 42) hx hb d_Mo_order_35 (by decide) (fun _ => ?_) (fun h0 => absurd (by decide) h0)
            refine lv_iconst (v := 0) hx hb d_Mo_order_42 (by decide) ?_
            refine lv_istore (lv' := [(6, .int 0), (0, .ref g0), (1, .int pl), (2, .int a), (3, .int k), (4, .int x), (5, .int y)]) hx hb d_Mo_order_43 hl (by decide) rfl (fun ls hl => ?_)
            refine lv_aload_n hx hb d_Mo_order_45 rfl (lv_at hl 1 rfl) ?_
            refine lv_iload_n hx hb d_Mo_order_46 rfl (lv_at hl 2 rfl) ?_
            have hPc := hP.sub (ws' := []) [] rfl
            refine vp_callSi (va_Run.run (va_runS (As := [.int pl]) (rest := [.ref g0]) ⟨hx, hb, hml, hown, hts⟩ (c_Mo_isPlayer l D cI cZ cJ cS aT ceT  pl ) (va_cwS 1 hts (tb_3 wd_802 wd_803 wd_8 (tb_c wd_804)) rfl rfl rfl ⟨by decide, by decide, by decide +kernel⟩ ⟨Nat.le_of_ble_eq_true rfl, Nat.le_of_ble_eq_true rfl⟩) (tP_S hK hX (hS.2.1 aT hXl hXn) hPc) rfl rfl hl.1 rfl (lv_room (Nat.le_of_ble_eq_true rfl)) d_Mo_order_47 ⟨Nat.le_of_ble_eq_true rfl, Nat.le_of_ble_eq_true rfl⟩)) (fun r104 hr9 => ?_)
            rcases hr9 with ⟨rfl, hq105⟩ | ⟨rfl, hq105⟩
            · -- 47: true
              refine lv_if_eq (tgt := 75) hx hb d_Mo_order_50 (by decide) (fun h0 => absurd h0 (by decide)) (fun _ => ?_)
              refine lv_aload_n hx hb d_Mo_order_53 rfl (lv_at hl 1 rfl) ?_
              refine lv_iload_n hx hb d_Mo_order_54 rfl (lv_at hl 3 rfl) ?_
              have hPc := hP.sub (ws' := [(g0, .inr (6, [.int co, .int ar, .ref m_sea, .ref m_center, .ref m_home, .ref m_borders, .int mp, .int mt, .ref m_owner, .ref m_units, .ref m_kind, .ref m_toX, .ref m_toY, .ref m_results, .ref m_known, .ref m_reached, .ref m_way, .ref m_aside, .ref m_origin, .ref m_retreats, .ref m_contested, .ref m_moved, .int msh, .ref m_past]))]) [0] rfl
              refine vp_callSi (va_Run.run (va_runV (As := [.int a]) (rest := [.ref g0]) ⟨hx, hb, hml, hown, hts⟩ (c_Mo_isArea l D cI cZ cJ cS aT ceT  g0 m_sea m_center m_home m_borders m_owner m_units m_kind m_toX m_toY m_results m_known m_reached m_way m_aside m_origin m_retreats m_contested m_moved m_past co ar mp mt msh a ) (cwV 1 hts (tb_4 wd_790 wd_792 wp_36 wd_8 (tb_c wd_793)) rfl rfl rfl ⟨rfl, by decide, by decide, by decide +kernel⟩ ⟨Nat.le_of_ble_eq_true rfl, Nat.le_of_ble_eq_true rfl⟩) (tP_V hK hX (hS.2.1 aT hXl hXn) hPc (q := 0) rfl rfl) rfl rfl hl.1 rfl (lv_room (Nat.le_of_ble_eq_true rfl)) d_Mo_order_55 ⟨Nat.le_of_ble_eq_true rfl, Nat.le_of_ble_eq_true rfl⟩)) (fun r107 hr9 => ?_)
              rcases hr9 with ⟨rfl, hq108⟩ | ⟨rfl, hq108⟩
              · -- 55: true
                refine lv_if_eq (tgt := 75) hx hb d_Mo_order_58 (by decide) (fun h0 => absurd h0 (by decide)) (fun _ => ?_)
                refine lv_iload_n hx hb d_Mo_order_61 rfl (lv_at hl 4 rfl) ?_
                refine lv_if_lt (tgt := 75) hx hb d_Mo_order_62 (by decide) (fun hc110 => ?_) (fun hc110 => ?_)
                · -- 62 taken
                  exact False.elim (by unfold okO at hok; revert hok hc1 hc58 hc59 hc73 hq88 hq105 hq108 hc110; simp only [Int32.lt_iff_toInt_lt, Int32.le_iff_toInt_le, ← Int32.toInt_inj, Int32.reduceToInt, i32_m1]; omega)
                · -- 62 not taken
                  refine lv_iload_n hx hb d_Mo_order_65 rfl (lv_at hl 4 rfl) ?_
                  refine lv_iconst (v := 3) hx hb d_Mo_order_66 (by decide) ?_
                  refine lv_icmp_gt (tgt := 75) hx hb d_Mo_order_67 (by decide) (fun hc111 => ?_) (fun hc111 => ?_)
                  · -- 67 taken
                    exact False.elim (by unfold okO at hok; revert hok hc1 hc58 hc59 hc73 hq88 hq105 hq108 hc110 hc111; simp only [Int32.lt_iff_toInt_lt, Int32.le_iff_toInt_le, ← Int32.toInt_inj, Int32.reduceToInt, i32_m1]; omega)
                  · -- 67 not taken
                    refine lv_iload hx hb d_Mo_order_70 (lv_at hl 0 rfl) ?_
                    refine lv_if_ne (tgt := 79) hx hb d_Mo_order_72 (by decide) (fun h0 => absurd (by decide) h0) (fun _ => ?_)
                    exact False.elim (by unfold okO at hok; revert hok hc1 hc58 hc59 hc73 hq88 hq105 hq108 hc110 hc111; simp only [Int32.lt_iff_toInt_lt, Int32.le_iff_toInt_le, ← Int32.toInt_inj, Int32.reduceToInt, i32_m1]; omega)
              · -- 55: false
                refine lv_if_eq (tgt := 75) hx hb d_Mo_order_58 (by decide) (fun _ => ?_) (fun h0 => absurd (by decide) h0)
                exact False.elim (by unfold okO at hok; revert hok hc1 hc58 hc59 hc73 hq88 hq105 hq108; simp only [Int32.lt_iff_toInt_lt, Int32.le_iff_toInt_le, ← Int32.toInt_inj, Int32.reduceToInt, i32_m1]; omega)
            · -- 47: false
              refine lv_if_eq (tgt := 75) hx hb d_Mo_order_50 (by decide) (fun _ => ?_) (fun h0 => absurd (by decide) h0)
              exact False.elim (by unfold okO at hok; revert hok hc1 hc58 hc59 hc73 hq88 hq105; simp only [Int32.lt_iff_toInt_lt, Int32.le_iff_toInt_le, ← Int32.toInt_inj, Int32.reduceToInt, i32_m1]; omega)
    · -- 7 not taken
      refine lv_aload_n hx hb d_Mo_order_10 rfl (lv_at hl 0 rfl) ?_
      refine lv_iload hx hb d_Mo_order_11 (lv_at hl 4 rfl) ?_
      have hPc := hP.sub (ws' := [(g0, .inr (6, [.int co, .int ar, .ref m_sea, .ref m_center, .ref m_home, .ref m_borders, .int mp, .int mt, .ref m_owner, .ref m_units, .ref m_kind, .ref m_toX, .ref m_toY, .ref m_results, .ref m_known, .ref m_reached, .ref m_way, .ref m_aside, .ref m_origin, .ref m_retreats, .ref m_contested, .ref m_moved, .int msh, .ref m_past]))]) [0] rfl
      refine vp_callSi (va_Run.run (va_runV (As := [.int x]) (rest := []) ⟨hx, hb, hml, hown, hts⟩ (c_Mo_isArea l D cI cZ cJ cS aT ceT  g0 m_sea m_center m_home m_borders m_owner m_units m_kind m_toX m_toY m_results m_known m_reached m_way m_aside m_origin m_retreats m_contested m_moved m_past co ar mp mt msh x ) (cwV 1 hts (tb_4 wd_790 wd_792 wp_36 wd_8 (tb_c wd_793)) rfl rfl rfl ⟨rfl, by decide, by decide, by decide +kernel⟩ ⟨Nat.le_of_ble_eq_true rfl, Nat.le_of_ble_eq_true rfl⟩) (tP_V hK hX (hS.2.1 aT hXl hXn) hPc (q := 0) rfl rfl) rfl rfl hl.1 rfl (lv_room (Nat.le_of_ble_eq_true rfl)) d_Mo_order_13 ⟨Nat.le_of_ble_eq_true rfl, Nat.le_of_ble_eq_true rfl⟩)) (fun r115 hr9 => ?_)
      rcases hr9 with ⟨rfl, hq116⟩ | ⟨rfl, hq116⟩
      · -- 13: true
        refine lv_if_eq (tgt := 42) hx hb d_Mo_order_16 (by decide) (fun h0 => absurd h0 (by decide)) (fun _ => ?_)
        refine lv_iload_n hx hb d_Mo_order_19 rfl (lv_at hl 3 rfl) ?_
        refine lv_iconst (v := 2) hx hb d_Mo_order_20 (by decide) ?_
        refine lv_icmp_lt (tgt := 38) hx hb d_Mo_order_21 (by decide) (fun hc118 => ?_) (fun hc118 => ?_)
        · -- 21 taken
          refine lv_iconst (v := 1) hx hb d_Mo_order_38 (by decide) ?_
          refine lv_goto (tgt := 43) hx hb d_Mo_order_39 (by decide) ?_
          refine lv_istore (lv' := [(6, .int 1), (0, .ref g0), (1, .int pl), (2, .int a), (3, .int k), (4, .int x), (5, .int y)]) hx hb d_Mo_order_43 hl (by decide) rfl (fun ls hl => ?_)
          refine lv_aload_n hx hb d_Mo_order_45 rfl (lv_at hl 1 rfl) ?_
          refine lv_iload_n hx hb d_Mo_order_46 rfl (lv_at hl 2 rfl) ?_
          have hPc := hP.sub (ws' := []) [] rfl
          refine vp_callSi (va_Run.run (va_runS (As := [.int pl]) (rest := [.ref g0]) ⟨hx, hb, hml, hown, hts⟩ (c_Mo_isPlayer l D cI cZ cJ cS aT ceT  pl ) (va_cwS 1 hts (tb_3 wd_802 wd_803 wd_8 (tb_c wd_804)) rfl rfl rfl ⟨by decide, by decide, by decide +kernel⟩ ⟨Nat.le_of_ble_eq_true rfl, Nat.le_of_ble_eq_true rfl⟩) (tP_S hK hX (hS.2.1 aT hXl hXn) hPc) rfl rfl hl.1 rfl (lv_room (Nat.le_of_ble_eq_true rfl)) d_Mo_order_47 ⟨Nat.le_of_ble_eq_true rfl, Nat.le_of_ble_eq_true rfl⟩)) (fun r119 hr9 => ?_)
          rcases hr9 with ⟨rfl, hq120⟩ | ⟨rfl, hq120⟩
          · -- 47: true
            refine lv_if_eq (tgt := 75) hx hb d_Mo_order_50 (by decide) (fun h0 => absurd h0 (by decide)) (fun _ => ?_)
            refine lv_aload_n hx hb d_Mo_order_53 rfl (lv_at hl 1 rfl) ?_
            refine lv_iload_n hx hb d_Mo_order_54 rfl (lv_at hl 3 rfl) ?_
            have hPc := hP.sub (ws' := [(g0, .inr (6, [.int co, .int ar, .ref m_sea, .ref m_center, .ref m_home, .ref m_borders, .int mp, .int mt, .ref m_owner, .ref m_units, .ref m_kind, .ref m_toX, .ref m_toY, .ref m_results, .ref m_known, .ref m_reached, .ref m_way, .ref m_aside, .ref m_origin, .ref m_retreats, .ref m_contested, .ref m_moved, .int msh, .ref m_past]))]) [0] rfl
            refine vp_callSi (va_Run.run (va_runV (As := [.int a]) (rest := [.ref g0]) ⟨hx, hb, hml, hown, hts⟩ (c_Mo_isArea l D cI cZ cJ cS aT ceT  g0 m_sea m_center m_home m_borders m_owner m_units m_kind m_toX m_toY m_results m_known m_reached m_way m_aside m_origin m_retreats m_contested m_moved m_past co ar mp mt msh a ) (cwV 1 hts (tb_4 wd_790 wd_792 wp_36 wd_8 (tb_c wd_793)) rfl rfl rfl ⟨rfl, by decide, by decide, by decide +kernel⟩ ⟨Nat.le_of_ble_eq_true rfl, Nat.le_of_ble_eq_true rfl⟩) (tP_V hK hX (hS.2.1 aT hXl hXn) hPc (q := 0) rfl rfl) rfl rfl hl.1 rfl (lv_room (Nat.le_of_ble_eq_true rfl)) d_Mo_order_55 ⟨Nat.le_of_ble_eq_true rfl, Nat.le_of_ble_eq_true rfl⟩)) (fun r122 hr9 => ?_)
            rcases hr9 with ⟨rfl, hq123⟩ | ⟨rfl, hq123⟩
            · -- 55: true
              refine lv_if_eq (tgt := 75) hx hb d_Mo_order_58 (by decide) (fun h0 => absurd h0 (by decide)) (fun _ => ?_)
              refine lv_iload_n hx hb d_Mo_order_61 rfl (lv_at hl 4 rfl) ?_
              refine lv_if_lt (tgt := 75) hx hb d_Mo_order_62 (by decide) (fun hc125 => ?_) (fun hc125 => ?_)
              · -- 62 taken
                exact False.elim (by unfold okO at hok; revert hok hc1 hc58 hq116 hc118 hq120 hq123 hc125; simp only [Int32.lt_iff_toInt_lt, Int32.le_iff_toInt_le, ← Int32.toInt_inj, Int32.reduceToInt, i32_m1]; omega)
              · -- 62 not taken
                refine lv_iload_n hx hb d_Mo_order_65 rfl (lv_at hl 4 rfl) ?_
                refine lv_iconst (v := 3) hx hb d_Mo_order_66 (by decide) ?_
                refine lv_icmp_gt (tgt := 75) hx hb d_Mo_order_67 (by decide) (fun hc126 => ?_) (fun hc126 => ?_)
                · -- 67 taken
                  exact False.elim (by unfold okO at hok; revert hok hc1 hc58 hq116 hc118 hq120 hq123 hc125 hc126; simp only [Int32.lt_iff_toInt_lt, Int32.le_iff_toInt_le, ← Int32.toInt_inj, Int32.reduceToInt, i32_m1]; omega)
                · -- 67 not taken
                  refine lv_iload hx hb d_Mo_order_70 (lv_at hl 0 rfl) ?_
                  refine lv_if_ne (tgt := 79) hx hb d_Mo_order_72 (by decide) (fun _ => ?_) (fun h0 => absurd h0 (by decide))
                  refine lv_aload_n hx hb d_Mo_order_79 rfl (lv_at hl 1 rfl) ?_
                  refine va_get (D := D) (ci := 6) (v := .int mp) (C := R_Mo) (T := T_Mo) (N := 24) hx hb hts hin_Mo hown hK hP 0 rfl rfl 6 (by decide) (hts _ wd_710) (fun _ h9 => h9) rfl d_Mo_order_80 ?_
                  refine lv_iconst (v := 1) hx hb d_Mo_order_83 (by decide) ?_
                  refine lv_icmp_eq (tgt := 91) hx hb d_Mo_order_84 (by decide) (fun hc128 => ?_) (fun hc128 => ?_)
                  · -- 84 taken
                    exact absurd hc128 hph
                  · -- 84 not taken
                    refine lv_iconst (v := 2) hx hb d_Mo_order_87 (by decide) ?_
                    refine lv_goto (tgt := 92) hx hb d_Mo_order_88 (by decide) ?_
                    refine va_put (D := D) (ci := 6) (v := .int 2) (ty := .int) (C := R_Mo) (T := T_Mo) (N := 24) hx hb hts hin_Mo ty_Mo tyok_Mo nm_Mo hown hK hP hD hS 0 rfl rfl 0 (by decide) (hts _ wd_704) (fun _ h9 => h9) rfl (by decide +kernel) rfl rfl (Nat.le_of_ble_eq_true rfl) d_Mo_order_92 (fun H locs hP hD hS => ?_)
                    have hP : va_P D vwCl [(g0, .inr (6, [.int 2, .int ar, .ref m_sea, .ref m_center, .ref m_home, .ref m_borders, .int mp, .int mt, .ref m_owner, .ref m_units, .ref m_kind, .ref m_toX, .ref m_toY, .ref m_results, .ref m_known, .ref m_reached, .ref m_way, .ref m_aside, .ref m_origin, .ref m_retreats, .ref m_contested, .ref m_moved, .int msh, .ref m_past]))] H := hP
                    have hD : va_D A [(g0, .inr (6, [.int 2, .int ar, .ref m_sea, .ref m_center, .ref m_home, .ref m_borders, .int mp, .int mt, .ref m_owner, .ref m_units, .ref m_kind, .ref m_toX, .ref m_toY, .ref m_results, .ref m_known, .ref m_reached, .ref m_way, .ref m_aside, .ref m_origin, .ref m_retreats, .ref m_contested, .ref m_moved, .int msh, .ref m_past]))] := hD
                    refine lv_aload_n hx hb d_Mo_order_95 rfl (lv_at hl 1 rfl) ?_
                    refine va_get (D := D) (ci := 6) (v := .int 2) (C := R_Mo) (T := T_Mo) (N := 24) hx hb hts hin_Mo hown hK hP 0 rfl rfl 0 (by decide) (hts _ wd_704) (fun _ h9 => h9) rfl d_Mo_order_96 ?_
                    refine lv_if_eq (tgt := 104) hx hb d_Mo_order_99 (by decide) (fun h0 => absurd h0 (by decide)) (fun _ => ?_)
                    refine lv_iconst (v := 0) hx hb d_Mo_order_102 (by decide) ?_
                    have hP9 := hP.sub (ws' := [(g0, .inr (6, [.int 2, .int ar, .ref m_sea, .ref m_center, .ref m_home, .ref m_borders, .int mp, .int mt, .ref m_owner, .ref m_units, .ref m_kind, .ref m_toX, .ref m_toY, .ref m_results, .ref m_known, .ref m_reached, .ref m_way, .ref m_aside, .ref m_origin, .ref m_retreats, .ref m_contested, .ref m_moved, .int msh, .ref m_past]))]) [0] rfl
                    have hD9 := hD.sub (ws' := [(g0, .inr (6, [.int 2, .int ar, .ref m_sea, .ref m_center, .ref m_home, .ref m_borders, .int mp, .int mt, .ref m_owner, .ref m_units, .ref m_kind, .ref m_toX, .ref m_toY, .ref m_results, .ref m_known, .ref m_reached, .ref m_way, .ref m_aside, .ref m_origin, .ref m_retreats, .ref m_contested, .ref m_moved, .int msh, .ref m_past]))]) [0] (by decide) rfl
                    exact W.iret (v := 0) hx hb hr (fun t ht hW => ⟨⟨0, (), rfl, rfl, by rw [ht]; exact hP9, hD9⟩, hS.F ht⟩) hS.2.2 d_Mo_order_103
            · -- 55: false
              refine lv_if_eq (tgt := 75) hx hb d_Mo_order_58 (by decide) (fun _ => ?_) (fun h0 => absurd (by decide) h0)
              exact False.elim (by unfold okO at hok; revert hok hc1 hc58 hq116 hc118 hq120 hq123; simp only [Int32.lt_iff_toInt_lt, Int32.le_iff_toInt_le, ← Int32.toInt_inj, Int32.reduceToInt, i32_m1]; omega)
          · -- 47: false
            refine lv_if_eq (tgt := 75) hx hb d_Mo_order_50 (by decide) (fun _ => ?_) (fun h0 => absurd (by decide) h0)
            exact False.elim (by unfold okO at hok; revert hok hc1 hc58 hq116 hc118 hq120; simp only [Int32.lt_iff_toInt_lt, Int32.le_iff_toInt_le, ← Int32.toInt_inj, Int32.reduceToInt, i32_m1]; omega)
        · -- 21 not taken
          refine lv_iload_n hx hb d_Mo_order_24 rfl (lv_at hl 3 rfl) ?_
          refine lv_iconst (v := 3) hx hb d_Mo_order_25 (by decide) ?_
          refine lv_icmp_gt (tgt := 38) hx hb d_Mo_order_26 (by decide) (fun hc132 => ?_) (fun hc132 => ?_)
          · -- 26 taken
            refine lv_iconst (v := 1) hx hb d_Mo_order_38 (by decide) ?_
            refine lv_goto (tgt := 43) hx hb d_Mo_order_39 (by decide) ?_
            refine lv_istore (lv' := [(6, .int 1), (0, .ref g0), (1, .int pl), (2, .int a), (3, .int k), (4, .int x), (5, .int y)]) hx hb d_Mo_order_43 hl (by decide) rfl (fun ls hl => ?_)
            refine lv_aload_n hx hb d_Mo_order_45 rfl (lv_at hl 1 rfl) ?_
            refine lv_iload_n hx hb d_Mo_order_46 rfl (lv_at hl 2 rfl) ?_
            have hPc := hP.sub (ws' := []) [] rfl
            refine vp_callSi (va_Run.run (va_runS (As := [.int pl]) (rest := [.ref g0]) ⟨hx, hb, hml, hown, hts⟩ (c_Mo_isPlayer l D cI cZ cJ cS aT ceT  pl ) (va_cwS 1 hts (tb_3 wd_802 wd_803 wd_8 (tb_c wd_804)) rfl rfl rfl ⟨by decide, by decide, by decide +kernel⟩ ⟨Nat.le_of_ble_eq_true rfl, Nat.le_of_ble_eq_true rfl⟩) (tP_S hK hX (hS.2.1 aT hXl hXn) hPc) rfl rfl hl.1 rfl (lv_room (Nat.le_of_ble_eq_true rfl)) d_Mo_order_47 ⟨Nat.le_of_ble_eq_true rfl, Nat.le_of_ble_eq_true rfl⟩)) (fun r133 hr9 => ?_)
            rcases hr9 with ⟨rfl, hq134⟩ | ⟨rfl, hq134⟩
            · -- 47: true
              refine lv_if_eq (tgt := 75) hx hb d_Mo_order_50 (by decide) (fun h0 => absurd h0 (by decide)) (fun _ => ?_)
              refine lv_aload_n hx hb d_Mo_order_53 rfl (lv_at hl 1 rfl) ?_
              refine lv_iload_n hx hb d_Mo_order_54 rfl (lv_at hl 3 rfl) ?_
              have hPc := hP.sub (ws' := [(g0, .inr (6, [.int co, .int ar, .ref m_sea, .ref m_center, .ref m_home, .ref m_borders, .int mp, .int mt, .ref m_owner, .ref m_units, .ref m_kind, .ref m_toX, .ref m_toY, .ref m_results, .ref m_known, .ref m_reached, .ref m_way, .ref m_aside, .ref m_origin, .ref m_retreats, .ref m_contested, .ref m_moved, .int msh, .ref m_past]))]) [0] rfl
              refine vp_callSi (va_Run.run (va_runV (As := [.int a]) (rest := [.ref g0]) ⟨hx, hb, hml, hown, hts⟩ (c_Mo_isArea l D cI cZ cJ cS aT ceT  g0 m_sea m_center m_home m_borders m_owner m_units m_kind m_toX m_toY m_results m_known m_reached m_way m_aside m_origin m_retreats m_contested m_moved m_past co ar mp mt msh a ) (cwV 1 hts (tb_4 wd_790 wd_792 wp_36 wd_8 (tb_c wd_793)) rfl rfl rfl ⟨rfl, by decide, by decide, by decide +kernel⟩ ⟨Nat.le_of_ble_eq_true rfl, Nat.le_of_ble_eq_true rfl⟩) (tP_V hK hX (hS.2.1 aT hXl hXn) hPc (q := 0) rfl rfl) rfl rfl hl.1 rfl (lv_room (Nat.le_of_ble_eq_true rfl)) d_Mo_order_55 ⟨Nat.le_of_ble_eq_true rfl, Nat.le_of_ble_eq_true rfl⟩)) (fun r136 hr9 => ?_)
              rcases hr9 with ⟨rfl, hq137⟩ | ⟨rfl, hq137⟩
              · -- 55: true
                refine lv_if_eq (tgt := 75) hx hb d_Mo_order_58 (by decide) (fun h0 => absurd h0 (by decide)) (fun _ => ?_)
                refine lv_iload_n hx hb d_Mo_order_61 rfl (lv_at hl 4 rfl) ?_
                refine lv_if_lt (tgt := 75) hx hb d_Mo_order_62 (by decide) (fun hc139 => ?_) (fun hc139 => ?_)
                · -- 62 taken
                  exact False.elim (by unfold okO at hok; revert hok hc1 hc58 hq116 hc118 hc132 hq134 hq137 hc139; simp only [Int32.lt_iff_toInt_lt, Int32.le_iff_toInt_le, ← Int32.toInt_inj, Int32.reduceToInt, i32_m1]; omega)
                · -- 62 not taken
                  refine lv_iload_n hx hb d_Mo_order_65 rfl (lv_at hl 4 rfl) ?_
                  refine lv_iconst (v := 3) hx hb d_Mo_order_66 (by decide) ?_
                  refine lv_icmp_gt (tgt := 75) hx hb d_Mo_order_67 (by decide) (fun hc140 => ?_) (fun hc140 => ?_)
                  · -- 67 taken
                    exact False.elim (by unfold okO at hok; revert hok hc1 hc58 hq116 hc118 hc132 hq134 hq137 hc139 hc140; simp only [Int32.lt_iff_toInt_lt, Int32.le_iff_toInt_le, ← Int32.toInt_inj, Int32.reduceToInt, i32_m1]; omega)
                  · -- 67 not taken
                    refine lv_iload hx hb d_Mo_order_70 (lv_at hl 0 rfl) ?_
                    refine lv_if_ne (tgt := 79) hx hb d_Mo_order_72 (by decide) (fun _ => ?_) (fun h0 => absurd h0 (by decide))
                    refine lv_aload_n hx hb d_Mo_order_79 rfl (lv_at hl 1 rfl) ?_
                    refine va_get (D := D) (ci := 6) (v := .int mp) (C := R_Mo) (T := T_Mo) (N := 24) hx hb hts hin_Mo hown hK hP 0 rfl rfl 6 (by decide) (hts _ wd_710) (fun _ h9 => h9) rfl d_Mo_order_80 ?_
                    refine lv_iconst (v := 1) hx hb d_Mo_order_83 (by decide) ?_
                    refine lv_icmp_eq (tgt := 91) hx hb d_Mo_order_84 (by decide) (fun hc142 => ?_) (fun hc142 => ?_)
                    · -- 84 taken
                      exact absurd hc142 hph
                    · -- 84 not taken
                      refine lv_iconst (v := 2) hx hb d_Mo_order_87 (by decide) ?_
                      refine lv_goto (tgt := 92) hx hb d_Mo_order_88 (by decide) ?_
                      refine va_put (D := D) (ci := 6) (v := .int 2) (ty := .int) (C := R_Mo) (T := T_Mo) (N := 24) hx hb hts hin_Mo ty_Mo tyok_Mo nm_Mo hown hK hP hD hS 0 rfl rfl 0 (by decide) (hts _ wd_704) (fun _ h9 => h9) rfl (by decide +kernel) rfl rfl (Nat.le_of_ble_eq_true rfl) d_Mo_order_92 (fun H locs hP hD hS => ?_)
                      have hP : va_P D vwCl [(g0, .inr (6, [.int 2, .int ar, .ref m_sea, .ref m_center, .ref m_home, .ref m_borders, .int mp, .int mt, .ref m_owner, .ref m_units, .ref m_kind, .ref m_toX, .ref m_toY, .ref m_results, .ref m_known, .ref m_reached, .ref m_way, .ref m_aside, .ref m_origin, .ref m_retreats, .ref m_contested, .ref m_moved, .int msh, .ref m_past]))] H := hP
                      have hD : va_D A [(g0, .inr (6, [.int 2, .int ar, .ref m_sea, .ref m_center, .ref m_home, .ref m_borders, .int mp, .int mt, .ref m_owner, .ref m_units, .ref m_kind, .ref m_toX, .ref m_toY, .ref m_results, .ref m_known, .ref m_reached, .ref m_way, .ref m_aside, .ref m_origin, .ref m_retreats, .ref m_contested, .ref m_moved, .int msh, .ref m_past]))] := hD
                      refine lv_aload_n hx hb d_Mo_order_95 rfl (lv_at hl 1 rfl) ?_
                      refine va_get (D := D) (ci := 6) (v := .int 2) (C := R_Mo) (T := T_Mo) (N := 24) hx hb hts hin_Mo hown hK hP 0 rfl rfl 0 (by decide) (hts _ wd_704) (fun _ h9 => h9) rfl d_Mo_order_96 ?_
                      refine lv_if_eq (tgt := 104) hx hb d_Mo_order_99 (by decide) (fun h0 => absurd h0 (by decide)) (fun _ => ?_)
                      refine lv_iconst (v := 0) hx hb d_Mo_order_102 (by decide) ?_
                      have hP9 := hP.sub (ws' := [(g0, .inr (6, [.int 2, .int ar, .ref m_sea, .ref m_center, .ref m_home, .ref m_borders, .int mp, .int mt, .ref m_owner, .ref m_units, .ref m_kind, .ref m_toX, .ref m_toY, .ref m_results, .ref m_known, .ref m_reached, .ref m_way, .ref m_aside, .ref m_origin, .ref m_retreats, .ref m_contested, .ref m_moved, .int msh, .ref m_past]))]) [0] rfl
                      have hD9 := hD.sub (ws' := [(g0, .inr (6, [.int 2, .int ar, .ref m_sea, .ref m_center, .ref m_home, .ref m_borders, .int mp, .int mt, .ref m_owner, .ref m_units, .ref m_kind, .ref m_toX, .ref m_toY, .ref m_results, .ref m_known, .ref m_reached, .ref m_way, .ref m_aside, .ref m_origin, .ref m_retreats, .ref m_contested, .ref m_moved, .int msh, .ref m_past]))]) [0] (by decide) rfl
                      exact W.iret (v := 0) hx hb hr (fun t ht hW => ⟨⟨0, (), rfl, rfl, by rw [ht]; exact hP9, hD9⟩, hS.F ht⟩) hS.2.2 d_Mo_order_103
              · -- 55: false
                refine lv_if_eq (tgt := 75) hx hb d_Mo_order_58 (by decide) (fun _ => ?_) (fun h0 => absurd (by decide) h0)
                exact False.elim (by unfold okO at hok; revert hok hc1 hc58 hq116 hc118 hc132 hq134 hq137; simp only [Int32.lt_iff_toInt_lt, Int32.le_iff_toInt_le, ← Int32.toInt_inj, Int32.reduceToInt, i32_m1]; omega)
            · -- 47: false
              refine lv_if_eq (tgt := 75) hx hb d_Mo_order_50 (by decide) (fun _ => ?_) (fun h0 => absurd (by decide) h0)
              exact False.elim (by unfold okO at hok; revert hok hc1 hc58 hq116 hc118 hc132 hq134; simp only [Int32.lt_iff_toInt_lt, Int32.le_iff_toInt_le, ← Int32.toInt_inj, Int32.reduceToInt, i32_m1]; omega)
          · -- 26 not taken
            refine lv_aload_n hx hb d_Mo_order_29 rfl (lv_at hl 0 rfl) ?_
            refine lv_iload hx hb d_Mo_order_30 (lv_at hl 5 rfl) ?_
            have hPc := hP.sub (ws' := [(g0, .inr (6, [.int co, .int ar, .ref m_sea, .ref m_center, .ref m_home, .ref m_borders, .int mp, .int mt, .ref m_owner, .ref m_units, .ref m_kind, .ref m_toX, .ref m_toY, .ref m_results, .ref m_known, .ref m_reached, .ref m_way, .ref m_aside, .ref m_origin, .ref m_retreats, .ref m_contested, .ref m_moved, .int msh, .ref m_past]))]) [0] rfl
            refine vp_callSi (va_Run.run (va_runV (As := [.int y]) (rest := []) ⟨hx, hb, hml, hown, hts⟩ (c_Mo_isArea l D cI cZ cJ cS aT ceT  g0 m_sea m_center m_home m_borders m_owner m_units m_kind m_toX m_toY m_results m_known m_reached m_way m_aside m_origin m_retreats m_contested m_moved m_past co ar mp mt msh y ) (cwV 1 hts (tb_4 wd_790 wd_792 wp_36 wd_8 (tb_c wd_793)) rfl rfl rfl ⟨rfl, by decide, by decide, by decide +kernel⟩ ⟨Nat.le_of_ble_eq_true rfl, Nat.le_of_ble_eq_true rfl⟩) (tP_V hK hX (hS.2.1 aT hXl hXn) hPc (q := 0) rfl rfl) rfl rfl hl.1 rfl (lv_room (Nat.le_of_ble_eq_true rfl)) d_Mo_order_32 ⟨Nat.le_of_ble_eq_true rfl, Nat.le_of_ble_eq_true rfl⟩)) (fun r146 hr9 => ?_)
            rcases hr9 with ⟨rfl, hq147⟩ | ⟨rfl, hq147⟩
            · -- 32: true
              refine lv_if_eq (tgt := 42) hx hb d_Mo_order_35 (by decide) (fun h0 => absurd h0 (by decide)) (fun _ => ?_)
              refine lv_iconst (v := 1) hx hb d_Mo_order_38 (by decide) ?_
              refine lv_goto (tgt := 43) hx hb d_Mo_order_39 (by decide) ?_
              refine lv_istore (lv' := [(6, .int 1), (0, .ref g0), (1, .int pl), (2, .int a), (3, .int k), (4, .int x), (5, .int y)]) hx hb d_Mo_order_43 hl (by decide) rfl (fun ls hl => ?_)
              refine lv_aload_n hx hb d_Mo_order_45 rfl (lv_at hl 1 rfl) ?_
              refine lv_iload_n hx hb d_Mo_order_46 rfl (lv_at hl 2 rfl) ?_
              have hPc := hP.sub (ws' := []) [] rfl
              refine vp_callSi (va_Run.run (va_runS (As := [.int pl]) (rest := [.ref g0]) ⟨hx, hb, hml, hown, hts⟩ (c_Mo_isPlayer l D cI cZ cJ cS aT ceT  pl ) (va_cwS 1 hts (tb_3 wd_802 wd_803 wd_8 (tb_c wd_804)) rfl rfl rfl ⟨by decide, by decide, by decide +kernel⟩ ⟨Nat.le_of_ble_eq_true rfl, Nat.le_of_ble_eq_true rfl⟩) (tP_S hK hX (hS.2.1 aT hXl hXn) hPc) rfl rfl hl.1 rfl (lv_room (Nat.le_of_ble_eq_true rfl)) d_Mo_order_47 ⟨Nat.le_of_ble_eq_true rfl, Nat.le_of_ble_eq_true rfl⟩)) (fun r149 hr9 => ?_)
              rcases hr9 with ⟨rfl, hq150⟩ | ⟨rfl, hq150⟩
              · -- 47: true
                refine lv_if_eq (tgt := 75) hx hb d_Mo_order_50 (by decide) (fun h0 => absurd h0 (by decide)) (fun _ => ?_)
                refine lv_aload_n hx hb d_Mo_order_53 rfl (lv_at hl 1 rfl) ?_
                refine lv_iload_n hx hb d_Mo_order_54 rfl (lv_at hl 3 rfl) ?_
                have hPc := hP.sub (ws' := [(g0, .inr (6, [.int co, .int ar, .ref m_sea, .ref m_center, .ref m_home, .ref m_borders, .int mp, .int mt, .ref m_owner, .ref m_units, .ref m_kind, .ref m_toX, .ref m_toY, .ref m_results, .ref m_known, .ref m_reached, .ref m_way, .ref m_aside, .ref m_origin, .ref m_retreats, .ref m_contested, .ref m_moved, .int msh, .ref m_past]))]) [0] rfl
                refine vp_callSi (va_Run.run (va_runV (As := [.int a]) (rest := [.ref g0]) ⟨hx, hb, hml, hown, hts⟩ (c_Mo_isArea l D cI cZ cJ cS aT ceT  g0 m_sea m_center m_home m_borders m_owner m_units m_kind m_toX m_toY m_results m_known m_reached m_way m_aside m_origin m_retreats m_contested m_moved m_past co ar mp mt msh a ) (cwV 1 hts (tb_4 wd_790 wd_792 wp_36 wd_8 (tb_c wd_793)) rfl rfl rfl ⟨rfl, by decide, by decide, by decide +kernel⟩ ⟨Nat.le_of_ble_eq_true rfl, Nat.le_of_ble_eq_true rfl⟩) (tP_V hK hX (hS.2.1 aT hXl hXn) hPc (q := 0) rfl rfl) rfl rfl hl.1 rfl (lv_room (Nat.le_of_ble_eq_true rfl)) d_Mo_order_55 ⟨Nat.le_of_ble_eq_true rfl, Nat.le_of_ble_eq_true rfl⟩)) (fun r152 hr9 => ?_)
                rcases hr9 with ⟨rfl, hq153⟩ | ⟨rfl, hq153⟩
                · -- 55: true
                  refine lv_if_eq (tgt := 75) hx hb d_Mo_order_58 (by decide) (fun h0 => absurd h0 (by decide)) (fun _ => ?_)
                  refine lv_iload_n hx hb d_Mo_order_61 rfl (lv_at hl 4 rfl) ?_
                  refine lv_if_lt (tgt := 75) hx hb d_Mo_order_62 (by decide) (fun hc155 => ?_) (fun hc155 => ?_)
                  · -- 62 taken
                    exact False.elim (by unfold okO at hok; revert hok hc1 hc58 hq116 hc118 hc132 hq147 hq150 hq153 hc155; simp only [Int32.lt_iff_toInt_lt, Int32.le_iff_toInt_le, ← Int32.toInt_inj, Int32.reduceToInt, i32_m1]; omega)
                  · -- 62 not taken
                    refine lv_iload_n hx hb d_Mo_order_65 rfl (lv_at hl 4 rfl) ?_
                    refine lv_iconst (v := 3) hx hb d_Mo_order_66 (by decide) ?_
                    refine lv_icmp_gt (tgt := 75) hx hb d_Mo_order_67 (by decide) (fun hc156 => ?_) (fun hc156 => ?_)
                    · -- 67 taken
                      exact False.elim (by unfold okO at hok; revert hok hc1 hc58 hq116 hc118 hc132 hq147 hq150 hq153 hc155 hc156; simp only [Int32.lt_iff_toInt_lt, Int32.le_iff_toInt_le, ← Int32.toInt_inj, Int32.reduceToInt, i32_m1]; omega)
                    · -- 67 not taken
                      refine lv_iload hx hb d_Mo_order_70 (lv_at hl 0 rfl) ?_
                      refine lv_if_ne (tgt := 79) hx hb d_Mo_order_72 (by decide) (fun _ => ?_) (fun h0 => absurd h0 (by decide))
                      refine lv_aload_n hx hb d_Mo_order_79 rfl (lv_at hl 1 rfl) ?_
                      refine va_get (D := D) (ci := 6) (v := .int mp) (C := R_Mo) (T := T_Mo) (N := 24) hx hb hts hin_Mo hown hK hP 0 rfl rfl 6 (by decide) (hts _ wd_710) (fun _ h9 => h9) rfl d_Mo_order_80 ?_
                      refine lv_iconst (v := 1) hx hb d_Mo_order_83 (by decide) ?_
                      refine lv_icmp_eq (tgt := 91) hx hb d_Mo_order_84 (by decide) (fun hc158 => ?_) (fun hc158 => ?_)
                      · -- 84 taken
                        exact absurd hc158 hph
                      · -- 84 not taken
                        refine lv_iconst (v := 2) hx hb d_Mo_order_87 (by decide) ?_
                        refine lv_goto (tgt := 92) hx hb d_Mo_order_88 (by decide) ?_
                        refine va_put (D := D) (ci := 6) (v := .int 2) (ty := .int) (C := R_Mo) (T := T_Mo) (N := 24) hx hb hts hin_Mo ty_Mo tyok_Mo nm_Mo hown hK hP hD hS 0 rfl rfl 0 (by decide) (hts _ wd_704) (fun _ h9 => h9) rfl (by decide +kernel) rfl rfl (Nat.le_of_ble_eq_true rfl) d_Mo_order_92 (fun H locs hP hD hS => ?_)
                        have hP : va_P D vwCl [(g0, .inr (6, [.int 2, .int ar, .ref m_sea, .ref m_center, .ref m_home, .ref m_borders, .int mp, .int mt, .ref m_owner, .ref m_units, .ref m_kind, .ref m_toX, .ref m_toY, .ref m_results, .ref m_known, .ref m_reached, .ref m_way, .ref m_aside, .ref m_origin, .ref m_retreats, .ref m_contested, .ref m_moved, .int msh, .ref m_past]))] H := hP
                        have hD : va_D A [(g0, .inr (6, [.int 2, .int ar, .ref m_sea, .ref m_center, .ref m_home, .ref m_borders, .int mp, .int mt, .ref m_owner, .ref m_units, .ref m_kind, .ref m_toX, .ref m_toY, .ref m_results, .ref m_known, .ref m_reached, .ref m_way, .ref m_aside, .ref m_origin, .ref m_retreats, .ref m_contested, .ref m_moved, .int msh, .ref m_past]))] := hD
                        refine lv_aload_n hx hb d_Mo_order_95 rfl (lv_at hl 1 rfl) ?_
                        refine va_get (D := D) (ci := 6) (v := .int 2) (C := R_Mo) (T := T_Mo) (N := 24) hx hb hts hin_Mo hown hK hP 0 rfl rfl 0 (by decide) (hts _ wd_704) (fun _ h9 => h9) rfl d_Mo_order_96 ?_
                        refine lv_if_eq (tgt := 104) hx hb d_Mo_order_99 (by decide) (fun h0 => absurd h0 (by decide)) (fun _ => ?_)
                        refine lv_iconst (v := 0) hx hb d_Mo_order_102 (by decide) ?_
                        have hP9 := hP.sub (ws' := [(g0, .inr (6, [.int 2, .int ar, .ref m_sea, .ref m_center, .ref m_home, .ref m_borders, .int mp, .int mt, .ref m_owner, .ref m_units, .ref m_kind, .ref m_toX, .ref m_toY, .ref m_results, .ref m_known, .ref m_reached, .ref m_way, .ref m_aside, .ref m_origin, .ref m_retreats, .ref m_contested, .ref m_moved, .int msh, .ref m_past]))]) [0] rfl
                        have hD9 := hD.sub (ws' := [(g0, .inr (6, [.int 2, .int ar, .ref m_sea, .ref m_center, .ref m_home, .ref m_borders, .int mp, .int mt, .ref m_owner, .ref m_units, .ref m_kind, .ref m_toX, .ref m_toY, .ref m_results, .ref m_known, .ref m_reached, .ref m_way, .ref m_aside, .ref m_origin, .ref m_retreats, .ref m_contested, .ref m_moved, .int msh, .ref m_past]))]) [0] (by decide) rfl
                        exact W.iret (v := 0) hx hb hr (fun t ht hW => ⟨⟨0, (), rfl, rfl, by rw [ht]; exact hP9, hD9⟩, hS.F ht⟩) hS.2.2 d_Mo_order_103
                · -- 55: false
                  refine lv_if_eq (tgt := 75) hx hb d_Mo_order_58 (by decide) (fun _ => ?_) (fun h0 => absurd (by decide) h0)
                  exact False.elim (by unfold okO at hok; revert hok hc1 hc58 hq116 hc118 hc132 hq147 hq150 hq153; simp only [Int32.lt_iff_toInt_lt, Int32.le_iff_toInt_le, ← Int32.toInt_inj, Int32.reduceToInt, i32_m1]; omega)
              · -- 47: false
                refine lv_if_eq (tgt := 75) hx hb d_Mo_order_50 (by decide) (fun _ => ?_) (fun h0 => absurd (by decide) h0)
                exact False.elim (by unfold okO at hok; revert hok hc1 hc58 hq116 hc118 hc132 hq147 hq150; simp only [Int32.lt_iff_toInt_lt, Int32.le_iff_toInt_le, ← Int32.toInt_inj, Int32.reduceToInt, i32_m1]; omega)
            · -- 32: false
              refine lv_if_eq (tgt := 42) hx hb d_Mo_order_35 (by decide) (fun _ => ?_) (fun h0 => absurd (by decide) h0)
              refine lv_iconst (v := 0) hx hb d_Mo_order_42 (by decide) ?_
              refine lv_istore (lv' := [(6, .int 0), (0, .ref g0), (1, .int pl), (2, .int a), (3, .int k), (4, .int x), (5, .int y)]) hx hb d_Mo_order_43 hl (by decide) rfl (fun ls hl => ?_)
              refine lv_aload_n hx hb d_Mo_order_45 rfl (lv_at hl 1 rfl) ?_
              refine lv_iload_n hx hb d_Mo_order_46 rfl (lv_at hl 2 rfl) ?_
              have hPc := hP.sub (ws' := []) [] rfl
              refine vp_callSi (va_Run.run (va_runS (As := [.int pl]) (rest := [.ref g0]) ⟨hx, hb, hml, hown, hts⟩ (c_Mo_isPlayer l D cI cZ cJ cS aT ceT  pl ) (va_cwS 1 hts (tb_3 wd_802 wd_803 wd_8 (tb_c wd_804)) rfl rfl rfl ⟨by decide, by decide, by decide +kernel⟩ ⟨Nat.le_of_ble_eq_true rfl, Nat.le_of_ble_eq_true rfl⟩) (tP_S hK hX (hS.2.1 aT hXl hXn) hPc) rfl rfl hl.1 rfl (lv_room (Nat.le_of_ble_eq_true rfl)) d_Mo_order_47 ⟨Nat.le_of_ble_eq_true rfl, Nat.le_of_ble_eq_true rfl⟩)) (fun r163 hr9 => ?_)
              rcases hr9 with ⟨rfl, hq164⟩ | ⟨rfl, hq164⟩
              · -- 47: true
                refine lv_if_eq (tgt := 75) hx hb d_Mo_order_50 (by decide) (fun h0 => absurd h0 (by decide)) (fun _ => ?_)
                refine lv_aload_n hx hb d_Mo_order_53 rfl (lv_at hl 1 rfl) ?_
                refine lv_iload_n hx hb d_Mo_order_54 rfl (lv_at hl 3 rfl) ?_
                have hPc := hP.sub (ws' := [(g0, .inr (6, [.int co, .int ar, .ref m_sea, .ref m_center, .ref m_home, .ref m_borders, .int mp, .int mt, .ref m_owner, .ref m_units, .ref m_kind, .ref m_toX, .ref m_toY, .ref m_results, .ref m_known, .ref m_reached, .ref m_way, .ref m_aside, .ref m_origin, .ref m_retreats, .ref m_contested, .ref m_moved, .int msh, .ref m_past]))]) [0] rfl
                refine vp_callSi (va_Run.run (va_runV (As := [.int a]) (rest := [.ref g0]) ⟨hx, hb, hml, hown, hts⟩ (c_Mo_isArea l D cI cZ cJ cS aT ceT  g0 m_sea m_center m_home m_borders m_owner m_units m_kind m_toX m_toY m_results m_known m_reached m_way m_aside m_origin m_retreats m_contested m_moved m_past co ar mp mt msh a ) (cwV 1 hts (tb_4 wd_790 wd_792 wp_36 wd_8 (tb_c wd_793)) rfl rfl rfl ⟨rfl, by decide, by decide, by decide +kernel⟩ ⟨Nat.le_of_ble_eq_true rfl, Nat.le_of_ble_eq_true rfl⟩) (tP_V hK hX (hS.2.1 aT hXl hXn) hPc (q := 0) rfl rfl) rfl rfl hl.1 rfl (lv_room (Nat.le_of_ble_eq_true rfl)) d_Mo_order_55 ⟨Nat.le_of_ble_eq_true rfl, Nat.le_of_ble_eq_true rfl⟩)) (fun r166 hr9 => ?_)
                rcases hr9 with ⟨rfl, hq167⟩ | ⟨rfl, hq167⟩
                · -- 55: true
                  refine lv_if_eq (tgt := 75) hx hb d_Mo_order_58 (by decide) (fun h0 => absurd h0 (by decide)) (fun _ => ?_)
                  refine lv_iload_n hx hb d_Mo_order_61 rfl (lv_at hl 4 rfl) ?_
                  refine lv_if_lt (tgt := 75) hx hb d_Mo_order_62 (by decide) (fun hc169 => ?_) (fun hc169 => ?_)
                  · -- 62 taken
                    exact False.elim (by unfold okO at hok; revert hok hc1 hc58 hq116 hc118 hc132 hq147 hq164 hq167 hc169; simp only [Int32.lt_iff_toInt_lt, Int32.le_iff_toInt_le, ← Int32.toInt_inj, Int32.reduceToInt, i32_m1]; omega)
                  · -- 62 not taken
                    refine lv_iload_n hx hb d_Mo_order_65 rfl (lv_at hl 4 rfl) ?_
                    refine lv_iconst (v := 3) hx hb d_Mo_order_66 (by decide) ?_
                    refine lv_icmp_gt (tgt := 75) hx hb d_Mo_order_67 (by decide) (fun hc170 => ?_) (fun hc170 => ?_)
                    · -- 67 taken
                      exact False.elim (by unfold okO at hok; revert hok hc1 hc58 hq116 hc118 hc132 hq147 hq164 hq167 hc169 hc170; simp only [Int32.lt_iff_toInt_lt, Int32.le_iff_toInt_le, ← Int32.toInt_inj, Int32.reduceToInt, i32_m1]; omega)
                    · -- 67 not taken
                      refine lv_iload hx hb d_Mo_order_70 (lv_at hl 0 rfl) ?_
                      refine lv_if_ne (tgt := 79) hx hb d_Mo_order_72 (by decide) (fun h0 => absurd (by decide) h0) (fun _ => ?_)
                      exact False.elim (by unfold okO at hok; revert hok hc1 hc58 hq116 hc118 hc132 hq147 hq164 hq167 hc169 hc170; simp only [Int32.lt_iff_toInt_lt, Int32.le_iff_toInt_le, ← Int32.toInt_inj, Int32.reduceToInt, i32_m1]; omega)
                · -- 55: false
                  refine lv_if_eq (tgt := 75) hx hb d_Mo_order_58 (by decide) (fun _ => ?_) (fun h0 => absurd (by decide) h0)
                  exact False.elim (by unfold okO at hok; revert hok hc1 hc58 hq116 hc118 hc132 hq147 hq164 hq167; simp only [Int32.lt_iff_toInt_lt, Int32.le_iff_toInt_le, ← Int32.toInt_inj, Int32.reduceToInt, i32_m1]; omega)
              · -- 47: false
                refine lv_if_eq (tgt := 75) hx hb d_Mo_order_50 (by decide) (fun _ => ?_) (fun h0 => absurd (by decide) h0)
                exact False.elim (by unfold okO at hok; revert hok hc1 hc58 hq116 hc118 hc132 hq147 hq164; simp only [Int32.lt_iff_toInt_lt, Int32.le_iff_toInt_le, ← Int32.toInt_inj, Int32.reduceToInt, i32_m1]; omega)
      · -- 13: false
        refine lv_if_eq (tgt := 42) hx hb d_Mo_order_16 (by decide) (fun _ => ?_) (fun h0 => absurd (by decide) h0)
        refine lv_iconst (v := 0) hx hb d_Mo_order_42 (by decide) ?_
        refine lv_istore (lv' := [(6, .int 0), (0, .ref g0), (1, .int pl), (2, .int a), (3, .int k), (4, .int x), (5, .int y)]) hx hb d_Mo_order_43 hl (by decide) rfl (fun ls hl => ?_)
        refine lv_aload_n hx hb d_Mo_order_45 rfl (lv_at hl 1 rfl) ?_
        refine lv_iload_n hx hb d_Mo_order_46 rfl (lv_at hl 2 rfl) ?_
        have hPc := hP.sub (ws' := []) [] rfl
        refine vp_callSi (va_Run.run (va_runS (As := [.int pl]) (rest := [.ref g0]) ⟨hx, hb, hml, hown, hts⟩ (c_Mo_isPlayer l D cI cZ cJ cS aT ceT  pl ) (va_cwS 1 hts (tb_3 wd_802 wd_803 wd_8 (tb_c wd_804)) rfl rfl rfl ⟨by decide, by decide, by decide +kernel⟩ ⟨Nat.le_of_ble_eq_true rfl, Nat.le_of_ble_eq_true rfl⟩) (tP_S hK hX (hS.2.1 aT hXl hXn) hPc) rfl rfl hl.1 rfl (lv_room (Nat.le_of_ble_eq_true rfl)) d_Mo_order_47 ⟨Nat.le_of_ble_eq_true rfl, Nat.le_of_ble_eq_true rfl⟩)) (fun r175 hr9 => ?_)
        rcases hr9 with ⟨rfl, hq176⟩ | ⟨rfl, hq176⟩
        · -- 47: true
          refine lv_if_eq (tgt := 75) hx hb d_Mo_order_50 (by decide) (fun h0 => absurd h0 (by decide)) (fun _ => ?_)
          refine lv_aload_n hx hb d_Mo_order_53 rfl (lv_at hl 1 rfl) ?_
          refine lv_iload_n hx hb d_Mo_order_54 rfl (lv_at hl 3 rfl) ?_
          have hPc := hP.sub (ws' := [(g0, .inr (6, [.int co, .int ar, .ref m_sea, .ref m_center, .ref m_home, .ref m_borders, .int mp, .int mt, .ref m_owner, .ref m_units, .ref m_kind, .ref m_toX, .ref m_toY, .ref m_results, .ref m_known, .ref m_reached, .ref m_way, .ref m_aside, .ref m_origin, .ref m_retreats, .ref m_contested, .ref m_moved, .int msh, .ref m_past]))]) [0] rfl
          refine vp_callSi (va_Run.run (va_runV (As := [.int a]) (rest := [.ref g0]) ⟨hx, hb, hml, hown, hts⟩ (c_Mo_isArea l D cI cZ cJ cS aT ceT  g0 m_sea m_center m_home m_borders m_owner m_units m_kind m_toX m_toY m_results m_known m_reached m_way m_aside m_origin m_retreats m_contested m_moved m_past co ar mp mt msh a ) (cwV 1 hts (tb_4 wd_790 wd_792 wp_36 wd_8 (tb_c wd_793)) rfl rfl rfl ⟨rfl, by decide, by decide, by decide +kernel⟩ ⟨Nat.le_of_ble_eq_true rfl, Nat.le_of_ble_eq_true rfl⟩) (tP_V hK hX (hS.2.1 aT hXl hXn) hPc (q := 0) rfl rfl) rfl rfl hl.1 rfl (lv_room (Nat.le_of_ble_eq_true rfl)) d_Mo_order_55 ⟨Nat.le_of_ble_eq_true rfl, Nat.le_of_ble_eq_true rfl⟩)) (fun r178 hr9 => ?_)
          rcases hr9 with ⟨rfl, hq179⟩ | ⟨rfl, hq179⟩
          · -- 55: true
            refine lv_if_eq (tgt := 75) hx hb d_Mo_order_58 (by decide) (fun h0 => absurd h0 (by decide)) (fun _ => ?_)
            refine lv_iload_n hx hb d_Mo_order_61 rfl (lv_at hl 4 rfl) ?_
            refine lv_if_lt (tgt := 75) hx hb d_Mo_order_62 (by decide) (fun hc181 => ?_) (fun hc181 => ?_)
            · -- 62 taken
              exact False.elim (by unfold okO at hok; revert hok hc1 hc58 hq116 hq176 hq179 hc181; simp only [Int32.lt_iff_toInt_lt, Int32.le_iff_toInt_le, ← Int32.toInt_inj, Int32.reduceToInt, i32_m1]; omega)
            · -- 62 not taken
              refine lv_iload_n hx hb d_Mo_order_65 rfl (lv_at hl 4 rfl) ?_
              refine lv_iconst (v := 3) hx hb d_Mo_order_66 (by decide) ?_
              refine lv_icmp_gt (tgt := 75) hx hb d_Mo_order_67 (by decide) (fun hc182 => ?_) (fun hc182 => ?_)
              · -- 67 taken
                exact False.elim (by unfold okO at hok; revert hok hc1 hc58 hq116 hq176 hq179 hc181 hc182; simp only [Int32.lt_iff_toInt_lt, Int32.le_iff_toInt_le, ← Int32.toInt_inj, Int32.reduceToInt, i32_m1]; omega)
              · -- 67 not taken
                refine lv_iload hx hb d_Mo_order_70 (lv_at hl 0 rfl) ?_
                refine lv_if_ne (tgt := 79) hx hb d_Mo_order_72 (by decide) (fun h0 => absurd (by decide) h0) (fun _ => ?_)
                exact False.elim (by unfold okO at hok; revert hok hc1 hc58 hq116 hq176 hq179 hc181 hc182; simp only [Int32.lt_iff_toInt_lt, Int32.le_iff_toInt_le, ← Int32.toInt_inj, Int32.reduceToInt, i32_m1]; omega)
          · -- 55: false
            refine lv_if_eq (tgt := 75) hx hb d_Mo_order_58 (by decide) (fun _ => ?_) (fun h0 => absurd (by decide) h0)
            exact False.elim (by unfold okO at hok; revert hok hc1 hc58 hq116 hq176 hq179; simp only [Int32.lt_iff_toInt_lt, Int32.le_iff_toInt_le, ← Int32.toInt_inj, Int32.reduceToInt, i32_m1]; omega)
        · -- 47: false
          refine lv_if_eq (tgt := 75) hx hb d_Mo_order_50 (by decide) (fun _ => ?_) (fun h0 => absurd (by decide) h0)
          exact False.elim (by unfold okO at hok; revert hok hc1 hc58 hq116 hq176; simp only [Int32.lt_iff_toInt_lt, Int32.le_iff_toInt_le, ← Int32.toInt_inj, Int32.reduceToInt, i32_m1]; omega)


set_option maxHeartbeats 4000000 in
set_option maxRecDepth 100000 in
theorem c_Mo_retreat_1 (l : Launch) (D : va_G) (cI cZ cJ cS : ClassId) (aT : Nat) (ceT : Cell) (sz : Nat) (g0 m_sea m_center m_home m_borders m_owner m_units m_kind m_toX m_toY m_results m_known m_reached m_way m_aside m_origin m_retreats m_contested m_moved m_past : Nat) (co ar mp mt msh : Int32) (pl a b : Int32) (hno9 : ¬ okT pl a b ar) : Met l y_Mo_retreat w_Mo_retreat ({ frames := 1, cells := 0, slots := 0, locals := 21 }) (tH D cI cZ cJ cS aT ceT [.ref g0, .int pl, .int a, .int b] sz [(g0, .inr (6, [.int co, .int ar, .ref m_sea, .ref m_center, .ref m_home, .ref m_borders, .int mp, .int mt, .ref m_owner, .ref m_units, .ref m_kind, .ref m_toX, .ref m_toY, .ref m_results, .ref m_known, .ref m_reached, .ref m_way, .ref m_aside, .ref m_origin, .ref m_retreats, .ref m_contested, .ref m_moved, .int msh, .ref m_past]))]) (va_Qi (fun (r : Int32) (_ : Unit) => r = 0) (fun _ t => tB D (va_A [(g0, .inr (6, [.int co, .int ar, .ref m_sea, .ref m_center, .ref m_home, .ref m_borders, .int mp, .int mt, .ref m_owner, .ref m_units, .ref m_kind, .ref m_toX, .ref m_toY, .ref m_results, .ref m_known, .ref m_reached, .ref m_way, .ref m_aside, .ref m_origin, .ref m_retreats, .ref m_contested, .ref m_moved, .int msh, .ref m_past]))] sz) [(g0, .inr (6, [.int 1, .int ar, .ref m_sea, .ref m_center, .ref m_home, .ref m_borders, .int mp, .int mt, .ref m_owner, .ref m_units, .ref m_kind, .ref m_toX, .ref m_toY, .ref m_results, .ref m_known, .ref m_reached, .ref m_way, .ref m_aside, .ref m_origin, .ref m_retreats, .ref m_contested, .ref m_moved, .int msh, .ref m_past]))] t) (va_A [(g0, .inr (6, [.int co, .int ar, .ref m_sea, .ref m_center, .ref m_home, .ref m_borders, .int mp, .int mt, .ref m_owner, .ref m_units, .ref m_kind, .ref m_toX, .ref m_toY, .ref m_results, .ref m_known, .ref m_reached, .ref m_way, .ref m_aside, .ref m_origin, .ref m_retreats, .ref m_contested, .ref m_moved, .int msh, .ref m_past]))] sz)) 0 0 (va_A [(g0, .inr (6, [.int co, .int ar, .ref m_sea, .ref m_center, .ref m_home, .ref m_borders, .int mp, .int mt, .ref m_owner, .ref m_units, .ref m_kind, .ref m_toX, .ref m_toY, .ref m_results, .ref m_known, .ref m_reached, .ref m_way, .ref m_aside, .ref m_origin, .ref m_retreats, .ref m_contested, .ref m_moved, .int msh, .ref m_past]))] sz) := by
  refine Met.ofW (cc := b_Mo_retreat) (maxL := 4) (ret := (some .int)) (by decide) rfl ?_
  intro p e s m args below meth c s₁ B hml hv
  obtain ⟨rfl, hsz, hP, hK, hD0, hX⟩ := hv
  have hx := B.exec
  have hb := B.bytes
  have hr := B.returns
  have hts0 := atoms_spec (ws := w_Mo_retreat) B.pre
  have hts : ∀ w ∈ TB, w.before _ s = true := fun w h => hts0 w (List.mem_cons_of_mem _ h)
  have hown : s.vm.findClass R_Mo = some m.cls := findClass_of_methodNamed B.named
  have hlocks := B.notSynchronized
  subst hsz
  have hXl := tx_lt hX
  have hXn := tx_far hP hX
  have hD := hD0.self (sz := s.heap.size)
  generalize hAe : va_A [(g0, .inr (6, [.int co, .int ar, .ref m_sea, .ref m_center, .ref m_home, .ref m_borders, .int mp, .int mt, .ref m_owner, .ref m_units, .ref m_kind, .ref m_toX, .ref m_toY, .ref m_results, .ref m_known, .ref m_reached, .ref m_way, .ref m_aside, .ref m_origin, .ref m_retreats, .ref m_contested, .ref m_moved, .int msh, .ref m_past]))] s.heap.size = A at hD hXn ⊢
  have hA : ∀ q : Nat, s.heap.size ≤ q → A q := fun q h => by rw [← hAe]; exact Or.inr h
  have hS : va_S A s.heap s.heap [] := va_S.rf
  have hXH : s.heap[aT]? = s.heap[aT]? := rfl
  have hl := lv_entry ([.ref g0, .int pl, .int a, .int b]) (n := 4) (Nat.le_of_ble_eq_true rfl)
  rw [lg_entry_eq]
  generalize (lg_sl ([.ref g0, .int pl, .int a, .int b]) ++ List.replicate (4 - (lg_sl ([.ref g0, .int pl, .int a, .int b])).length) Slot.unset).toArray = ls at hl ⊢
  have hl : lv_has ls 4 [(0, .ref g0), (1, .int pl), (2, .int a), (3, .int b)] := hl
  refine lv_aload_n hx hb d_Mo_retreat_0 rfl (lv_at hl 0 rfl) ?_
  refine lv_iload_n hx hb d_Mo_retreat_1 rfl (lv_at hl 1 rfl) ?_
  have hPc := hP.sub (ws' := []) [] rfl
  refine vp_callSi (va_Run.run (va_runS (As := [.int pl]) (rest := [.ref g0]) ⟨hx, hb, hml, hown, hts⟩ (c_Mo_isPlayer l D cI cZ cJ cS aT ceT  pl ) (va_cwS 1 hts (tb_3 wd_802 wd_803 wd_8 (tb_c wd_804)) rfl rfl rfl ⟨by decide, by decide, by decide +kernel⟩ ⟨Nat.le_of_ble_eq_true rfl, Nat.le_of_ble_eq_true rfl⟩) (tP_S hK hX (hS.2.1 aT hXl hXn) hPc) rfl rfl hl.1 rfl (lv_room (Nat.le_of_ble_eq_true rfl)) d_Mo_retreat_2 ⟨Nat.le_of_ble_eq_true rfl, Nat.le_of_ble_eq_true rfl⟩)) (fun r1 hr9 => ?_)
  rcases hr9 with ⟨rfl, hq2⟩ | ⟨rfl, hq2⟩
  · -- 2: true
    refine lv_if_eq (tgt := 24) hx hb d_Mo_retreat_5 (by decide) (fun h0 => absurd h0 (by decide)) (fun _ => ?_)
    refine lv_aload_n hx hb d_Mo_retreat_8 rfl (lv_at hl 0 rfl) ?_
    refine lv_iload_n hx hb d_Mo_retreat_9 rfl (lv_at hl 2 rfl) ?_
    have hPc := hP.sub (ws' := [(g0, .inr (6, [.int co, .int ar, .ref m_sea, .ref m_center, .ref m_home, .ref m_borders, .int mp, .int mt, .ref m_owner, .ref m_units, .ref m_kind, .ref m_toX, .ref m_toY, .ref m_results, .ref m_known, .ref m_reached, .ref m_way, .ref m_aside, .ref m_origin, .ref m_retreats, .ref m_contested, .ref m_moved, .int msh, .ref m_past]))]) [0] rfl
    refine vp_callSi (va_Run.run (va_runV (As := [.int a]) (rest := [.ref g0]) ⟨hx, hb, hml, hown, hts⟩ (c_Mo_isArea l D cI cZ cJ cS aT ceT  g0 m_sea m_center m_home m_borders m_owner m_units m_kind m_toX m_toY m_results m_known m_reached m_way m_aside m_origin m_retreats m_contested m_moved m_past co ar mp mt msh a ) (cwV 1 hts (tb_4 wd_790 wd_792 wp_36 wd_8 (tb_c wd_793)) rfl rfl rfl ⟨rfl, by decide, by decide, by decide +kernel⟩ ⟨Nat.le_of_ble_eq_true rfl, Nat.le_of_ble_eq_true rfl⟩) (tP_V hK hX (hS.2.1 aT hXl hXn) hPc (q := 0) rfl rfl) rfl rfl hl.1 rfl (lv_room (Nat.le_of_ble_eq_true rfl)) d_Mo_retreat_10 ⟨Nat.le_of_ble_eq_true rfl, Nat.le_of_ble_eq_true rfl⟩)) (fun r4 hr9 => ?_)
    rcases hr9 with ⟨rfl, hq5⟩ | ⟨rfl, hq5⟩
    · -- 10: true
      refine lv_if_eq (tgt := 24) hx hb d_Mo_retreat_13 (by decide) (fun h0 => absurd h0 (by decide)) (fun _ => ?_)
      refine lv_aload_n hx hb d_Mo_retreat_16 rfl (lv_at hl 0 rfl) ?_
      refine lv_iload_n hx hb d_Mo_retreat_17 rfl (lv_at hl 3 rfl) ?_
      have hPc := hP.sub (ws' := [(g0, .inr (6, [.int co, .int ar, .ref m_sea, .ref m_center, .ref m_home, .ref m_borders, .int mp, .int mt, .ref m_owner, .ref m_units, .ref m_kind, .ref m_toX, .ref m_toY, .ref m_results, .ref m_known, .ref m_reached, .ref m_way, .ref m_aside, .ref m_origin, .ref m_retreats, .ref m_contested, .ref m_moved, .int msh, .ref m_past]))]) [0] rfl
      refine vp_callSi (va_Run.run (va_runV (As := [.int b]) (rest := [.ref g0]) ⟨hx, hb, hml, hown, hts⟩ (c_Mo_isArea l D cI cZ cJ cS aT ceT  g0 m_sea m_center m_home m_borders m_owner m_units m_kind m_toX m_toY m_results m_known m_reached m_way m_aside m_origin m_retreats m_contested m_moved m_past co ar mp mt msh b ) (cwV 1 hts (tb_4 wd_790 wd_792 wp_36 wd_8 (tb_c wd_793)) rfl rfl rfl ⟨rfl, by decide, by decide, by decide +kernel⟩ ⟨Nat.le_of_ble_eq_true rfl, Nat.le_of_ble_eq_true rfl⟩) (tP_V hK hX (hS.2.1 aT hXl hXn) hPc (q := 0) rfl rfl) rfl rfl hl.1 rfl (lv_room (Nat.le_of_ble_eq_true rfl)) d_Mo_retreat_18 ⟨Nat.le_of_ble_eq_true rfl, Nat.le_of_ble_eq_true rfl⟩)) (fun r7 hr9 => ?_)
      rcases hr9 with ⟨rfl, hq8⟩ | ⟨rfl, hq8⟩
      · -- 18: true
        refine lv_if_ne (tgt := 28) hx hb d_Mo_retreat_21 (by decide) (fun _ => ?_) (fun h0 => absurd h0 (by decide))
        exact absurd (by unfold okT; revert hq2 hq5 hq8; simp only [Int32.lt_iff_toInt_lt, Int32.le_iff_toInt_le, ← Int32.toInt_inj, Int32.reduceToInt, i32_m1]; omega) hno9
      · -- 18: false
        refine lv_if_ne (tgt := 28) hx hb d_Mo_retreat_21 (by decide) (fun h0 => absurd (by decide) h0) (fun _ => ?_)
        refine lv_iconst (v := 1) hx hb d_Mo_retreat_24 (by decide) ?_
        refine lv_goto (tgt := 41) hx hb d_Mo_retreat_25 (by decide) ?_
        refine va_put (D := D) (ci := 6) (v := .int 1) (ty := .int) (C := R_Mo) (T := T_Mo) (N := 24) hx hb hts hin_Mo ty_Mo tyok_Mo nm_Mo hown hK hP hD hS 0 rfl rfl 0 (by decide) (hts _ wd_704) (fun _ h9 => h9) rfl (by decide +kernel) rfl rfl (Nat.le_of_ble_eq_true rfl) d_Mo_retreat_41 (fun H locs hP hD hS => ?_)
        have hP : va_P D vwCl [(g0, .inr (6, [.int 1, .int ar, .ref m_sea, .ref m_center, .ref m_home, .ref m_borders, .int mp, .int mt, .ref m_owner, .ref m_units, .ref m_kind, .ref m_toX, .ref m_toY, .ref m_results, .ref m_known, .ref m_reached, .ref m_way, .ref m_aside, .ref m_origin, .ref m_retreats, .ref m_contested, .ref m_moved, .int msh, .ref m_past]))] H := hP
        have hD : va_D A [(g0, .inr (6, [.int 1, .int ar, .ref m_sea, .ref m_center, .ref m_home, .ref m_borders, .int mp, .int mt, .ref m_owner, .ref m_units, .ref m_kind, .ref m_toX, .ref m_toY, .ref m_results, .ref m_known, .ref m_reached, .ref m_way, .ref m_aside, .ref m_origin, .ref m_retreats, .ref m_contested, .ref m_moved, .int msh, .ref m_past]))] := hD
        refine lv_aload_n hx hb d_Mo_retreat_44 rfl (lv_at hl 0 rfl) ?_
        refine va_get (D := D) (ci := 6) (v := .int 1) (C := R_Mo) (T := T_Mo) (N := 24) hx hb hts hin_Mo hown hK hP 0 rfl rfl 0 (by decide) (hts _ wd_704) (fun _ h9 => h9) rfl d_Mo_retreat_45 ?_
        refine lv_if_eq (tgt := 53) hx hb d_Mo_retreat_48 (by decide) (fun h0 => absurd h0 (by decide)) (fun _ => ?_)
        refine lv_iconst (v := 0) hx hb d_Mo_retreat_51 (by decide) ?_
        have hP9 := hP.sub (ws' := [(g0, .inr (6, [.int 1, .int ar, .ref m_sea, .ref m_center, .ref m_home, .ref m_borders, .int mp, .int mt, .ref m_owner, .ref m_units, .ref m_kind, .ref m_toX, .ref m_toY, .ref m_results, .ref m_known, .ref m_reached, .ref m_way, .ref m_aside, .ref m_origin, .ref m_retreats, .ref m_contested, .ref m_moved, .int msh, .ref m_past]))]) [0] rfl
        have hD9 := hD.sub (ws' := [(g0, .inr (6, [.int 1, .int ar, .ref m_sea, .ref m_center, .ref m_home, .ref m_borders, .int mp, .int mt, .ref m_owner, .ref m_units, .ref m_kind, .ref m_toX, .ref m_toY, .ref m_results, .ref m_known, .ref m_reached, .ref m_way, .ref m_aside, .ref m_origin, .ref m_retreats, .ref m_contested, .ref m_moved, .int msh, .ref m_past]))]) [0] (by decide) rfl
        exact W.iret (v := 0) hx hb hr (fun t ht hW => ⟨⟨0, (), rfl, rfl, by rw [ht]; exact hP9, hD9⟩, hS.F ht⟩) hS.2.2 d_Mo_retreat_52
    · -- 10: false
      refine lv_if_eq (tgt := 24) hx hb d_Mo_retreat_13 (by decide) (fun _ => ?_) (fun h0 => absurd (by decide) h0)
      refine lv_iconst (v := 1) hx hb d_Mo_retreat_24 (by decide) ?_
      refine lv_goto (tgt := 41) hx hb d_Mo_retreat_25 (by decide) ?_
      refine va_put (D := D) (ci := 6) (v := .int 1) (ty := .int) (C := R_Mo) (T := T_Mo) (N := 24) hx hb hts hin_Mo ty_Mo tyok_Mo nm_Mo hown hK hP hD hS 0 rfl rfl 0 (by decide) (hts _ wd_704) (fun _ h9 => h9) rfl (by decide +kernel) rfl rfl (Nat.le_of_ble_eq_true rfl) d_Mo_retreat_41 (fun H locs hP hD hS => ?_)
      have hP : va_P D vwCl [(g0, .inr (6, [.int 1, .int ar, .ref m_sea, .ref m_center, .ref m_home, .ref m_borders, .int mp, .int mt, .ref m_owner, .ref m_units, .ref m_kind, .ref m_toX, .ref m_toY, .ref m_results, .ref m_known, .ref m_reached, .ref m_way, .ref m_aside, .ref m_origin, .ref m_retreats, .ref m_contested, .ref m_moved, .int msh, .ref m_past]))] H := hP
      have hD : va_D A [(g0, .inr (6, [.int 1, .int ar, .ref m_sea, .ref m_center, .ref m_home, .ref m_borders, .int mp, .int mt, .ref m_owner, .ref m_units, .ref m_kind, .ref m_toX, .ref m_toY, .ref m_results, .ref m_known, .ref m_reached, .ref m_way, .ref m_aside, .ref m_origin, .ref m_retreats, .ref m_contested, .ref m_moved, .int msh, .ref m_past]))] := hD
      refine lv_aload_n hx hb d_Mo_retreat_44 rfl (lv_at hl 0 rfl) ?_
      refine va_get (D := D) (ci := 6) (v := .int 1) (C := R_Mo) (T := T_Mo) (N := 24) hx hb hts hin_Mo hown hK hP 0 rfl rfl 0 (by decide) (hts _ wd_704) (fun _ h9 => h9) rfl d_Mo_retreat_45 ?_
      refine lv_if_eq (tgt := 53) hx hb d_Mo_retreat_48 (by decide) (fun h0 => absurd h0 (by decide)) (fun _ => ?_)
      refine lv_iconst (v := 0) hx hb d_Mo_retreat_51 (by decide) ?_
      have hP9 := hP.sub (ws' := [(g0, .inr (6, [.int 1, .int ar, .ref m_sea, .ref m_center, .ref m_home, .ref m_borders, .int mp, .int mt, .ref m_owner, .ref m_units, .ref m_kind, .ref m_toX, .ref m_toY, .ref m_results, .ref m_known, .ref m_reached, .ref m_way, .ref m_aside, .ref m_origin, .ref m_retreats, .ref m_contested, .ref m_moved, .int msh, .ref m_past]))]) [0] rfl
      have hD9 := hD.sub (ws' := [(g0, .inr (6, [.int 1, .int ar, .ref m_sea, .ref m_center, .ref m_home, .ref m_borders, .int mp, .int mt, .ref m_owner, .ref m_units, .ref m_kind, .ref m_toX, .ref m_toY, .ref m_results, .ref m_known, .ref m_reached, .ref m_way, .ref m_aside, .ref m_origin, .ref m_retreats, .ref m_contested, .ref m_moved, .int msh, .ref m_past]))]) [0] (by decide) rfl
      exact W.iret (v := 0) hx hb hr (fun t ht hW => ⟨⟨0, (), rfl, rfl, by rw [ht]; exact hP9, hD9⟩, hS.F ht⟩) hS.2.2 d_Mo_retreat_52
  · -- 2: false
    refine lv_if_eq (tgt := 24) hx hb d_Mo_retreat_5 (by decide) (fun _ => ?_) (fun h0 => absurd (by decide) h0)
    refine lv_iconst (v := 1) hx hb d_Mo_retreat_24 (by decide) ?_
    refine lv_goto (tgt := 41) hx hb d_Mo_retreat_25 (by decide) ?_
    refine va_put (D := D) (ci := 6) (v := .int 1) (ty := .int) (C := R_Mo) (T := T_Mo) (N := 24) hx hb hts hin_Mo ty_Mo tyok_Mo nm_Mo hown hK hP hD hS 0 rfl rfl 0 (by decide) (hts _ wd_704) (fun _ h9 => h9) rfl (by decide +kernel) rfl rfl (Nat.le_of_ble_eq_true rfl) d_Mo_retreat_41 (fun H locs hP hD hS => ?_)
    have hP : va_P D vwCl [(g0, .inr (6, [.int 1, .int ar, .ref m_sea, .ref m_center, .ref m_home, .ref m_borders, .int mp, .int mt, .ref m_owner, .ref m_units, .ref m_kind, .ref m_toX, .ref m_toY, .ref m_results, .ref m_known, .ref m_reached, .ref m_way, .ref m_aside, .ref m_origin, .ref m_retreats, .ref m_contested, .ref m_moved, .int msh, .ref m_past]))] H := hP
    have hD : va_D A [(g0, .inr (6, [.int 1, .int ar, .ref m_sea, .ref m_center, .ref m_home, .ref m_borders, .int mp, .int mt, .ref m_owner, .ref m_units, .ref m_kind, .ref m_toX, .ref m_toY, .ref m_results, .ref m_known, .ref m_reached, .ref m_way, .ref m_aside, .ref m_origin, .ref m_retreats, .ref m_contested, .ref m_moved, .int msh, .ref m_past]))] := hD
    refine lv_aload_n hx hb d_Mo_retreat_44 rfl (lv_at hl 0 rfl) ?_
    refine va_get (D := D) (ci := 6) (v := .int 1) (C := R_Mo) (T := T_Mo) (N := 24) hx hb hts hin_Mo hown hK hP 0 rfl rfl 0 (by decide) (hts _ wd_704) (fun _ h9 => h9) rfl d_Mo_retreat_45 ?_
    refine lv_if_eq (tgt := 53) hx hb d_Mo_retreat_48 (by decide) (fun h0 => absurd h0 (by decide)) (fun _ => ?_)
    refine lv_iconst (v := 0) hx hb d_Mo_retreat_51 (by decide) ?_
    have hP9 := hP.sub (ws' := [(g0, .inr (6, [.int 1, .int ar, .ref m_sea, .ref m_center, .ref m_home, .ref m_borders, .int mp, .int mt, .ref m_owner, .ref m_units, .ref m_kind, .ref m_toX, .ref m_toY, .ref m_results, .ref m_known, .ref m_reached, .ref m_way, .ref m_aside, .ref m_origin, .ref m_retreats, .ref m_contested, .ref m_moved, .int msh, .ref m_past]))]) [0] rfl
    have hD9 := hD.sub (ws' := [(g0, .inr (6, [.int 1, .int ar, .ref m_sea, .ref m_center, .ref m_home, .ref m_borders, .int mp, .int mt, .ref m_owner, .ref m_units, .ref m_kind, .ref m_toX, .ref m_toY, .ref m_results, .ref m_known, .ref m_reached, .ref m_way, .ref m_aside, .ref m_origin, .ref m_retreats, .ref m_contested, .ref m_moved, .int msh, .ref m_past]))]) [0] (by decide) rfl
    exact W.iret (v := 0) hx hb hr (fun t ht hW => ⟨⟨0, (), rfl, rfl, by rw [ht]; exact hP9, hD9⟩, hS.F ht⟩) hS.2.2 d_Mo_retreat_52


set_option maxHeartbeats 4000000 in
set_option maxRecDepth 100000 in
theorem c_Mo_retreat_2 (l : Launch) (D : va_G) (cI cZ cJ cS : ClassId) (aT : Nat) (ceT : Cell) (sz : Nat) (g0 m_sea m_center m_home m_borders m_owner m_units m_kind m_toX m_toY m_results m_known m_reached m_way m_aside m_origin m_retreats m_contested m_moved m_past : Nat) (co ar mp mt msh : Int32) (pl a b : Int32) (hok : okT pl a b ar) (hph : ¬ mp = 2) : Met l y_Mo_retreat w_Mo_retreat ({ frames := 1, cells := 0, slots := 0, locals := 21 }) (tH D cI cZ cJ cS aT ceT [.ref g0, .int pl, .int a, .int b] sz [(g0, .inr (6, [.int co, .int ar, .ref m_sea, .ref m_center, .ref m_home, .ref m_borders, .int mp, .int mt, .ref m_owner, .ref m_units, .ref m_kind, .ref m_toX, .ref m_toY, .ref m_results, .ref m_known, .ref m_reached, .ref m_way, .ref m_aside, .ref m_origin, .ref m_retreats, .ref m_contested, .ref m_moved, .int msh, .ref m_past]))]) (va_Qi (fun (r : Int32) (_ : Unit) => r = 0) (fun _ t => tB D (va_A [(g0, .inr (6, [.int co, .int ar, .ref m_sea, .ref m_center, .ref m_home, .ref m_borders, .int mp, .int mt, .ref m_owner, .ref m_units, .ref m_kind, .ref m_toX, .ref m_toY, .ref m_results, .ref m_known, .ref m_reached, .ref m_way, .ref m_aside, .ref m_origin, .ref m_retreats, .ref m_contested, .ref m_moved, .int msh, .ref m_past]))] sz) [(g0, .inr (6, [.int 2, .int ar, .ref m_sea, .ref m_center, .ref m_home, .ref m_borders, .int mp, .int mt, .ref m_owner, .ref m_units, .ref m_kind, .ref m_toX, .ref m_toY, .ref m_results, .ref m_known, .ref m_reached, .ref m_way, .ref m_aside, .ref m_origin, .ref m_retreats, .ref m_contested, .ref m_moved, .int msh, .ref m_past]))] t) (va_A [(g0, .inr (6, [.int co, .int ar, .ref m_sea, .ref m_center, .ref m_home, .ref m_borders, .int mp, .int mt, .ref m_owner, .ref m_units, .ref m_kind, .ref m_toX, .ref m_toY, .ref m_results, .ref m_known, .ref m_reached, .ref m_way, .ref m_aside, .ref m_origin, .ref m_retreats, .ref m_contested, .ref m_moved, .int msh, .ref m_past]))] sz)) 0 0 (va_A [(g0, .inr (6, [.int co, .int ar, .ref m_sea, .ref m_center, .ref m_home, .ref m_borders, .int mp, .int mt, .ref m_owner, .ref m_units, .ref m_kind, .ref m_toX, .ref m_toY, .ref m_results, .ref m_known, .ref m_reached, .ref m_way, .ref m_aside, .ref m_origin, .ref m_retreats, .ref m_contested, .ref m_moved, .int msh, .ref m_past]))] sz) := by
  refine Met.ofW (cc := b_Mo_retreat) (maxL := 4) (ret := (some .int)) (by decide) rfl ?_
  intro p e s m args below meth c s₁ B hml hv
  obtain ⟨rfl, hsz, hP, hK, hD0, hX⟩ := hv
  have hx := B.exec
  have hb := B.bytes
  have hr := B.returns
  have hts0 := atoms_spec (ws := w_Mo_retreat) B.pre
  have hts : ∀ w ∈ TB, w.before _ s = true := fun w h => hts0 w (List.mem_cons_of_mem _ h)
  have hown : s.vm.findClass R_Mo = some m.cls := findClass_of_methodNamed B.named
  have hlocks := B.notSynchronized
  subst hsz
  have hXl := tx_lt hX
  have hXn := tx_far hP hX
  have hD := hD0.self (sz := s.heap.size)
  generalize hAe : va_A [(g0, .inr (6, [.int co, .int ar, .ref m_sea, .ref m_center, .ref m_home, .ref m_borders, .int mp, .int mt, .ref m_owner, .ref m_units, .ref m_kind, .ref m_toX, .ref m_toY, .ref m_results, .ref m_known, .ref m_reached, .ref m_way, .ref m_aside, .ref m_origin, .ref m_retreats, .ref m_contested, .ref m_moved, .int msh, .ref m_past]))] s.heap.size = A at hD hXn ⊢
  have hA : ∀ q : Nat, s.heap.size ≤ q → A q := fun q h => by rw [← hAe]; exact Or.inr h
  have hS : va_S A s.heap s.heap [] := va_S.rf
  have hXH : s.heap[aT]? = s.heap[aT]? := rfl
  have hl := lv_entry ([.ref g0, .int pl, .int a, .int b]) (n := 4) (Nat.le_of_ble_eq_true rfl)
  rw [lg_entry_eq]
  generalize (lg_sl ([.ref g0, .int pl, .int a, .int b]) ++ List.replicate (4 - (lg_sl ([.ref g0, .int pl, .int a, .int b])).length) Slot.unset).toArray = ls at hl ⊢
  have hl : lv_has ls 4 [(0, .ref g0), (1, .int pl), (2, .int a), (3, .int b)] := hl
  refine lv_aload_n hx hb d_Mo_retreat_0 rfl (lv_at hl 0 rfl) ?_
  refine lv_iload_n hx hb d_Mo_retreat_1 rfl (lv_at hl 1 rfl) ?_
  have hPc := hP.sub (ws' := []) [] rfl
  refine vp_callSi (va_Run.run (va_runS (As := [.int pl]) (rest := [.ref g0]) ⟨hx, hb, hml, hown, hts⟩ (c_Mo_isPlayer l D cI cZ cJ cS aT ceT  pl ) (va_cwS 1 hts (tb_3 wd_802 wd_803 wd_8 (tb_c wd_804)) rfl rfl rfl ⟨by decide, by decide, by decide +kernel⟩ ⟨Nat.le_of_ble_eq_true rfl, Nat.le_of_ble_eq_true rfl⟩) (tP_S hK hX (hS.2.1 aT hXl hXn) hPc) rfl rfl hl.1 rfl (lv_room (Nat.le_of_ble_eq_true rfl)) d_Mo_retreat_2 ⟨Nat.le_of_ble_eq_true rfl, Nat.le_of_ble_eq_true rfl⟩)) (fun r1 hr9 => ?_)
  rcases hr9 with ⟨rfl, hq2⟩ | ⟨rfl, hq2⟩
  · -- 2: true
    refine lv_if_eq (tgt := 24) hx hb d_Mo_retreat_5 (by decide) (fun h0 => absurd h0 (by decide)) (fun _ => ?_)
    refine lv_aload_n hx hb d_Mo_retreat_8 rfl (lv_at hl 0 rfl) ?_
    refine lv_iload_n hx hb d_Mo_retreat_9 rfl (lv_at hl 2 rfl) ?_
    have hPc := hP.sub (ws' := [(g0, .inr (6, [.int co, .int ar, .ref m_sea, .ref m_center, .ref m_home, .ref m_borders, .int mp, .int mt, .ref m_owner, .ref m_units, .ref m_kind, .ref m_toX, .ref m_toY, .ref m_results, .ref m_known, .ref m_reached, .ref m_way, .ref m_aside, .ref m_origin, .ref m_retreats, .ref m_contested, .ref m_moved, .int msh, .ref m_past]))]) [0] rfl
    refine vp_callSi (va_Run.run (va_runV (As := [.int a]) (rest := [.ref g0]) ⟨hx, hb, hml, hown, hts⟩ (c_Mo_isArea l D cI cZ cJ cS aT ceT  g0 m_sea m_center m_home m_borders m_owner m_units m_kind m_toX m_toY m_results m_known m_reached m_way m_aside m_origin m_retreats m_contested m_moved m_past co ar mp mt msh a ) (cwV 1 hts (tb_4 wd_790 wd_792 wp_36 wd_8 (tb_c wd_793)) rfl rfl rfl ⟨rfl, by decide, by decide, by decide +kernel⟩ ⟨Nat.le_of_ble_eq_true rfl, Nat.le_of_ble_eq_true rfl⟩) (tP_V hK hX (hS.2.1 aT hXl hXn) hPc (q := 0) rfl rfl) rfl rfl hl.1 rfl (lv_room (Nat.le_of_ble_eq_true rfl)) d_Mo_retreat_10 ⟨Nat.le_of_ble_eq_true rfl, Nat.le_of_ble_eq_true rfl⟩)) (fun r4 hr9 => ?_)
    rcases hr9 with ⟨rfl, hq5⟩ | ⟨rfl, hq5⟩
    · -- 10: true
      refine lv_if_eq (tgt := 24) hx hb d_Mo_retreat_13 (by decide) (fun h0 => absurd h0 (by decide)) (fun _ => ?_)
      refine lv_aload_n hx hb d_Mo_retreat_16 rfl (lv_at hl 0 rfl) ?_
      refine lv_iload_n hx hb d_Mo_retreat_17 rfl (lv_at hl 3 rfl) ?_
      have hPc := hP.sub (ws' := [(g0, .inr (6, [.int co, .int ar, .ref m_sea, .ref m_center, .ref m_home, .ref m_borders, .int mp, .int mt, .ref m_owner, .ref m_units, .ref m_kind, .ref m_toX, .ref m_toY, .ref m_results, .ref m_known, .ref m_reached, .ref m_way, .ref m_aside, .ref m_origin, .ref m_retreats, .ref m_contested, .ref m_moved, .int msh, .ref m_past]))]) [0] rfl
      refine vp_callSi (va_Run.run (va_runV (As := [.int b]) (rest := [.ref g0]) ⟨hx, hb, hml, hown, hts⟩ (c_Mo_isArea l D cI cZ cJ cS aT ceT  g0 m_sea m_center m_home m_borders m_owner m_units m_kind m_toX m_toY m_results m_known m_reached m_way m_aside m_origin m_retreats m_contested m_moved m_past co ar mp mt msh b ) (cwV 1 hts (tb_4 wd_790 wd_792 wp_36 wd_8 (tb_c wd_793)) rfl rfl rfl ⟨rfl, by decide, by decide, by decide +kernel⟩ ⟨Nat.le_of_ble_eq_true rfl, Nat.le_of_ble_eq_true rfl⟩) (tP_V hK hX (hS.2.1 aT hXl hXn) hPc (q := 0) rfl rfl) rfl rfl hl.1 rfl (lv_room (Nat.le_of_ble_eq_true rfl)) d_Mo_retreat_18 ⟨Nat.le_of_ble_eq_true rfl, Nat.le_of_ble_eq_true rfl⟩)) (fun r7 hr9 => ?_)
      rcases hr9 with ⟨rfl, hq8⟩ | ⟨rfl, hq8⟩
      · -- 18: true
        refine lv_if_ne (tgt := 28) hx hb d_Mo_retreat_21 (by decide) (fun _ => ?_) (fun h0 => absurd h0 (by decide))
        refine lv_aload_n hx hb d_Mo_retreat_28 rfl (lv_at hl 0 rfl) ?_
        refine va_get (D := D) (ci := 6) (v := .int mp) (C := R_Mo) (T := T_Mo) (N := 24) hx hb hts hin_Mo hown hK hP 0 rfl rfl 6 (by decide) (hts _ wd_710) (fun _ h9 => h9) rfl d_Mo_retreat_29 ?_
        refine lv_iconst (v := 2) hx hb d_Mo_retreat_32 (by decide) ?_
        refine lv_icmp_eq (tgt := 40) hx hb d_Mo_retreat_33 (by decide) (fun hc10 => ?_) (fun hc10 => ?_)
        · -- 33 taken
          exact absurd hc10 hph
        · -- 33 not taken
          refine lv_iconst (v := 2) hx hb d_Mo_retreat_36 (by decide) ?_
          refine lv_goto (tgt := 41) hx hb d_Mo_retreat_37 (by decide) ?_
          refine va_put (D := D) (ci := 6) (v := .int 2) (ty := .int) (C := R_Mo) (T := T_Mo) (N := 24) hx hb hts hin_Mo ty_Mo tyok_Mo nm_Mo hown hK hP hD hS 0 rfl rfl 0 (by decide) (hts _ wd_704) (fun _ h9 => h9) rfl (by decide +kernel) rfl rfl (Nat.le_of_ble_eq_true rfl) d_Mo_retreat_41 (fun H locs hP hD hS => ?_)
          have hP : va_P D vwCl [(g0, .inr (6, [.int 2, .int ar, .ref m_sea, .ref m_center, .ref m_home, .ref m_borders, .int mp, .int mt, .ref m_owner, .ref m_units, .ref m_kind, .ref m_toX, .ref m_toY, .ref m_results, .ref m_known, .ref m_reached, .ref m_way, .ref m_aside, .ref m_origin, .ref m_retreats, .ref m_contested, .ref m_moved, .int msh, .ref m_past]))] H := hP
          have hD : va_D A [(g0, .inr (6, [.int 2, .int ar, .ref m_sea, .ref m_center, .ref m_home, .ref m_borders, .int mp, .int mt, .ref m_owner, .ref m_units, .ref m_kind, .ref m_toX, .ref m_toY, .ref m_results, .ref m_known, .ref m_reached, .ref m_way, .ref m_aside, .ref m_origin, .ref m_retreats, .ref m_contested, .ref m_moved, .int msh, .ref m_past]))] := hD
          refine lv_aload_n hx hb d_Mo_retreat_44 rfl (lv_at hl 0 rfl) ?_
          refine va_get (D := D) (ci := 6) (v := .int 2) (C := R_Mo) (T := T_Mo) (N := 24) hx hb hts hin_Mo hown hK hP 0 rfl rfl 0 (by decide) (hts _ wd_704) (fun _ h9 => h9) rfl d_Mo_retreat_45 ?_
          refine lv_if_eq (tgt := 53) hx hb d_Mo_retreat_48 (by decide) (fun h0 => absurd h0 (by decide)) (fun _ => ?_)
          refine lv_iconst (v := 0) hx hb d_Mo_retreat_51 (by decide) ?_
          have hP9 := hP.sub (ws' := [(g0, .inr (6, [.int 2, .int ar, .ref m_sea, .ref m_center, .ref m_home, .ref m_borders, .int mp, .int mt, .ref m_owner, .ref m_units, .ref m_kind, .ref m_toX, .ref m_toY, .ref m_results, .ref m_known, .ref m_reached, .ref m_way, .ref m_aside, .ref m_origin, .ref m_retreats, .ref m_contested, .ref m_moved, .int msh, .ref m_past]))]) [0] rfl
          have hD9 := hD.sub (ws' := [(g0, .inr (6, [.int 2, .int ar, .ref m_sea, .ref m_center, .ref m_home, .ref m_borders, .int mp, .int mt, .ref m_owner, .ref m_units, .ref m_kind, .ref m_toX, .ref m_toY, .ref m_results, .ref m_known, .ref m_reached, .ref m_way, .ref m_aside, .ref m_origin, .ref m_retreats, .ref m_contested, .ref m_moved, .int msh, .ref m_past]))]) [0] (by decide) rfl
          exact W.iret (v := 0) hx hb hr (fun t ht hW => ⟨⟨0, (), rfl, rfl, by rw [ht]; exact hP9, hD9⟩, hS.F ht⟩) hS.2.2 d_Mo_retreat_52
      · -- 18: false
        refine lv_if_ne (tgt := 28) hx hb d_Mo_retreat_21 (by decide) (fun h0 => absurd (by decide) h0) (fun _ => ?_)
        exact False.elim (by unfold okT at hok; revert hok hq2 hq5 hq8; simp only [Int32.lt_iff_toInt_lt, Int32.le_iff_toInt_le, ← Int32.toInt_inj, Int32.reduceToInt, i32_m1]; omega)
    · -- 10: false
      refine lv_if_eq (tgt := 24) hx hb d_Mo_retreat_13 (by decide) (fun _ => ?_) (fun h0 => absurd (by decide) h0)
      exact False.elim (by unfold okT at hok; revert hok hq2 hq5; simp only [Int32.lt_iff_toInt_lt, Int32.le_iff_toInt_le, ← Int32.toInt_inj, Int32.reduceToInt, i32_m1]; omega)
  · -- 2: false
    refine lv_if_eq (tgt := 24) hx hb d_Mo_retreat_5 (by decide) (fun _ => ?_) (fun h0 => absurd (by decide) h0)
    exact False.elim (by unfold okT at hok; revert hok hq2; simp only [Int32.lt_iff_toInt_lt, Int32.le_iff_toInt_le, ← Int32.toInt_inj, Int32.reduceToInt, i32_m1]; omega)


set_option maxHeartbeats 4000000 in
set_option maxRecDepth 100000 in
theorem c_Mo_build_1 (l : Launch) (D : va_G) (cI cZ cJ cS : ClassId) (aT : Nat) (ceT : Cell) (sz : Nat) (g0 m_sea m_center m_home m_borders m_owner m_units m_kind m_toX m_toY m_results m_known m_reached m_way m_aside m_origin m_retreats m_contested m_moved m_past : Nat) (co ar mp mt msh : Int32) (pl a k : Int32) (hno9 : ¬ okB pl a k ar) : Met l y_Mo_build w_Mo_build ({ frames := 1, cells := 0, slots := 0, locals := 21 }) (tH D cI cZ cJ cS aT ceT [.ref g0, .int pl, .int a, .int k] sz [(g0, .inr (6, [.int co, .int ar, .ref m_sea, .ref m_center, .ref m_home, .ref m_borders, .int mp, .int mt, .ref m_owner, .ref m_units, .ref m_kind, .ref m_toX, .ref m_toY, .ref m_results, .ref m_known, .ref m_reached, .ref m_way, .ref m_aside, .ref m_origin, .ref m_retreats, .ref m_contested, .ref m_moved, .int msh, .ref m_past]))]) (va_Qi (fun (r : Int32) (_ : Unit) => r = 0) (fun _ t => tB D (va_A [(g0, .inr (6, [.int co, .int ar, .ref m_sea, .ref m_center, .ref m_home, .ref m_borders, .int mp, .int mt, .ref m_owner, .ref m_units, .ref m_kind, .ref m_toX, .ref m_toY, .ref m_results, .ref m_known, .ref m_reached, .ref m_way, .ref m_aside, .ref m_origin, .ref m_retreats, .ref m_contested, .ref m_moved, .int msh, .ref m_past]))] sz) [(g0, .inr (6, [.int 1, .int ar, .ref m_sea, .ref m_center, .ref m_home, .ref m_borders, .int mp, .int mt, .ref m_owner, .ref m_units, .ref m_kind, .ref m_toX, .ref m_toY, .ref m_results, .ref m_known, .ref m_reached, .ref m_way, .ref m_aside, .ref m_origin, .ref m_retreats, .ref m_contested, .ref m_moved, .int msh, .ref m_past]))] t) (va_A [(g0, .inr (6, [.int co, .int ar, .ref m_sea, .ref m_center, .ref m_home, .ref m_borders, .int mp, .int mt, .ref m_owner, .ref m_units, .ref m_kind, .ref m_toX, .ref m_toY, .ref m_results, .ref m_known, .ref m_reached, .ref m_way, .ref m_aside, .ref m_origin, .ref m_retreats, .ref m_contested, .ref m_moved, .int msh, .ref m_past]))] sz)) 0 0 (va_A [(g0, .inr (6, [.int co, .int ar, .ref m_sea, .ref m_center, .ref m_home, .ref m_borders, .int mp, .int mt, .ref m_owner, .ref m_units, .ref m_kind, .ref m_toX, .ref m_toY, .ref m_results, .ref m_known, .ref m_reached, .ref m_way, .ref m_aside, .ref m_origin, .ref m_retreats, .ref m_contested, .ref m_moved, .int msh, .ref m_past]))] sz) := by
  refine Met.ofW (cc := b_Mo_build) (maxL := 5) (ret := (some .int)) (by decide) rfl ?_
  intro p e s m args below meth c s₁ B hml hv
  obtain ⟨rfl, hsz, hP, hK, hD0, hX⟩ := hv
  have hx := B.exec
  have hb := B.bytes
  have hr := B.returns
  have hts0 := atoms_spec (ws := w_Mo_build) B.pre
  have hts : ∀ w ∈ TB, w.before _ s = true := fun w h => hts0 w (List.mem_cons_of_mem _ h)
  have hown : s.vm.findClass R_Mo = some m.cls := findClass_of_methodNamed B.named
  have hlocks := B.notSynchronized
  subst hsz
  have hXl := tx_lt hX
  have hXn := tx_far hP hX
  have hD := hD0.self (sz := s.heap.size)
  generalize hAe : va_A [(g0, .inr (6, [.int co, .int ar, .ref m_sea, .ref m_center, .ref m_home, .ref m_borders, .int mp, .int mt, .ref m_owner, .ref m_units, .ref m_kind, .ref m_toX, .ref m_toY, .ref m_results, .ref m_known, .ref m_reached, .ref m_way, .ref m_aside, .ref m_origin, .ref m_retreats, .ref m_contested, .ref m_moved, .int msh, .ref m_past]))] s.heap.size = A at hD hXn ⊢
  have hA : ∀ q : Nat, s.heap.size ≤ q → A q := fun q h => by rw [← hAe]; exact Or.inr h
  have hS : va_S A s.heap s.heap [] := va_S.rf
  have hXH : s.heap[aT]? = s.heap[aT]? := rfl
  have hl := lv_entry ([.ref g0, .int pl, .int a, .int k]) (n := 5) (Nat.le_of_ble_eq_true rfl)
  rw [lg_entry_eq]
  generalize (lg_sl ([.ref g0, .int pl, .int a, .int k]) ++ List.replicate (5 - (lg_sl ([.ref g0, .int pl, .int a, .int k])).length) Slot.unset).toArray = ls at hl ⊢
  have hl : lv_has ls 5 [(0, .ref g0), (1, .int pl), (2, .int a), (3, .int k)] := hl
  refine lv_aload_n hx hb d_Mo_build_0 rfl (lv_at hl 0 rfl) ?_
  refine lv_iload_n hx hb d_Mo_build_1 rfl (lv_at hl 1 rfl) ?_
  have hPc := hP.sub (ws' := []) [] rfl
  refine vp_callSi (va_Run.run (va_runS (As := [.int pl]) (rest := [.ref g0]) ⟨hx, hb, hml, hown, hts⟩ (c_Mo_isPlayer l D cI cZ cJ cS aT ceT  pl ) (va_cwS 1 hts (tb_3 wd_802 wd_803 wd_8 (tb_c wd_804)) rfl rfl rfl ⟨by decide, by decide, by decide +kernel⟩ ⟨Nat.le_of_ble_eq_true rfl, Nat.le_of_ble_eq_true rfl⟩) (tP_S hK hX (hS.2.1 aT hXl hXn) hPc) rfl rfl hl.1 rfl (lv_room (Nat.le_of_ble_eq_true rfl)) d_Mo_build_2 ⟨Nat.le_of_ble_eq_true rfl, Nat.le_of_ble_eq_true rfl⟩)) (fun r1 hr9 => ?_)
  rcases hr9 with ⟨rfl, hq2⟩ | ⟨rfl, hq2⟩
  · -- 2: true
    refine lv_if_eq (tgt := 25) hx hb d_Mo_build_5 (by decide) (fun h0 => absurd h0 (by decide)) (fun _ => ?_)
    refine lv_aload_n hx hb d_Mo_build_8 rfl (lv_at hl 0 rfl) ?_
    refine lv_iload_n hx hb d_Mo_build_9 rfl (lv_at hl 2 rfl) ?_
    have hPc := hP.sub (ws' := [(g0, .inr (6, [.int co, .int ar, .ref m_sea, .ref m_center, .ref m_home, .ref m_borders, .int mp, .int mt, .ref m_owner, .ref m_units, .ref m_kind, .ref m_toX, .ref m_toY, .ref m_results, .ref m_known, .ref m_reached, .ref m_way, .ref m_aside, .ref m_origin, .ref m_retreats, .ref m_contested, .ref m_moved, .int msh, .ref m_past]))]) [0] rfl
    refine vp_callSi (va_Run.run (va_runV (As := [.int a]) (rest := [.ref g0]) ⟨hx, hb, hml, hown, hts⟩ (c_Mo_isArea l D cI cZ cJ cS aT ceT  g0 m_sea m_center m_home m_borders m_owner m_units m_kind m_toX m_toY m_results m_known m_reached m_way m_aside m_origin m_retreats m_contested m_moved m_past co ar mp mt msh a ) (cwV 1 hts (tb_4 wd_790 wd_792 wp_36 wd_8 (tb_c wd_793)) rfl rfl rfl ⟨rfl, by decide, by decide, by decide +kernel⟩ ⟨Nat.le_of_ble_eq_true rfl, Nat.le_of_ble_eq_true rfl⟩) (tP_V hK hX (hS.2.1 aT hXl hXn) hPc (q := 0) rfl rfl) rfl rfl hl.1 rfl (lv_room (Nat.le_of_ble_eq_true rfl)) d_Mo_build_10 ⟨Nat.le_of_ble_eq_true rfl, Nat.le_of_ble_eq_true rfl⟩)) (fun r4 hr9 => ?_)
    rcases hr9 with ⟨rfl, hq5⟩ | ⟨rfl, hq5⟩
    · -- 10: true
      refine lv_if_eq (tgt := 25) hx hb d_Mo_build_13 (by decide) (fun h0 => absurd h0 (by decide)) (fun _ => ?_)
      refine lv_iload_n hx hb d_Mo_build_16 rfl (lv_at hl 3 rfl) ?_
      refine lv_if_lt (tgt := 25) hx hb d_Mo_build_17 (by decide) (fun hc7 => ?_) (fun hc7 => ?_)
      · -- 17 taken
        refine lv_iconst (v := 1) hx hb d_Mo_build_25 (by decide) ?_
        refine lv_goto (tgt := 42) hx hb d_Mo_build_26 (by decide) ?_
        refine va_put (D := D) (ci := 6) (v := .int 1) (ty := .int) (C := R_Mo) (T := T_Mo) (N := 24) hx hb hts hin_Mo ty_Mo tyok_Mo nm_Mo hown hK hP hD hS 0 rfl rfl 0 (by decide) (hts _ wd_704) (fun _ h9 => h9) rfl (by decide +kernel) rfl rfl (Nat.le_of_ble_eq_true rfl) d_Mo_build_42 (fun H locs hP hD hS => ?_)
        have hP : va_P D vwCl [(g0, .inr (6, [.int 1, .int ar, .ref m_sea, .ref m_center, .ref m_home, .ref m_borders, .int mp, .int mt, .ref m_owner, .ref m_units, .ref m_kind, .ref m_toX, .ref m_toY, .ref m_results, .ref m_known, .ref m_reached, .ref m_way, .ref m_aside, .ref m_origin, .ref m_retreats, .ref m_contested, .ref m_moved, .int msh, .ref m_past]))] H := hP
        have hD : va_D A [(g0, .inr (6, [.int 1, .int ar, .ref m_sea, .ref m_center, .ref m_home, .ref m_borders, .int mp, .int mt, .ref m_owner, .ref m_units, .ref m_kind, .ref m_toX, .ref m_toY, .ref m_results, .ref m_known, .ref m_reached, .ref m_way, .ref m_aside, .ref m_origin, .ref m_retreats, .ref m_contested, .ref m_moved, .int msh, .ref m_past]))] := hD
        refine lv_aload_n hx hb d_Mo_build_45 rfl (lv_at hl 0 rfl) ?_
        refine va_get (D := D) (ci := 6) (v := .int 1) (C := R_Mo) (T := T_Mo) (N := 24) hx hb hts hin_Mo hown hK hP 0 rfl rfl 0 (by decide) (hts _ wd_704) (fun _ h9 => h9) rfl d_Mo_build_46 ?_
        refine lv_if_eq (tgt := 54) hx hb d_Mo_build_49 (by decide) (fun h0 => absurd h0 (by decide)) (fun _ => ?_)
        refine lv_iconst (v := 0) hx hb d_Mo_build_52 (by decide) ?_
        have hP9 := hP.sub (ws' := [(g0, .inr (6, [.int 1, .int ar, .ref m_sea, .ref m_center, .ref m_home, .ref m_borders, .int mp, .int mt, .ref m_owner, .ref m_units, .ref m_kind, .ref m_toX, .ref m_toY, .ref m_results, .ref m_known, .ref m_reached, .ref m_way, .ref m_aside, .ref m_origin, .ref m_retreats, .ref m_contested, .ref m_moved, .int msh, .ref m_past]))]) [0] rfl
        have hD9 := hD.sub (ws' := [(g0, .inr (6, [.int 1, .int ar, .ref m_sea, .ref m_center, .ref m_home, .ref m_borders, .int mp, .int mt, .ref m_owner, .ref m_units, .ref m_kind, .ref m_toX, .ref m_toY, .ref m_results, .ref m_known, .ref m_reached, .ref m_way, .ref m_aside, .ref m_origin, .ref m_retreats, .ref m_contested, .ref m_moved, .int msh, .ref m_past]))]) [0] (by decide) rfl
        exact W.iret (v := 0) hx hb hr (fun t ht hW => ⟨⟨0, (), rfl, rfl, by rw [ht]; exact hP9, hD9⟩, hS.F ht⟩) hS.2.2 d_Mo_build_53
      · -- 17 not taken
        refine lv_iload_n hx hb d_Mo_build_20 rfl (lv_at hl 3 rfl) ?_
        refine lv_iconst (v := 2) hx hb d_Mo_build_21 (by decide) ?_
        refine lv_icmp_le (tgt := 29) hx hb d_Mo_build_22 (by decide) (fun hc9 => ?_) (fun hc9 => ?_)
        · -- 22 taken
          exact absurd (by unfold okB; revert hq2 hq5 hc7 hc9; simp only [Int32.lt_iff_toInt_lt, Int32.le_iff_toInt_le, ← Int32.toInt_inj, Int32.reduceToInt, i32_m1]; omega) hno9
        · -- 22 not taken
          refine lv_iconst (v := 1) hx hb d_Mo_build_25 (by decide) ?_
          refine lv_goto (tgt := 42) hx hb d_Mo_build_26 (by decide) ?_
          refine va_put (D := D) (ci := 6) (v := .int 1) (ty := .int) (C := R_Mo) (T := T_Mo) (N := 24) hx hb hts hin_Mo ty_Mo tyok_Mo nm_Mo hown hK hP hD hS 0 rfl rfl 0 (by decide) (hts _ wd_704) (fun _ h9 => h9) rfl (by decide +kernel) rfl rfl (Nat.le_of_ble_eq_true rfl) d_Mo_build_42 (fun H locs hP hD hS => ?_)
          have hP : va_P D vwCl [(g0, .inr (6, [.int 1, .int ar, .ref m_sea, .ref m_center, .ref m_home, .ref m_borders, .int mp, .int mt, .ref m_owner, .ref m_units, .ref m_kind, .ref m_toX, .ref m_toY, .ref m_results, .ref m_known, .ref m_reached, .ref m_way, .ref m_aside, .ref m_origin, .ref m_retreats, .ref m_contested, .ref m_moved, .int msh, .ref m_past]))] H := hP
          have hD : va_D A [(g0, .inr (6, [.int 1, .int ar, .ref m_sea, .ref m_center, .ref m_home, .ref m_borders, .int mp, .int mt, .ref m_owner, .ref m_units, .ref m_kind, .ref m_toX, .ref m_toY, .ref m_results, .ref m_known, .ref m_reached, .ref m_way, .ref m_aside, .ref m_origin, .ref m_retreats, .ref m_contested, .ref m_moved, .int msh, .ref m_past]))] := hD
          refine lv_aload_n hx hb d_Mo_build_45 rfl (lv_at hl 0 rfl) ?_
          refine va_get (D := D) (ci := 6) (v := .int 1) (C := R_Mo) (T := T_Mo) (N := 24) hx hb hts hin_Mo hown hK hP 0 rfl rfl 0 (by decide) (hts _ wd_704) (fun _ h9 => h9) rfl d_Mo_build_46 ?_
          refine lv_if_eq (tgt := 54) hx hb d_Mo_build_49 (by decide) (fun h0 => absurd h0 (by decide)) (fun _ => ?_)
          refine lv_iconst (v := 0) hx hb d_Mo_build_52 (by decide) ?_
          have hP9 := hP.sub (ws' := [(g0, .inr (6, [.int 1, .int ar, .ref m_sea, .ref m_center, .ref m_home, .ref m_borders, .int mp, .int mt, .ref m_owner, .ref m_units, .ref m_kind, .ref m_toX, .ref m_toY, .ref m_results, .ref m_known, .ref m_reached, .ref m_way, .ref m_aside, .ref m_origin, .ref m_retreats, .ref m_contested, .ref m_moved, .int msh, .ref m_past]))]) [0] rfl
          have hD9 := hD.sub (ws' := [(g0, .inr (6, [.int 1, .int ar, .ref m_sea, .ref m_center, .ref m_home, .ref m_borders, .int mp, .int mt, .ref m_owner, .ref m_units, .ref m_kind, .ref m_toX, .ref m_toY, .ref m_results, .ref m_known, .ref m_reached, .ref m_way, .ref m_aside, .ref m_origin, .ref m_retreats, .ref m_contested, .ref m_moved, .int msh, .ref m_past]))]) [0] (by decide) rfl
          exact W.iret (v := 0) hx hb hr (fun t ht hW => ⟨⟨0, (), rfl, rfl, by rw [ht]; exact hP9, hD9⟩, hS.F ht⟩) hS.2.2 d_Mo_build_53
    · -- 10: false
      refine lv_if_eq (tgt := 25) hx hb d_Mo_build_13 (by decide) (fun _ => ?_) (fun h0 => absurd (by decide) h0)
      refine lv_iconst (v := 1) hx hb d_Mo_build_25 (by decide) ?_
      refine lv_goto (tgt := 42) hx hb d_Mo_build_26 (by decide) ?_
      refine va_put (D := D) (ci := 6) (v := .int 1) (ty := .int) (C := R_Mo) (T := T_Mo) (N := 24) hx hb hts hin_Mo ty_Mo tyok_Mo nm_Mo hown hK hP hD hS 0 rfl rfl 0 (by decide) (hts _ wd_704) (fun _ h9 => h9) rfl (by decide +kernel) rfl rfl (Nat.le_of_ble_eq_true rfl) d_Mo_build_42 (fun H locs hP hD hS => ?_)
      have hP : va_P D vwCl [(g0, .inr (6, [.int 1, .int ar, .ref m_sea, .ref m_center, .ref m_home, .ref m_borders, .int mp, .int mt, .ref m_owner, .ref m_units, .ref m_kind, .ref m_toX, .ref m_toY, .ref m_results, .ref m_known, .ref m_reached, .ref m_way, .ref m_aside, .ref m_origin, .ref m_retreats, .ref m_contested, .ref m_moved, .int msh, .ref m_past]))] H := hP
      have hD : va_D A [(g0, .inr (6, [.int 1, .int ar, .ref m_sea, .ref m_center, .ref m_home, .ref m_borders, .int mp, .int mt, .ref m_owner, .ref m_units, .ref m_kind, .ref m_toX, .ref m_toY, .ref m_results, .ref m_known, .ref m_reached, .ref m_way, .ref m_aside, .ref m_origin, .ref m_retreats, .ref m_contested, .ref m_moved, .int msh, .ref m_past]))] := hD
      refine lv_aload_n hx hb d_Mo_build_45 rfl (lv_at hl 0 rfl) ?_
      refine va_get (D := D) (ci := 6) (v := .int 1) (C := R_Mo) (T := T_Mo) (N := 24) hx hb hts hin_Mo hown hK hP 0 rfl rfl 0 (by decide) (hts _ wd_704) (fun _ h9 => h9) rfl d_Mo_build_46 ?_
      refine lv_if_eq (tgt := 54) hx hb d_Mo_build_49 (by decide) (fun h0 => absurd h0 (by decide)) (fun _ => ?_)
      refine lv_iconst (v := 0) hx hb d_Mo_build_52 (by decide) ?_
      have hP9 := hP.sub (ws' := [(g0, .inr (6, [.int 1, .int ar, .ref m_sea, .ref m_center, .ref m_home, .ref m_borders, .int mp, .int mt, .ref m_owner, .ref m_units, .ref m_kind, .ref m_toX, .ref m_toY, .ref m_results, .ref m_known, .ref m_reached, .ref m_way, .ref m_aside, .ref m_origin, .ref m_retreats, .ref m_contested, .ref m_moved, .int msh, .ref m_past]))]) [0] rfl
      have hD9 := hD.sub (ws' := [(g0, .inr (6, [.int 1, .int ar, .ref m_sea, .ref m_center, .ref m_home, .ref m_borders, .int mp, .int mt, .ref m_owner, .ref m_units, .ref m_kind, .ref m_toX, .ref m_toY, .ref m_results, .ref m_known, .ref m_reached, .ref m_way, .ref m_aside, .ref m_origin, .ref m_retreats, .ref m_contested, .ref m_moved, .int msh, .ref m_past]))]) [0] (by decide) rfl
      exact W.iret (v := 0) hx hb hr (fun t ht hW => ⟨⟨0, (), rfl, rfl, by rw [ht]; exact hP9, hD9⟩, hS.F ht⟩) hS.2.2 d_Mo_build_53
  · -- 2: false
    refine lv_if_eq (tgt := 25) hx hb d_Mo_build_5 (by decide) (fun _ => ?_) (fun h0 => absurd (by decide) h0)
    refine lv_iconst (v := 1) hx hb d_Mo_build_25 (by decide) ?_
    refine lv_goto (tgt := 42) hx hb d_Mo_build_26 (by decide) ?_
    refine va_put (D := D) (ci := 6) (v := .int 1) (ty := .int) (C := R_Mo) (T := T_Mo) (N := 24) hx hb hts hin_Mo ty_Mo tyok_Mo nm_Mo hown hK hP hD hS 0 rfl rfl 0 (by decide) (hts _ wd_704) (fun _ h9 => h9) rfl (by decide +kernel) rfl rfl (Nat.le_of_ble_eq_true rfl) d_Mo_build_42 (fun H locs hP hD hS => ?_)
    have hP : va_P D vwCl [(g0, .inr (6, [.int 1, .int ar, .ref m_sea, .ref m_center, .ref m_home, .ref m_borders, .int mp, .int mt, .ref m_owner, .ref m_units, .ref m_kind, .ref m_toX, .ref m_toY, .ref m_results, .ref m_known, .ref m_reached, .ref m_way, .ref m_aside, .ref m_origin, .ref m_retreats, .ref m_contested, .ref m_moved, .int msh, .ref m_past]))] H := hP
    have hD : va_D A [(g0, .inr (6, [.int 1, .int ar, .ref m_sea, .ref m_center, .ref m_home, .ref m_borders, .int mp, .int mt, .ref m_owner, .ref m_units, .ref m_kind, .ref m_toX, .ref m_toY, .ref m_results, .ref m_known, .ref m_reached, .ref m_way, .ref m_aside, .ref m_origin, .ref m_retreats, .ref m_contested, .ref m_moved, .int msh, .ref m_past]))] := hD
    refine lv_aload_n hx hb d_Mo_build_45 rfl (lv_at hl 0 rfl) ?_
    refine va_get (D := D) (ci := 6) (v := .int 1) (C := R_Mo) (T := T_Mo) (N := 24) hx hb hts hin_Mo hown hK hP 0 rfl rfl 0 (by decide) (hts _ wd_704) (fun _ h9 => h9) rfl d_Mo_build_46 ?_
    refine lv_if_eq (tgt := 54) hx hb d_Mo_build_49 (by decide) (fun h0 => absurd h0 (by decide)) (fun _ => ?_)
    refine lv_iconst (v := 0) hx hb d_Mo_build_52 (by decide) ?_
    have hP9 := hP.sub (ws' := [(g0, .inr (6, [.int 1, .int ar, .ref m_sea, .ref m_center, .ref m_home, .ref m_borders, .int mp, .int mt, .ref m_owner, .ref m_units, .ref m_kind, .ref m_toX, .ref m_toY, .ref m_results, .ref m_known, .ref m_reached, .ref m_way, .ref m_aside, .ref m_origin, .ref m_retreats, .ref m_contested, .ref m_moved, .int msh, .ref m_past]))]) [0] rfl
    have hD9 := hD.sub (ws' := [(g0, .inr (6, [.int 1, .int ar, .ref m_sea, .ref m_center, .ref m_home, .ref m_borders, .int mp, .int mt, .ref m_owner, .ref m_units, .ref m_kind, .ref m_toX, .ref m_toY, .ref m_results, .ref m_known, .ref m_reached, .ref m_way, .ref m_aside, .ref m_origin, .ref m_retreats, .ref m_contested, .ref m_moved, .int msh, .ref m_past]))]) [0] (by decide) rfl
    exact W.iret (v := 0) hx hb hr (fun t ht hW => ⟨⟨0, (), rfl, rfl, by rw [ht]; exact hP9, hD9⟩, hS.F ht⟩) hS.2.2 d_Mo_build_53


set_option maxHeartbeats 4000000 in
set_option maxRecDepth 100000 in
theorem c_Mo_build_2 (l : Launch) (D : va_G) (cI cZ cJ cS : ClassId) (aT : Nat) (ceT : Cell) (sz : Nat) (g0 m_sea m_center m_home m_borders m_owner m_units m_kind m_toX m_toY m_results m_known m_reached m_way m_aside m_origin m_retreats m_contested m_moved m_past : Nat) (co ar mp mt msh : Int32) (pl a k : Int32) (hok : okB pl a k ar) (hph : ¬ mp = 3) : Met l y_Mo_build w_Mo_build ({ frames := 1, cells := 0, slots := 0, locals := 21 }) (tH D cI cZ cJ cS aT ceT [.ref g0, .int pl, .int a, .int k] sz [(g0, .inr (6, [.int co, .int ar, .ref m_sea, .ref m_center, .ref m_home, .ref m_borders, .int mp, .int mt, .ref m_owner, .ref m_units, .ref m_kind, .ref m_toX, .ref m_toY, .ref m_results, .ref m_known, .ref m_reached, .ref m_way, .ref m_aside, .ref m_origin, .ref m_retreats, .ref m_contested, .ref m_moved, .int msh, .ref m_past]))]) (va_Qi (fun (r : Int32) (_ : Unit) => r = 0) (fun _ t => tB D (va_A [(g0, .inr (6, [.int co, .int ar, .ref m_sea, .ref m_center, .ref m_home, .ref m_borders, .int mp, .int mt, .ref m_owner, .ref m_units, .ref m_kind, .ref m_toX, .ref m_toY, .ref m_results, .ref m_known, .ref m_reached, .ref m_way, .ref m_aside, .ref m_origin, .ref m_retreats, .ref m_contested, .ref m_moved, .int msh, .ref m_past]))] sz) [(g0, .inr (6, [.int 2, .int ar, .ref m_sea, .ref m_center, .ref m_home, .ref m_borders, .int mp, .int mt, .ref m_owner, .ref m_units, .ref m_kind, .ref m_toX, .ref m_toY, .ref m_results, .ref m_known, .ref m_reached, .ref m_way, .ref m_aside, .ref m_origin, .ref m_retreats, .ref m_contested, .ref m_moved, .int msh, .ref m_past]))] t) (va_A [(g0, .inr (6, [.int co, .int ar, .ref m_sea, .ref m_center, .ref m_home, .ref m_borders, .int mp, .int mt, .ref m_owner, .ref m_units, .ref m_kind, .ref m_toX, .ref m_toY, .ref m_results, .ref m_known, .ref m_reached, .ref m_way, .ref m_aside, .ref m_origin, .ref m_retreats, .ref m_contested, .ref m_moved, .int msh, .ref m_past]))] sz)) 0 0 (va_A [(g0, .inr (6, [.int co, .int ar, .ref m_sea, .ref m_center, .ref m_home, .ref m_borders, .int mp, .int mt, .ref m_owner, .ref m_units, .ref m_kind, .ref m_toX, .ref m_toY, .ref m_results, .ref m_known, .ref m_reached, .ref m_way, .ref m_aside, .ref m_origin, .ref m_retreats, .ref m_contested, .ref m_moved, .int msh, .ref m_past]))] sz) := by
  refine Met.ofW (cc := b_Mo_build) (maxL := 5) (ret := (some .int)) (by decide) rfl ?_
  intro p e s m args below meth c s₁ B hml hv
  obtain ⟨rfl, hsz, hP, hK, hD0, hX⟩ := hv
  have hx := B.exec
  have hb := B.bytes
  have hr := B.returns
  have hts0 := atoms_spec (ws := w_Mo_build) B.pre
  have hts : ∀ w ∈ TB, w.before _ s = true := fun w h => hts0 w (List.mem_cons_of_mem _ h)
  have hown : s.vm.findClass R_Mo = some m.cls := findClass_of_methodNamed B.named
  have hlocks := B.notSynchronized
  subst hsz
  have hXl := tx_lt hX
  have hXn := tx_far hP hX
  have hD := hD0.self (sz := s.heap.size)
  generalize hAe : va_A [(g0, .inr (6, [.int co, .int ar, .ref m_sea, .ref m_center, .ref m_home, .ref m_borders, .int mp, .int mt, .ref m_owner, .ref m_units, .ref m_kind, .ref m_toX, .ref m_toY, .ref m_results, .ref m_known, .ref m_reached, .ref m_way, .ref m_aside, .ref m_origin, .ref m_retreats, .ref m_contested, .ref m_moved, .int msh, .ref m_past]))] s.heap.size = A at hD hXn ⊢
  have hA : ∀ q : Nat, s.heap.size ≤ q → A q := fun q h => by rw [← hAe]; exact Or.inr h
  have hS : va_S A s.heap s.heap [] := va_S.rf
  have hXH : s.heap[aT]? = s.heap[aT]? := rfl
  have hl := lv_entry ([.ref g0, .int pl, .int a, .int k]) (n := 5) (Nat.le_of_ble_eq_true rfl)
  rw [lg_entry_eq]
  generalize (lg_sl ([.ref g0, .int pl, .int a, .int k]) ++ List.replicate (5 - (lg_sl ([.ref g0, .int pl, .int a, .int k])).length) Slot.unset).toArray = ls at hl ⊢
  have hl : lv_has ls 5 [(0, .ref g0), (1, .int pl), (2, .int a), (3, .int k)] := hl
  refine lv_aload_n hx hb d_Mo_build_0 rfl (lv_at hl 0 rfl) ?_
  refine lv_iload_n hx hb d_Mo_build_1 rfl (lv_at hl 1 rfl) ?_
  have hPc := hP.sub (ws' := []) [] rfl
  refine vp_callSi (va_Run.run (va_runS (As := [.int pl]) (rest := [.ref g0]) ⟨hx, hb, hml, hown, hts⟩ (c_Mo_isPlayer l D cI cZ cJ cS aT ceT  pl ) (va_cwS 1 hts (tb_3 wd_802 wd_803 wd_8 (tb_c wd_804)) rfl rfl rfl ⟨by decide, by decide, by decide +kernel⟩ ⟨Nat.le_of_ble_eq_true rfl, Nat.le_of_ble_eq_true rfl⟩) (tP_S hK hX (hS.2.1 aT hXl hXn) hPc) rfl rfl hl.1 rfl (lv_room (Nat.le_of_ble_eq_true rfl)) d_Mo_build_2 ⟨Nat.le_of_ble_eq_true rfl, Nat.le_of_ble_eq_true rfl⟩)) (fun r1 hr9 => ?_)
  rcases hr9 with ⟨rfl, hq2⟩ | ⟨rfl, hq2⟩
  · -- 2: true
    refine lv_if_eq (tgt := 25) hx hb d_Mo_build_5 (by decide) (fun h0 => absurd h0 (by decide)) (fun _ => ?_)
    refine lv_aload_n hx hb d_Mo_build_8 rfl (lv_at hl 0 rfl) ?_
    refine lv_iload_n hx hb d_Mo_build_9 rfl (lv_at hl 2 rfl) ?_
    have hPc := hP.sub (ws' := [(g0, .inr (6, [.int co, .int ar, .ref m_sea, .ref m_center, .ref m_home, .ref m_borders, .int mp, .int mt, .ref m_owner, .ref m_units, .ref m_kind, .ref m_toX, .ref m_toY, .ref m_results, .ref m_known, .ref m_reached, .ref m_way, .ref m_aside, .ref m_origin, .ref m_retreats, .ref m_contested, .ref m_moved, .int msh, .ref m_past]))]) [0] rfl
    refine vp_callSi (va_Run.run (va_runV (As := [.int a]) (rest := [.ref g0]) ⟨hx, hb, hml, hown, hts⟩ (c_Mo_isArea l D cI cZ cJ cS aT ceT  g0 m_sea m_center m_home m_borders m_owner m_units m_kind m_toX m_toY m_results m_known m_reached m_way m_aside m_origin m_retreats m_contested m_moved m_past co ar mp mt msh a ) (cwV 1 hts (tb_4 wd_790 wd_792 wp_36 wd_8 (tb_c wd_793)) rfl rfl rfl ⟨rfl, by decide, by decide, by decide +kernel⟩ ⟨Nat.le_of_ble_eq_true rfl, Nat.le_of_ble_eq_true rfl⟩) (tP_V hK hX (hS.2.1 aT hXl hXn) hPc (q := 0) rfl rfl) rfl rfl hl.1 rfl (lv_room (Nat.le_of_ble_eq_true rfl)) d_Mo_build_10 ⟨Nat.le_of_ble_eq_true rfl, Nat.le_of_ble_eq_true rfl⟩)) (fun r4 hr9 => ?_)
    rcases hr9 with ⟨rfl, hq5⟩ | ⟨rfl, hq5⟩
    · -- 10: true
      refine lv_if_eq (tgt := 25) hx hb d_Mo_build_13 (by decide) (fun h0 => absurd h0 (by decide)) (fun _ => ?_)
      refine lv_iload_n hx hb d_Mo_build_16 rfl (lv_at hl 3 rfl) ?_
      refine lv_if_lt (tgt := 25) hx hb d_Mo_build_17 (by decide) (fun hc7 => ?_) (fun hc7 => ?_)
      · -- 17 taken
        exact False.elim (by unfold okB at hok; revert hok hq2 hq5 hc7; simp only [Int32.lt_iff_toInt_lt, Int32.le_iff_toInt_le, ← Int32.toInt_inj, Int32.reduceToInt, i32_m1]; omega)
      · -- 17 not taken
        refine lv_iload_n hx hb d_Mo_build_20 rfl (lv_at hl 3 rfl) ?_
        refine lv_iconst (v := 2) hx hb d_Mo_build_21 (by decide) ?_
        refine lv_icmp_le (tgt := 29) hx hb d_Mo_build_22 (by decide) (fun hc8 => ?_) (fun hc8 => ?_)
        · -- 22 taken
          refine lv_aload_n hx hb d_Mo_build_29 rfl (lv_at hl 0 rfl) ?_
          refine va_get (D := D) (ci := 6) (v := .int mp) (C := R_Mo) (T := T_Mo) (N := 24) hx hb hts hin_Mo hown hK hP 0 rfl rfl 6 (by decide) (hts _ wd_710) (fun _ h9 => h9) rfl d_Mo_build_30 ?_
          refine lv_iconst (v := 3) hx hb d_Mo_build_33 (by decide) ?_
          refine lv_icmp_eq (tgt := 41) hx hb d_Mo_build_34 (by decide) (fun hc9 => ?_) (fun hc9 => ?_)
          · -- 34 taken
            exact absurd hc9 hph
          · -- 34 not taken
            refine lv_iconst (v := 2) hx hb d_Mo_build_37 (by decide) ?_
            refine lv_goto (tgt := 42) hx hb d_Mo_build_38 (by decide) ?_
            refine va_put (D := D) (ci := 6) (v := .int 2) (ty := .int) (C := R_Mo) (T := T_Mo) (N := 24) hx hb hts hin_Mo ty_Mo tyok_Mo nm_Mo hown hK hP hD hS 0 rfl rfl 0 (by decide) (hts _ wd_704) (fun _ h9 => h9) rfl (by decide +kernel) rfl rfl (Nat.le_of_ble_eq_true rfl) d_Mo_build_42 (fun H locs hP hD hS => ?_)
            have hP : va_P D vwCl [(g0, .inr (6, [.int 2, .int ar, .ref m_sea, .ref m_center, .ref m_home, .ref m_borders, .int mp, .int mt, .ref m_owner, .ref m_units, .ref m_kind, .ref m_toX, .ref m_toY, .ref m_results, .ref m_known, .ref m_reached, .ref m_way, .ref m_aside, .ref m_origin, .ref m_retreats, .ref m_contested, .ref m_moved, .int msh, .ref m_past]))] H := hP
            have hD : va_D A [(g0, .inr (6, [.int 2, .int ar, .ref m_sea, .ref m_center, .ref m_home, .ref m_borders, .int mp, .int mt, .ref m_owner, .ref m_units, .ref m_kind, .ref m_toX, .ref m_toY, .ref m_results, .ref m_known, .ref m_reached, .ref m_way, .ref m_aside, .ref m_origin, .ref m_retreats, .ref m_contested, .ref m_moved, .int msh, .ref m_past]))] := hD
            refine lv_aload_n hx hb d_Mo_build_45 rfl (lv_at hl 0 rfl) ?_
            refine va_get (D := D) (ci := 6) (v := .int 2) (C := R_Mo) (T := T_Mo) (N := 24) hx hb hts hin_Mo hown hK hP 0 rfl rfl 0 (by decide) (hts _ wd_704) (fun _ h9 => h9) rfl d_Mo_build_46 ?_
            refine lv_if_eq (tgt := 54) hx hb d_Mo_build_49 (by decide) (fun h0 => absurd h0 (by decide)) (fun _ => ?_)
            refine lv_iconst (v := 0) hx hb d_Mo_build_52 (by decide) ?_
            have hP9 := hP.sub (ws' := [(g0, .inr (6, [.int 2, .int ar, .ref m_sea, .ref m_center, .ref m_home, .ref m_borders, .int mp, .int mt, .ref m_owner, .ref m_units, .ref m_kind, .ref m_toX, .ref m_toY, .ref m_results, .ref m_known, .ref m_reached, .ref m_way, .ref m_aside, .ref m_origin, .ref m_retreats, .ref m_contested, .ref m_moved, .int msh, .ref m_past]))]) [0] rfl
            have hD9 := hD.sub (ws' := [(g0, .inr (6, [.int 2, .int ar, .ref m_sea, .ref m_center, .ref m_home, .ref m_borders, .int mp, .int mt, .ref m_owner, .ref m_units, .ref m_kind, .ref m_toX, .ref m_toY, .ref m_results, .ref m_known, .ref m_reached, .ref m_way, .ref m_aside, .ref m_origin, .ref m_retreats, .ref m_contested, .ref m_moved, .int msh, .ref m_past]))]) [0] (by decide) rfl
            exact W.iret (v := 0) hx hb hr (fun t ht hW => ⟨⟨0, (), rfl, rfl, by rw [ht]; exact hP9, hD9⟩, hS.F ht⟩) hS.2.2 d_Mo_build_53
        · -- 22 not taken
          exact False.elim (by unfold okB at hok; revert hok hq2 hq5 hc7 hc8; simp only [Int32.lt_iff_toInt_lt, Int32.le_iff_toInt_le, ← Int32.toInt_inj, Int32.reduceToInt, i32_m1]; omega)
    · -- 10: false
      refine lv_if_eq (tgt := 25) hx hb d_Mo_build_13 (by decide) (fun _ => ?_) (fun h0 => absurd (by decide) h0)
      exact False.elim (by unfold okB at hok; revert hok hq2 hq5; simp only [Int32.lt_iff_toInt_lt, Int32.le_iff_toInt_le, ← Int32.toInt_inj, Int32.reduceToInt, i32_m1]; omega)
  · -- 2: false
    refine lv_if_eq (tgt := 25) hx hb d_Mo_build_5 (by decide) (fun _ => ?_) (fun h0 => absurd (by decide) h0)
    exact False.elim (by unfold okB at hok; revert hok hq2; simp only [Int32.lt_iff_toInt_lt, Int32.le_iff_toInt_le, ← Int32.toInt_inj, Int32.reduceToInt, i32_m1]; omega)


set_option maxHeartbeats 4000000 in
set_option maxRecDepth 100000 in
theorem c_Mo_border_2 (l : Launch) (D : va_G) (cI cZ cJ cS : ClassId) (aT : Nat) (ceT : Cell) (sz : Nat) (g0 m_sea m_center m_home m_borders m_owner m_units m_kind m_toX m_toY m_results m_known m_reached m_way m_aside m_origin m_retreats m_contested m_moved m_past : Nat) (co ar mp mt msh : Int32) (a b : Int32) (hok : (0 ≤ a ∧ a < ar) ∧ (0 ≤ b ∧ b < ar) ∧ ¬ a = b) (hph : ¬ mp = 0) : Met l y_Mo_border w_Mo_border ({ frames := 1, cells := 0, slots := 0, locals := 21 }) (tH D cI cZ cJ cS aT ceT [.ref g0, .int a, .int b] sz [(g0, .inr (6, [.int co, .int ar, .ref m_sea, .ref m_center, .ref m_home, .ref m_borders, .int mp, .int mt, .ref m_owner, .ref m_units, .ref m_kind, .ref m_toX, .ref m_toY, .ref m_results, .ref m_known, .ref m_reached, .ref m_way, .ref m_aside, .ref m_origin, .ref m_retreats, .ref m_contested, .ref m_moved, .int msh, .ref m_past]))]) (va_Qi (fun (r : Int32) (_ : Unit) => r = 0) (fun _ t => tB D (va_A [(g0, .inr (6, [.int co, .int ar, .ref m_sea, .ref m_center, .ref m_home, .ref m_borders, .int mp, .int mt, .ref m_owner, .ref m_units, .ref m_kind, .ref m_toX, .ref m_toY, .ref m_results, .ref m_known, .ref m_reached, .ref m_way, .ref m_aside, .ref m_origin, .ref m_retreats, .ref m_contested, .ref m_moved, .int msh, .ref m_past]))] sz) [(g0, .inr (6, [.int 2, .int ar, .ref m_sea, .ref m_center, .ref m_home, .ref m_borders, .int mp, .int mt, .ref m_owner, .ref m_units, .ref m_kind, .ref m_toX, .ref m_toY, .ref m_results, .ref m_known, .ref m_reached, .ref m_way, .ref m_aside, .ref m_origin, .ref m_retreats, .ref m_contested, .ref m_moved, .int msh, .ref m_past]))] t) (va_A [(g0, .inr (6, [.int co, .int ar, .ref m_sea, .ref m_center, .ref m_home, .ref m_borders, .int mp, .int mt, .ref m_owner, .ref m_units, .ref m_kind, .ref m_toX, .ref m_toY, .ref m_results, .ref m_known, .ref m_reached, .ref m_way, .ref m_aside, .ref m_origin, .ref m_retreats, .ref m_contested, .ref m_moved, .int msh, .ref m_past]))] sz)) 0 0 (va_A [(g0, .inr (6, [.int co, .int ar, .ref m_sea, .ref m_center, .ref m_home, .ref m_borders, .int mp, .int mt, .ref m_owner, .ref m_units, .ref m_kind, .ref m_toX, .ref m_toY, .ref m_results, .ref m_known, .ref m_reached, .ref m_way, .ref m_aside, .ref m_origin, .ref m_retreats, .ref m_contested, .ref m_moved, .int msh, .ref m_past]))] sz) := by
  refine Met.ofW (cc := b_Mo_border) (maxL := 3) (ret := (some .boolean)) (by decide) rfl ?_
  intro p e s m args below meth c s₁ B hml hv
  obtain ⟨rfl, hsz, hP, hK, hD0, hX⟩ := hv
  have hx := B.exec
  have hb := B.bytes
  have hr := B.returns
  have hts0 := atoms_spec (ws := w_Mo_border) B.pre
  have hts : ∀ w ∈ TB, w.before _ s = true := fun w h => hts0 w (List.mem_cons_of_mem _ h)
  have hown : s.vm.findClass R_Mo = some m.cls := findClass_of_methodNamed B.named
  have hlocks := B.notSynchronized
  subst hsz
  have hXl := tx_lt hX
  have hXn := tx_far hP hX
  have hD := hD0.self (sz := s.heap.size)
  generalize hAe : va_A [(g0, .inr (6, [.int co, .int ar, .ref m_sea, .ref m_center, .ref m_home, .ref m_borders, .int mp, .int mt, .ref m_owner, .ref m_units, .ref m_kind, .ref m_toX, .ref m_toY, .ref m_results, .ref m_known, .ref m_reached, .ref m_way, .ref m_aside, .ref m_origin, .ref m_retreats, .ref m_contested, .ref m_moved, .int msh, .ref m_past]))] s.heap.size = A at hD hXn ⊢
  have hA : ∀ q : Nat, s.heap.size ≤ q → A q := fun q h => by rw [← hAe]; exact Or.inr h
  have hS : va_S A s.heap s.heap [] := va_S.rf
  have hXH : s.heap[aT]? = s.heap[aT]? := rfl
  have hl := lv_entry ([.ref g0, .int a, .int b]) (n := 3) (Nat.le_of_ble_eq_true rfl)
  rw [lg_entry_eq]
  generalize (lg_sl ([.ref g0, .int a, .int b]) ++ List.replicate (3 - (lg_sl ([.ref g0, .int a, .int b])).length) Slot.unset).toArray = ls at hl ⊢
  have hl : lv_has ls 3 [(0, .ref g0), (1, .int a), (2, .int b)] := hl
  refine lv_aload_n hx hb d_Mo_border_0 rfl (lv_at hl 0 rfl) ?_
  refine lv_aload_n hx hb d_Mo_border_1 rfl (lv_at hl 0 rfl) ?_
  refine lv_iload_n hx hb d_Mo_border_2 rfl (lv_at hl 1 rfl) ?_
  have hPc := hP.sub (ws' := [(g0, .inr (6, [.int co, .int ar, .ref m_sea, .ref m_center, .ref m_home, .ref m_borders, .int mp, .int mt, .ref m_owner, .ref m_units, .ref m_kind, .ref m_toX, .ref m_toY, .ref m_results, .ref m_known, .ref m_reached, .ref m_way, .ref m_aside, .ref m_origin, .ref m_retreats, .ref m_contested, .ref m_moved, .int msh, .ref m_past]))]) [0] rfl
  refine vp_callSi (va_Run.run (va_runV (As := [.int a]) (rest := [.ref g0]) ⟨hx, hb, hml, hown, hts⟩ (c_Mo_isArea l D cI cZ cJ cS aT ceT  g0 m_sea m_center m_home m_borders m_owner m_units m_kind m_toX m_toY m_results m_known m_reached m_way m_aside m_origin m_retreats m_contested m_moved m_past co ar mp mt msh a ) (cwV 1 hts (tb_4 wd_790 wd_792 wp_36 wd_8 (tb_c wd_793)) rfl rfl rfl ⟨rfl, by decide, by decide, by decide +kernel⟩ ⟨Nat.le_of_ble_eq_true rfl, Nat.le_of_ble_eq_true rfl⟩) (tP_V hK hX (hS.2.1 aT hXl hXn) hPc (q := 0) rfl rfl) rfl rfl hl.1 rfl (lv_room (Nat.le_of_ble_eq_true rfl)) d_Mo_border_3 ⟨Nat.le_of_ble_eq_true rfl, Nat.le_of_ble_eq_true rfl⟩)) (fun r1 hr9 => ?_)
  rcases hr9 with ⟨rfl, hq2⟩ | ⟨rfl, hq2⟩
  · -- 3: true
    refine lv_if_eq (tgt := 22) hx hb d_Mo_border_6 (by decide) (fun h0 => absurd h0 (by decide)) (fun _ => ?_)
    refine lv_aload_n hx hb d_Mo_border_9 rfl (lv_at hl 0 rfl) ?_
    refine lv_iload_n hx hb d_Mo_border_10 rfl (lv_at hl 2 rfl) ?_
    have hPc := hP.sub (ws' := [(g0, .inr (6, [.int co, .int ar, .ref m_sea, .ref m_center, .ref m_home, .ref m_borders, .int mp, .int mt, .ref m_owner, .ref m_units, .ref m_kind, .ref m_toX, .ref m_toY, .ref m_results, .ref m_known, .ref m_reached, .ref m_way, .ref m_aside, .ref m_origin, .ref m_retreats, .ref m_contested, .ref m_moved, .int msh, .ref m_past]))]) [0] rfl
    refine vp_callSi (va_Run.run (va_runV (As := [.int b]) (rest := [.ref g0]) ⟨hx, hb, hml, hown, hts⟩ (c_Mo_isArea l D cI cZ cJ cS aT ceT  g0 m_sea m_center m_home m_borders m_owner m_units m_kind m_toX m_toY m_results m_known m_reached m_way m_aside m_origin m_retreats m_contested m_moved m_past co ar mp mt msh b ) (cwV 1 hts (tb_4 wd_790 wd_792 wp_36 wd_8 (tb_c wd_793)) rfl rfl rfl ⟨rfl, by decide, by decide, by decide +kernel⟩ ⟨Nat.le_of_ble_eq_true rfl, Nat.le_of_ble_eq_true rfl⟩) (tP_V hK hX (hS.2.1 aT hXl hXn) hPc (q := 0) rfl rfl) rfl rfl hl.1 rfl (lv_room (Nat.le_of_ble_eq_true rfl)) d_Mo_border_11 ⟨Nat.le_of_ble_eq_true rfl, Nat.le_of_ble_eq_true rfl⟩)) (fun r4 hr9 => ?_)
    rcases hr9 with ⟨rfl, hq5⟩ | ⟨rfl, hq5⟩
    · -- 11: true
      refine lv_if_eq (tgt := 22) hx hb d_Mo_border_14 (by decide) (fun h0 => absurd h0 (by decide)) (fun _ => ?_)
      refine lv_iload_n hx hb d_Mo_border_17 rfl (lv_at hl 1 rfl) ?_
      refine lv_iload_n hx hb d_Mo_border_18 rfl (lv_at hl 2 rfl) ?_
      refine lv_icmp_ne (tgt := 26) hx hb d_Mo_border_19 (by decide) (fun hc7 => ?_) (fun hc7 => ?_)
      · -- 19 taken
        refine lv_aload_n hx hb d_Mo_border_26 rfl (lv_at hl 0 rfl) ?_
        refine va_get (D := D) (ci := 6) (v := .int mp) (C := R_Mo) (T := T_Mo) (N := 24) hx hb hts hin_Mo hown hK hP 0 rfl rfl 6 (by decide) (hts _ wd_710) (fun _ h9 => h9) rfl d_Mo_border_27 ?_
        refine lv_if_eq (tgt := 37) hx hb d_Mo_border_30 (by decide) (fun hc8 => ?_) (fun hc8 => ?_)
        · -- 30 taken
          exact absurd hc8 hph
        · -- 30 not taken
          refine lv_iconst (v := 2) hx hb d_Mo_border_33 (by decide) ?_
          refine lv_goto (tgt := 38) hx hb d_Mo_border_34 (by decide) ?_
          refine va_put (D := D) (ci := 6) (v := .int 2) (ty := .int) (C := R_Mo) (T := T_Mo) (N := 24) hx hb hts hin_Mo ty_Mo tyok_Mo nm_Mo hown hK hP hD hS 0 rfl rfl 0 (by decide) (hts _ wd_704) (fun _ h9 => h9) rfl (by decide +kernel) rfl rfl (Nat.le_of_ble_eq_true rfl) d_Mo_border_38 (fun H locs hP hD hS => ?_)
          have hP : va_P D vwCl [(g0, .inr (6, [.int 2, .int ar, .ref m_sea, .ref m_center, .ref m_home, .ref m_borders, .int mp, .int mt, .ref m_owner, .ref m_units, .ref m_kind, .ref m_toX, .ref m_toY, .ref m_results, .ref m_known, .ref m_reached, .ref m_way, .ref m_aside, .ref m_origin, .ref m_retreats, .ref m_contested, .ref m_moved, .int msh, .ref m_past]))] H := hP
          have hD : va_D A [(g0, .inr (6, [.int 2, .int ar, .ref m_sea, .ref m_center, .ref m_home, .ref m_borders, .int mp, .int mt, .ref m_owner, .ref m_units, .ref m_kind, .ref m_toX, .ref m_toY, .ref m_results, .ref m_known, .ref m_reached, .ref m_way, .ref m_aside, .ref m_origin, .ref m_retreats, .ref m_contested, .ref m_moved, .int msh, .ref m_past]))] := hD
          refine lv_aload_n hx hb d_Mo_border_41 rfl (lv_at hl 0 rfl) ?_
          refine va_get (D := D) (ci := 6) (v := .int 2) (C := R_Mo) (T := T_Mo) (N := 24) hx hb hts hin_Mo hown hK hP 0 rfl rfl 0 (by decide) (hts _ wd_704) (fun _ h9 => h9) rfl d_Mo_border_42 ?_
          refine lv_if_ne (tgt := 57) hx hb d_Mo_border_45 (by decide) (fun _ => ?_) (fun h0 => absurd h0 (by decide))
          refine lv_iconst (v := 0) hx hb d_Mo_border_57 (by decide) ?_
          have hP9 := hP.sub (ws' := [(g0, .inr (6, [.int 2, .int ar, .ref m_sea, .ref m_center, .ref m_home, .ref m_borders, .int mp, .int mt, .ref m_owner, .ref m_units, .ref m_kind, .ref m_toX, .ref m_toY, .ref m_results, .ref m_known, .ref m_reached, .ref m_way, .ref m_aside, .ref m_origin, .ref m_retreats, .ref m_contested, .ref m_moved, .int msh, .ref m_past]))]) [0] rfl
          have hD9 := hD.sub (ws' := [(g0, .inr (6, [.int 2, .int ar, .ref m_sea, .ref m_center, .ref m_home, .ref m_borders, .int mp, .int mt, .ref m_owner, .ref m_units, .ref m_kind, .ref m_toX, .ref m_toY, .ref m_results, .ref m_known, .ref m_reached, .ref m_way, .ref m_aside, .ref m_origin, .ref m_retreats, .ref m_contested, .ref m_moved, .int msh, .ref m_past]))]) [0] (by decide) rfl
          exact W.zret (v := 0) hx hb hr (by decide) (fun t ht hW => ⟨⟨0, (), rfl, rfl, by rw [ht]; exact hP9, hD9⟩, hS.F ht⟩) hS.2.2 d_Mo_border_58
      · -- 19 not taken
        exact False.elim (by revert hok hq2 hq5 hc7; simp only [Int32.lt_iff_toInt_lt, Int32.le_iff_toInt_le, ← Int32.toInt_inj, Int32.reduceToInt, i32_m1]; omega)
    · -- 11: false
      refine lv_if_eq (tgt := 22) hx hb d_Mo_border_14 (by decide) (fun _ => ?_) (fun h0 => absurd (by decide) h0)
      exact False.elim (by revert hok hq2 hq5; simp only [Int32.lt_iff_toInt_lt, Int32.le_iff_toInt_le, ← Int32.toInt_inj, Int32.reduceToInt, i32_m1]; omega)
  · -- 3: false
    refine lv_if_eq (tgt := 22) hx hb d_Mo_border_6 (by decide) (fun _ => ?_) (fun h0 => absurd (by decide) h0)
    exact False.elim (by revert hok hq2; simp only [Int32.lt_iff_toInt_lt, Int32.le_iff_toInt_le, ← Int32.toInt_inj, Int32.reduceToInt, i32_m1]; omega)


set_option maxHeartbeats 4000000 in
set_option maxRecDepth 100000 in
theorem c_Mo_area_2 (l : Launch) (D : va_G) (cI cZ cJ cS : ClassId) (aT : Nat) (ceT : Cell) (sz : Nat) (g0 m_sea m_center m_home m_borders m_owner m_units m_kind m_toX m_toY m_results m_known m_reached m_way m_aside m_origin m_retreats m_contested m_moved m_past : Nat) (co ar mp mt msh : Int32) (k ce h : Int32) (hok : okA k ce h) (har : ar ≤ 12) (hph : ¬ (mp = 0 ∧ ar < 12)) : Met l y_Mo_area w_Mo_area ({ frames := 1, cells := 0, slots := 0, locals := 21 }) (tH D cI cZ cJ cS aT ceT [.ref g0, .int k, .int ce, .int h] sz [(g0, .inr (6, [.int co, .int ar, .ref m_sea, .ref m_center, .ref m_home, .ref m_borders, .int mp, .int mt, .ref m_owner, .ref m_units, .ref m_kind, .ref m_toX, .ref m_toY, .ref m_results, .ref m_known, .ref m_reached, .ref m_way, .ref m_aside, .ref m_origin, .ref m_retreats, .ref m_contested, .ref m_moved, .int msh, .ref m_past]))]) (va_Qi (fun (r : Int32) (_ : Unit) => r = 0) (fun _ t => tB D (va_A [(g0, .inr (6, [.int co, .int ar, .ref m_sea, .ref m_center, .ref m_home, .ref m_borders, .int mp, .int mt, .ref m_owner, .ref m_units, .ref m_kind, .ref m_toX, .ref m_toY, .ref m_results, .ref m_known, .ref m_reached, .ref m_way, .ref m_aside, .ref m_origin, .ref m_retreats, .ref m_contested, .ref m_moved, .int msh, .ref m_past]))] sz) [(g0, .inr (6, [.int 2, .int ar, .ref m_sea, .ref m_center, .ref m_home, .ref m_borders, .int mp, .int mt, .ref m_owner, .ref m_units, .ref m_kind, .ref m_toX, .ref m_toY, .ref m_results, .ref m_known, .ref m_reached, .ref m_way, .ref m_aside, .ref m_origin, .ref m_retreats, .ref m_contested, .ref m_moved, .int msh, .ref m_past]))] t) (va_A [(g0, .inr (6, [.int co, .int ar, .ref m_sea, .ref m_center, .ref m_home, .ref m_borders, .int mp, .int mt, .ref m_owner, .ref m_units, .ref m_kind, .ref m_toX, .ref m_toY, .ref m_results, .ref m_known, .ref m_reached, .ref m_way, .ref m_aside, .ref m_origin, .ref m_retreats, .ref m_contested, .ref m_moved, .int msh, .ref m_past]))] sz)) 0 0 (va_A [(g0, .inr (6, [.int co, .int ar, .ref m_sea, .ref m_center, .ref m_home, .ref m_borders, .int mp, .int mt, .ref m_owner, .ref m_units, .ref m_kind, .ref m_toX, .ref m_toY, .ref m_results, .ref m_known, .ref m_reached, .ref m_way, .ref m_aside, .ref m_origin, .ref m_retreats, .ref m_contested, .ref m_moved, .int msh, .ref m_past]))] sz) := by
  refine Met.ofW (cc := b_Mo_area) (maxL := 5) (ret := (some .int)) (by decide) rfl ?_
  intro p e s m args below meth c s₁ B hml hv
  obtain ⟨rfl, hsz, hP, hK, hD0, hX⟩ := hv
  have hx := B.exec
  have hb := B.bytes
  have hr := B.returns
  have hts0 := atoms_spec (ws := w_Mo_area) B.pre
  have hts : ∀ w ∈ TB, w.before _ s = true := fun w h => hts0 w (List.mem_cons_of_mem _ h)
  have hown : s.vm.findClass R_Mo = some m.cls := findClass_of_methodNamed B.named
  have hlocks := B.notSynchronized
  subst hsz
  have hXl := tx_lt hX
  have hXn := tx_far hP hX
  have hD := hD0.self (sz := s.heap.size)
  generalize hAe : va_A [(g0, .inr (6, [.int co, .int ar, .ref m_sea, .ref m_center, .ref m_home, .ref m_borders, .int mp, .int mt, .ref m_owner, .ref m_units, .ref m_kind, .ref m_toX, .ref m_toY, .ref m_results, .ref m_known, .ref m_reached, .ref m_way, .ref m_aside, .ref m_origin, .ref m_retreats, .ref m_contested, .ref m_moved, .int msh, .ref m_past]))] s.heap.size = A at hD hXn ⊢
  have hA : ∀ q : Nat, s.heap.size ≤ q → A q := fun q h => by rw [← hAe]; exact Or.inr h
  have hS : va_S A s.heap s.heap [] := va_S.rf
  have hXH : s.heap[aT]? = s.heap[aT]? := rfl
  have hl := lv_entry ([.ref g0, .int k, .int ce, .int h]) (n := 5) (Nat.le_of_ble_eq_true rfl)
  rw [lg_entry_eq]
  generalize (lg_sl ([.ref g0, .int k, .int ce, .int h]) ++ List.replicate (5 - (lg_sl ([.ref g0, .int k, .int ce, .int h])).length) Slot.unset).toArray = ls at hl ⊢
  have hl : lv_has ls 5 [(0, .ref g0), (1, .int k), (2, .int ce), (3, .int h)] := hl
  refine lv_aload_n hx hb d_Mo_area_0 rfl (lv_at hl 0 rfl) ?_
  refine lv_iload_n hx hb d_Mo_area_1 rfl (lv_at hl 1 rfl) ?_
  refine lv_if_lt (tgt := 37) hx hb d_Mo_area_2 (by decide) (fun hc1 => ?_) (fun hc1 => ?_)
  · -- 2 taken
    exact False.elim (by unfold okA at hok; revert hok hc1; simp only [Int32.lt_iff_toInt_lt, Int32.le_iff_toInt_le, ← Int32.toInt_inj, Int32.reduceToInt, i32_m1]; omega)
  · -- 2 not taken
    refine lv_iload_n hx hb d_Mo_area_5 rfl (lv_at hl 1 rfl) ?_
    refine lv_iconst (v := 1) hx hb d_Mo_area_6 (by decide) ?_
    refine lv_icmp_gt (tgt := 37) hx hb d_Mo_area_7 (by decide) (fun hc2 => ?_) (fun hc2 => ?_)
    · -- 7 taken
      exact False.elim (by unfold okA at hok; revert hok hc1 hc2; simp only [Int32.lt_iff_toInt_lt, Int32.le_iff_toInt_le, ← Int32.toInt_inj, Int32.reduceToInt, i32_m1]; omega)
    · -- 7 not taken
      refine lv_iload_n hx hb d_Mo_area_10 rfl (lv_at hl 3 rfl) ?_
      refine lv_iconst (v := (-1)) hx hb d_Mo_area_11 (by decide) ?_
      refine lv_icmp_lt (tgt := 37) hx hb d_Mo_area_12 (by decide) (fun hc3 => ?_) (fun hc3 => ?_)
      · -- 12 taken
        exact False.elim (by unfold okA at hok; revert hok hc1 hc2 hc3; simp only [Int32.lt_iff_toInt_lt, Int32.le_iff_toInt_le, ← Int32.toInt_inj, Int32.reduceToInt, i32_m1]; omega)
      · -- 12 not taken
        refine lv_iload_n hx hb d_Mo_area_15 rfl (lv_at hl 3 rfl) ?_
        refine lv_iconst (v := 3) hx hb d_Mo_area_16 (by decide) ?_
        refine lv_icmp_gt (tgt := 37) hx hb d_Mo_area_17 (by decide) (fun hc4 => ?_) (fun hc4 => ?_)
        · -- 17 taken
          exact False.elim (by unfold okA at hok; revert hok hc1 hc2 hc3 hc4; simp only [Int32.lt_iff_toInt_lt, Int32.le_iff_toInt_le, ← Int32.toInt_inj, Int32.reduceToInt, i32_m1]; omega)
        · -- 17 not taken
          refine lv_iload_n hx hb d_Mo_area_20 rfl (lv_at hl 2 rfl) ?_
          refine lv_if_eq (tgt := 29) hx hb d_Mo_area_21 (by decide) (fun hc5 => ?_) (fun hc5 => ?_)
          · -- 21 taken
            refine lv_iload_n hx hb d_Mo_area_29 rfl (lv_at hl 3 rfl) ?_
            refine lv_if_lt (tgt := 41) hx hb d_Mo_area_30 (by decide) (fun hc6 => ?_) (fun hc6 => ?_)
            · -- 30 taken
              refine lv_aload_n hx hb d_Mo_area_41 rfl (lv_at hl 0 rfl) ?_
              refine va_get (D := D) (ci := 6) (v := .int ar) (C := R_Mo) (T := T_Mo) (N := 24) hx hb hts hin_Mo hown hK hP 0 rfl rfl 1 (by decide) (hts _ wd_705) (fun _ h9 => h9) rfl d_Mo_area_42 ?_
              refine lv_bipush (v := 12) hx hb d_Mo_area_45 (by decide) ?_
              refine lv_icmp_eq (tgt := 57) hx hb d_Mo_area_47 (by decide) (fun hc7 => ?_) (fun hc7 => ?_)
              · -- 47 taken
                refine lv_iconst (v := 2) hx hb d_Mo_area_57 (by decide) ?_
                refine lv_goto (tgt := 62) hx hb d_Mo_area_58 (by decide) ?_
                refine va_put (D := D) (ci := 6) (v := .int 2) (ty := .int) (C := R_Mo) (T := T_Mo) (N := 24) hx hb hts hin_Mo ty_Mo tyok_Mo nm_Mo hown hK hP hD hS 0 rfl rfl 0 (by decide) (hts _ wd_704) (fun _ h9 => h9) rfl (by decide +kernel) rfl rfl (Nat.le_of_ble_eq_true rfl) d_Mo_area_62 (fun H locs hP hD hS => ?_)
                have hP : va_P D vwCl [(g0, .inr (6, [.int 2, .int ar, .ref m_sea, .ref m_center, .ref m_home, .ref m_borders, .int mp, .int mt, .ref m_owner, .ref m_units, .ref m_kind, .ref m_toX, .ref m_toY, .ref m_results, .ref m_known, .ref m_reached, .ref m_way, .ref m_aside, .ref m_origin, .ref m_retreats, .ref m_contested, .ref m_moved, .int msh, .ref m_past]))] H := hP
                have hD : va_D A [(g0, .inr (6, [.int 2, .int ar, .ref m_sea, .ref m_center, .ref m_home, .ref m_borders, .int mp, .int mt, .ref m_owner, .ref m_units, .ref m_kind, .ref m_toX, .ref m_toY, .ref m_results, .ref m_known, .ref m_reached, .ref m_way, .ref m_aside, .ref m_origin, .ref m_retreats, .ref m_contested, .ref m_moved, .int msh, .ref m_past]))] := hD
                refine lv_aload_n hx hb d_Mo_area_65 rfl (lv_at hl 0 rfl) ?_
                refine va_get (D := D) (ci := 6) (v := .int 2) (C := R_Mo) (T := T_Mo) (N := 24) hx hb hts hin_Mo hown hK hP 0 rfl rfl 0 (by decide) (hts _ wd_704) (fun _ h9 => h9) rfl d_Mo_area_66 ?_
                refine lv_if_eq (tgt := 74) hx hb d_Mo_area_69 (by decide) (fun h0 => absurd h0 (by decide)) (fun _ => ?_)
                refine lv_iconst (v := 0) hx hb d_Mo_area_72 (by decide) ?_
                have hP9 := hP.sub (ws' := [(g0, .inr (6, [.int 2, .int ar, .ref m_sea, .ref m_center, .ref m_home, .ref m_borders, .int mp, .int mt, .ref m_owner, .ref m_units, .ref m_kind, .ref m_toX, .ref m_toY, .ref m_results, .ref m_known, .ref m_reached, .ref m_way, .ref m_aside, .ref m_origin, .ref m_retreats, .ref m_contested, .ref m_moved, .int msh, .ref m_past]))]) [0] rfl
                have hD9 := hD.sub (ws' := [(g0, .inr (6, [.int 2, .int ar, .ref m_sea, .ref m_center, .ref m_home, .ref m_borders, .int mp, .int mt, .ref m_owner, .ref m_units, .ref m_kind, .ref m_toX, .ref m_toY, .ref m_results, .ref m_known, .ref m_reached, .ref m_way, .ref m_aside, .ref m_origin, .ref m_retreats, .ref m_contested, .ref m_moved, .int msh, .ref m_past]))]) [0] (by decide) rfl
                exact W.iret (v := 0) hx hb hr (fun t ht hW => ⟨⟨0, (), rfl, rfl, by rw [ht]; exact hP9, hD9⟩, hS.F ht⟩) hS.2.2 d_Mo_area_73
              · -- 47 not taken
                refine lv_aload_n hx hb d_Mo_area_50 rfl (lv_at hl 0 rfl) ?_
                refine va_get (D := D) (ci := 6) (v := .int mp) (C := R_Mo) (T := T_Mo) (N := 24) hx hb hts hin_Mo hown hK hP 0 rfl rfl 6 (by decide) (hts _ wd_710) (fun _ h9 => h9) rfl d_Mo_area_51 ?_
                refine lv_if_eq (tgt := 61) hx hb d_Mo_area_54 (by decide) (fun hc9 => ?_) (fun hc9 => ?_)
                · -- 54 taken
                  exact False.elim (by revert hph har hc1 hc2 hc3 hc4 hc5 hc6 hc7 hc9; simp only [Int32.lt_iff_toInt_lt, Int32.le_iff_toInt_le, ← Int32.toInt_inj, Int32.reduceToInt, i32_m1]; omega)
                · -- 54 not taken
                  refine lv_iconst (v := 2) hx hb d_Mo_area_57 (by decide) ?_
                  refine lv_goto (tgt := 62) hx hb d_Mo_area_58 (by decide) ?_
                  refine va_put (D := D) (ci := 6) (v := .int 2) (ty := .int) (C := R_Mo) (T := T_Mo) (N := 24) hx hb hts hin_Mo ty_Mo tyok_Mo nm_Mo hown hK hP hD hS 0 rfl rfl 0 (by decide) (hts _ wd_704) (fun _ h9 => h9) rfl (by decide +kernel) rfl rfl (Nat.le_of_ble_eq_true rfl) d_Mo_area_62 (fun H locs hP hD hS => ?_)
                  have hP : va_P D vwCl [(g0, .inr (6, [.int 2, .int ar, .ref m_sea, .ref m_center, .ref m_home, .ref m_borders, .int mp, .int mt, .ref m_owner, .ref m_units, .ref m_kind, .ref m_toX, .ref m_toY, .ref m_results, .ref m_known, .ref m_reached, .ref m_way, .ref m_aside, .ref m_origin, .ref m_retreats, .ref m_contested, .ref m_moved, .int msh, .ref m_past]))] H := hP
                  have hD : va_D A [(g0, .inr (6, [.int 2, .int ar, .ref m_sea, .ref m_center, .ref m_home, .ref m_borders, .int mp, .int mt, .ref m_owner, .ref m_units, .ref m_kind, .ref m_toX, .ref m_toY, .ref m_results, .ref m_known, .ref m_reached, .ref m_way, .ref m_aside, .ref m_origin, .ref m_retreats, .ref m_contested, .ref m_moved, .int msh, .ref m_past]))] := hD
                  refine lv_aload_n hx hb d_Mo_area_65 rfl (lv_at hl 0 rfl) ?_
                  refine va_get (D := D) (ci := 6) (v := .int 2) (C := R_Mo) (T := T_Mo) (N := 24) hx hb hts hin_Mo hown hK hP 0 rfl rfl 0 (by decide) (hts _ wd_704) (fun _ h9 => h9) rfl d_Mo_area_66 ?_
                  refine lv_if_eq (tgt := 74) hx hb d_Mo_area_69 (by decide) (fun h0 => absurd h0 (by decide)) (fun _ => ?_)
                  refine lv_iconst (v := 0) hx hb d_Mo_area_72 (by decide) ?_
                  have hP9 := hP.sub (ws' := [(g0, .inr (6, [.int 2, .int ar, .ref m_sea, .ref m_center, .ref m_home, .ref m_borders, .int mp, .int mt, .ref m_owner, .ref m_units, .ref m_kind, .ref m_toX, .ref m_toY, .ref m_results, .ref m_known, .ref m_reached, .ref m_way, .ref m_aside, .ref m_origin, .ref m_retreats, .ref m_contested, .ref m_moved, .int msh, .ref m_past]))]) [0] rfl
                  have hD9 := hD.sub (ws' := [(g0, .inr (6, [.int 2, .int ar, .ref m_sea, .ref m_center, .ref m_home, .ref m_borders, .int mp, .int mt, .ref m_owner, .ref m_units, .ref m_kind, .ref m_toX, .ref m_toY, .ref m_results, .ref m_known, .ref m_reached, .ref m_way, .ref m_aside, .ref m_origin, .ref m_retreats, .ref m_contested, .ref m_moved, .int msh, .ref m_past]))]) [0] (by decide) rfl
                  exact W.iret (v := 0) hx hb hr (fun t ht hW => ⟨⟨0, (), rfl, rfl, by rw [ht]; exact hP9, hD9⟩, hS.F ht⟩) hS.2.2 d_Mo_area_73
            · -- 30 not taken
              refine lv_iload_n hx hb d_Mo_area_33 rfl (lv_at hl 2 rfl) ?_
              refine lv_if_ne (tgt := 41) hx hb d_Mo_area_34 (by decide) (fun h0 => absurd hc5 h0) (fun _ => ?_)
              exact False.elim (by unfold okA at hok; revert hok hc1 hc2 hc3 hc4 hc5 hc6; simp only [Int32.lt_iff_toInt_lt, Int32.le_iff_toInt_le, ← Int32.toInt_inj, Int32.reduceToInt, i32_m1]; omega)
          · -- 21 not taken
            refine lv_iload_n hx hb d_Mo_area_24 rfl (lv_at hl 1 rfl) ?_
            refine lv_iconst (v := 1) hx hb d_Mo_area_25 (by decide) ?_
            refine lv_icmp_eq (tgt := 37) hx hb d_Mo_area_26 (by decide) (fun hc12 => ?_) (fun hc12 => ?_)
            · -- 26 taken
              exact False.elim (by unfold okA at hok; revert hok hc1 hc2 hc3 hc4 hc5 hc12; simp only [Int32.lt_iff_toInt_lt, Int32.le_iff_toInt_le, ← Int32.toInt_inj, Int32.reduceToInt, i32_m1]; omega)
            · -- 26 not taken
              refine lv_iload_n hx hb d_Mo_area_29 rfl (lv_at hl 3 rfl) ?_
              refine lv_if_lt (tgt := 41) hx hb d_Mo_area_30 (by decide) (fun hc13 => ?_) (fun hc13 => ?_)
              · -- 30 taken
                refine lv_aload_n hx hb d_Mo_area_41 rfl (lv_at hl 0 rfl) ?_
                refine va_get (D := D) (ci := 6) (v := .int ar) (C := R_Mo) (T := T_Mo) (N := 24) hx hb hts hin_Mo hown hK hP 0 rfl rfl 1 (by decide) (hts _ wd_705) (fun _ h9 => h9) rfl d_Mo_area_42 ?_
                refine lv_bipush (v := 12) hx hb d_Mo_area_45 (by decide) ?_
                refine lv_icmp_eq (tgt := 57) hx hb d_Mo_area_47 (by decide) (fun hc14 => ?_) (fun hc14 => ?_)
                · -- 47 taken
                  refine lv_iconst (v := 2) hx hb d_Mo_area_57 (by decide) ?_
                  refine lv_goto (tgt := 62) hx hb d_Mo_area_58 (by decide) ?_
                  refine va_put (D := D) (ci := 6) (v := .int 2) (ty := .int) (C := R_Mo) (T := T_Mo) (N := 24) hx hb hts hin_Mo ty_Mo tyok_Mo nm_Mo hown hK hP hD hS 0 rfl rfl 0 (by decide) (hts _ wd_704) (fun _ h9 => h9) rfl (by decide +kernel) rfl rfl (Nat.le_of_ble_eq_true rfl) d_Mo_area_62 (fun H locs hP hD hS => ?_)
                  have hP : va_P D vwCl [(g0, .inr (6, [.int 2, .int ar, .ref m_sea, .ref m_center, .ref m_home, .ref m_borders, .int mp, .int mt, .ref m_owner, .ref m_units, .ref m_kind, .ref m_toX, .ref m_toY, .ref m_results, .ref m_known, .ref m_reached, .ref m_way, .ref m_aside, .ref m_origin, .ref m_retreats, .ref m_contested, .ref m_moved, .int msh, .ref m_past]))] H := hP
                  have hD : va_D A [(g0, .inr (6, [.int 2, .int ar, .ref m_sea, .ref m_center, .ref m_home, .ref m_borders, .int mp, .int mt, .ref m_owner, .ref m_units, .ref m_kind, .ref m_toX, .ref m_toY, .ref m_results, .ref m_known, .ref m_reached, .ref m_way, .ref m_aside, .ref m_origin, .ref m_retreats, .ref m_contested, .ref m_moved, .int msh, .ref m_past]))] := hD
                  refine lv_aload_n hx hb d_Mo_area_65 rfl (lv_at hl 0 rfl) ?_
                  refine va_get (D := D) (ci := 6) (v := .int 2) (C := R_Mo) (T := T_Mo) (N := 24) hx hb hts hin_Mo hown hK hP 0 rfl rfl 0 (by decide) (hts _ wd_704) (fun _ h9 => h9) rfl d_Mo_area_66 ?_
                  refine lv_if_eq (tgt := 74) hx hb d_Mo_area_69 (by decide) (fun h0 => absurd h0 (by decide)) (fun _ => ?_)
                  refine lv_iconst (v := 0) hx hb d_Mo_area_72 (by decide) ?_
                  have hP9 := hP.sub (ws' := [(g0, .inr (6, [.int 2, .int ar, .ref m_sea, .ref m_center, .ref m_home, .ref m_borders, .int mp, .int mt, .ref m_owner, .ref m_units, .ref m_kind, .ref m_toX, .ref m_toY, .ref m_results, .ref m_known, .ref m_reached, .ref m_way, .ref m_aside, .ref m_origin, .ref m_retreats, .ref m_contested, .ref m_moved, .int msh, .ref m_past]))]) [0] rfl
                  have hD9 := hD.sub (ws' := [(g0, .inr (6, [.int 2, .int ar, .ref m_sea, .ref m_center, .ref m_home, .ref m_borders, .int mp, .int mt, .ref m_owner, .ref m_units, .ref m_kind, .ref m_toX, .ref m_toY, .ref m_results, .ref m_known, .ref m_reached, .ref m_way, .ref m_aside, .ref m_origin, .ref m_retreats, .ref m_contested, .ref m_moved, .int msh, .ref m_past]))]) [0] (by decide) rfl
                  exact W.iret (v := 0) hx hb hr (fun t ht hW => ⟨⟨0, (), rfl, rfl, by rw [ht]; exact hP9, hD9⟩, hS.F ht⟩) hS.2.2 d_Mo_area_73
                · -- 47 not taken
                  refine lv_aload_n hx hb d_Mo_area_50 rfl (lv_at hl 0 rfl) ?_
                  refine va_get (D := D) (ci := 6) (v := .int mp) (C := R_Mo) (T := T_Mo) (N := 24) hx hb hts hin_Mo hown hK hP 0 rfl rfl 6 (by decide) (hts _ wd_710) (fun _ h9 => h9) rfl d_Mo_area_51 ?_
                  refine lv_if_eq (tgt := 61) hx hb d_Mo_area_54 (by decide) (fun hc16 => ?_) (fun hc16 => ?_)
                  · -- 54 taken
                    exact False.elim (by revert hph har hc1 hc2 hc3 hc4 hc5 hc12 hc13 hc14 hc16; simp only [Int32.lt_iff_toInt_lt, Int32.le_iff_toInt_le, ← Int32.toInt_inj, Int32.reduceToInt, i32_m1]; omega)
                  · -- 54 not taken
                    refine lv_iconst (v := 2) hx hb d_Mo_area_57 (by decide) ?_
                    refine lv_goto (tgt := 62) hx hb d_Mo_area_58 (by decide) ?_
                    refine va_put (D := D) (ci := 6) (v := .int 2) (ty := .int) (C := R_Mo) (T := T_Mo) (N := 24) hx hb hts hin_Mo ty_Mo tyok_Mo nm_Mo hown hK hP hD hS 0 rfl rfl 0 (by decide) (hts _ wd_704) (fun _ h9 => h9) rfl (by decide +kernel) rfl rfl (Nat.le_of_ble_eq_true rfl) d_Mo_area_62 (fun H locs hP hD hS => ?_)
                    have hP : va_P D vwCl [(g0, .inr (6, [.int 2, .int ar, .ref m_sea, .ref m_center, .ref m_home, .ref m_borders, .int mp, .int mt, .ref m_owner, .ref m_units, .ref m_kind, .ref m_toX, .ref m_toY, .ref m_results, .ref m_known, .ref m_reached, .ref m_way, .ref m_aside, .ref m_origin, .ref m_retreats, .ref m_contested, .ref m_moved, .int msh, .ref m_past]))] H := hP
                    have hD : va_D A [(g0, .inr (6, [.int 2, .int ar, .ref m_sea, .ref m_center, .ref m_home, .ref m_borders, .int mp, .int mt, .ref m_owner, .ref m_units, .ref m_kind, .ref m_toX, .ref m_toY, .ref m_results, .ref m_known, .ref m_reached, .ref m_way, .ref m_aside, .ref m_origin, .ref m_retreats, .ref m_contested, .ref m_moved, .int msh, .ref m_past]))] := hD
                    refine lv_aload_n hx hb d_Mo_area_65 rfl (lv_at hl 0 rfl) ?_
                    refine va_get (D := D) (ci := 6) (v := .int 2) (C := R_Mo) (T := T_Mo) (N := 24) hx hb hts hin_Mo hown hK hP 0 rfl rfl 0 (by decide) (hts _ wd_704) (fun _ h9 => h9) rfl d_Mo_area_66 ?_
                    refine lv_if_eq (tgt := 74) hx hb d_Mo_area_69 (by decide) (fun h0 => absurd h0 (by decide)) (fun _ => ?_)
                    refine lv_iconst (v := 0) hx hb d_Mo_area_72 (by decide) ?_
                    have hP9 := hP.sub (ws' := [(g0, .inr (6, [.int 2, .int ar, .ref m_sea, .ref m_center, .ref m_home, .ref m_borders, .int mp, .int mt, .ref m_owner, .ref m_units, .ref m_kind, .ref m_toX, .ref m_toY, .ref m_results, .ref m_known, .ref m_reached, .ref m_way, .ref m_aside, .ref m_origin, .ref m_retreats, .ref m_contested, .ref m_moved, .int msh, .ref m_past]))]) [0] rfl
                    have hD9 := hD.sub (ws' := [(g0, .inr (6, [.int 2, .int ar, .ref m_sea, .ref m_center, .ref m_home, .ref m_borders, .int mp, .int mt, .ref m_owner, .ref m_units, .ref m_kind, .ref m_toX, .ref m_toY, .ref m_results, .ref m_known, .ref m_reached, .ref m_way, .ref m_aside, .ref m_origin, .ref m_retreats, .ref m_contested, .ref m_moved, .int msh, .ref m_past]))]) [0] (by decide) rfl
                    exact W.iret (v := 0) hx hb hr (fun t ht hW => ⟨⟨0, (), rfl, rfl, by rw [ht]; exact hP9, hD9⟩, hS.F ht⟩) hS.2.2 d_Mo_area_73
              · -- 30 not taken
                refine lv_iload_n hx hb d_Mo_area_33 rfl (lv_at hl 2 rfl) ?_
                refine lv_if_ne (tgt := 41) hx hb d_Mo_area_34 (by decide) (fun _ => ?_) (fun h0 => absurd h0 hc5)
                refine lv_aload_n hx hb d_Mo_area_41 rfl (lv_at hl 0 rfl) ?_
                refine va_get (D := D) (ci := 6) (v := .int ar) (C := R_Mo) (T := T_Mo) (N := 24) hx hb hts hin_Mo hown hK hP 0 rfl rfl 1 (by decide) (hts _ wd_705) (fun _ h9 => h9) rfl d_Mo_area_42 ?_
                refine lv_bipush (v := 12) hx hb d_Mo_area_45 (by decide) ?_
                refine lv_icmp_eq (tgt := 57) hx hb d_Mo_area_47 (by decide) (fun hc19 => ?_) (fun hc19 => ?_)
                · -- 47 taken
                  refine lv_iconst (v := 2) hx hb d_Mo_area_57 (by decide) ?_
                  refine lv_goto (tgt := 62) hx hb d_Mo_area_58 (by decide) ?_
                  refine va_put (D := D) (ci := 6) (v := .int 2) (ty := .int) (C := R_Mo) (T := T_Mo) (N := 24) hx hb hts hin_Mo ty_Mo tyok_Mo nm_Mo hown hK hP hD hS 0 rfl rfl 0 (by decide) (hts _ wd_704) (fun _ h9 => h9) rfl (by decide +kernel) rfl rfl (Nat.le_of_ble_eq_true rfl) d_Mo_area_62 (fun H locs hP hD hS => ?_)
                  have hP : va_P D vwCl [(g0, .inr (6, [.int 2, .int ar, .ref m_sea, .ref m_center, .ref m_home, .ref m_borders, .int mp, .int mt, .ref m_owner, .ref m_units, .ref m_kind, .ref m_toX, .ref m_toY, .ref m_results, .ref m_known, .ref m_reached, .ref m_way, .ref m_aside, .ref m_origin, .ref m_retreats, .ref m_contested, .ref m_moved, .int msh, .ref m_past]))] H := hP
                  have hD : va_D A [(g0, .inr (6, [.int 2, .int ar, .ref m_sea, .ref m_center, .ref m_home, .ref m_borders, .int mp, .int mt, .ref m_owner, .ref m_units, .ref m_kind, .ref m_toX, .ref m_toY, .ref m_results, .ref m_known, .ref m_reached, .ref m_way, .ref m_aside, .ref m_origin, .ref m_retreats, .ref m_contested, .ref m_moved, .int msh, .ref m_past]))] := hD
                  refine lv_aload_n hx hb d_Mo_area_65 rfl (lv_at hl 0 rfl) ?_
                  refine va_get (D := D) (ci := 6) (v := .int 2) (C := R_Mo) (T := T_Mo) (N := 24) hx hb hts hin_Mo hown hK hP 0 rfl rfl 0 (by decide) (hts _ wd_704) (fun _ h9 => h9) rfl d_Mo_area_66 ?_
                  refine lv_if_eq (tgt := 74) hx hb d_Mo_area_69 (by decide) (fun h0 => absurd h0 (by decide)) (fun _ => ?_)
                  refine lv_iconst (v := 0) hx hb d_Mo_area_72 (by decide) ?_
                  have hP9 := hP.sub (ws' := [(g0, .inr (6, [.int 2, .int ar, .ref m_sea, .ref m_center, .ref m_home, .ref m_borders, .int mp, .int mt, .ref m_owner, .ref m_units, .ref m_kind, .ref m_toX, .ref m_toY, .ref m_results, .ref m_known, .ref m_reached, .ref m_way, .ref m_aside, .ref m_origin, .ref m_retreats, .ref m_contested, .ref m_moved, .int msh, .ref m_past]))]) [0] rfl
                  have hD9 := hD.sub (ws' := [(g0, .inr (6, [.int 2, .int ar, .ref m_sea, .ref m_center, .ref m_home, .ref m_borders, .int mp, .int mt, .ref m_owner, .ref m_units, .ref m_kind, .ref m_toX, .ref m_toY, .ref m_results, .ref m_known, .ref m_reached, .ref m_way, .ref m_aside, .ref m_origin, .ref m_retreats, .ref m_contested, .ref m_moved, .int msh, .ref m_past]))]) [0] (by decide) rfl
                  exact W.iret (v := 0) hx hb hr (fun t ht hW => ⟨⟨0, (), rfl, rfl, by rw [ht]; exact hP9, hD9⟩, hS.F ht⟩) hS.2.2 d_Mo_area_73
                · -- 47 not taken
                  refine lv_aload_n hx hb d_Mo_area_50 rfl (lv_at hl 0 rfl) ?_
                  refine va_get (D := D) (ci := 6) (v := .int mp) (C := R_Mo) (T := T_Mo) (N := 24) hx hb hts hin_Mo hown hK hP 0 rfl rfl 6 (by decide) (hts _ wd_710) (fun _ h9 => h9) rfl d_Mo_area_51 ?_
                  refine lv_if_eq (tgt := 61) hx hb d_Mo_area_54 (by decide) (fun hc21 => ?_) (fun hc21 => ?_)
                  · -- 54 taken
                    exact False.elim (by revert hph har hc1 hc2 hc3 hc4 hc5 hc12 hc13 hc19 hc21; simp only [Int32.lt_iff_toInt_lt, Int32.le_iff_toInt_le, ← Int32.toInt_inj, Int32.reduceToInt, i32_m1]; omega)
                  · -- 54 not taken
                    refine lv_iconst (v := 2) hx hb d_Mo_area_57 (by decide) ?_
                    refine lv_goto (tgt := 62) hx hb d_Mo_area_58 (by decide) ?_
                    refine va_put (D := D) (ci := 6) (v := .int 2) (ty := .int) (C := R_Mo) (T := T_Mo) (N := 24) hx hb hts hin_Mo ty_Mo tyok_Mo nm_Mo hown hK hP hD hS 0 rfl rfl 0 (by decide) (hts _ wd_704) (fun _ h9 => h9) rfl (by decide +kernel) rfl rfl (Nat.le_of_ble_eq_true rfl) d_Mo_area_62 (fun H locs hP hD hS => ?_)
                    have hP : va_P D vwCl [(g0, .inr (6, [.int 2, .int ar, .ref m_sea, .ref m_center, .ref m_home, .ref m_borders, .int mp, .int mt, .ref m_owner, .ref m_units, .ref m_kind, .ref m_toX, .ref m_toY, .ref m_results, .ref m_known, .ref m_reached, .ref m_way, .ref m_aside, .ref m_origin, .ref m_retreats, .ref m_contested, .ref m_moved, .int msh, .ref m_past]))] H := hP
                    have hD : va_D A [(g0, .inr (6, [.int 2, .int ar, .ref m_sea, .ref m_center, .ref m_home, .ref m_borders, .int mp, .int mt, .ref m_owner, .ref m_units, .ref m_kind, .ref m_toX, .ref m_toY, .ref m_results, .ref m_known, .ref m_reached, .ref m_way, .ref m_aside, .ref m_origin, .ref m_retreats, .ref m_contested, .ref m_moved, .int msh, .ref m_past]))] := hD
                    refine lv_aload_n hx hb d_Mo_area_65 rfl (lv_at hl 0 rfl) ?_
                    refine va_get (D := D) (ci := 6) (v := .int 2) (C := R_Mo) (T := T_Mo) (N := 24) hx hb hts hin_Mo hown hK hP 0 rfl rfl 0 (by decide) (hts _ wd_704) (fun _ h9 => h9) rfl d_Mo_area_66 ?_
                    refine lv_if_eq (tgt := 74) hx hb d_Mo_area_69 (by decide) (fun h0 => absurd h0 (by decide)) (fun _ => ?_)
                    refine lv_iconst (v := 0) hx hb d_Mo_area_72 (by decide) ?_
                    have hP9 := hP.sub (ws' := [(g0, .inr (6, [.int 2, .int ar, .ref m_sea, .ref m_center, .ref m_home, .ref m_borders, .int mp, .int mt, .ref m_owner, .ref m_units, .ref m_kind, .ref m_toX, .ref m_toY, .ref m_results, .ref m_known, .ref m_reached, .ref m_way, .ref m_aside, .ref m_origin, .ref m_retreats, .ref m_contested, .ref m_moved, .int msh, .ref m_past]))]) [0] rfl
                    have hD9 := hD.sub (ws' := [(g0, .inr (6, [.int 2, .int ar, .ref m_sea, .ref m_center, .ref m_home, .ref m_borders, .int mp, .int mt, .ref m_owner, .ref m_units, .ref m_kind, .ref m_toX, .ref m_toY, .ref m_results, .ref m_known, .ref m_reached, .ref m_way, .ref m_aside, .ref m_origin, .ref m_retreats, .ref m_contested, .ref m_moved, .int msh, .ref m_past]))]) [0] (by decide) rfl
                    exact W.iret (v := 0) hx hb hr (fun t ht hW => ⟨⟨0, (), rfl, rfl, by rw [ht]; exact hP9, hD9⟩, hS.F ht⟩) hS.2.2 d_Mo_area_73


set_option maxHeartbeats 4000000 in
set_option maxRecDepth 100000 in
theorem c_Mo_resolve_1g (l : Launch) (D : va_G) (cI cZ cJ cS : ClassId) (aT : Nat) (ceT : Cell) (sz : Nat) (g0 m_sea m_center m_home m_borders m_owner m_units m_kind m_toX m_toY m_results m_known m_reached m_way m_aside m_origin m_retreats m_contested m_moved m_past : Nat) (co ar mp mt msh : Int32) (hph : ¬ mp = 1) : Met l y_Mo_resolve w_Mo_resolve ({ frames := 1, cells := 0, slots := 0, locals := 21 }) (tH D cI cZ cJ cS aT ceT [.ref g0] sz [(g0, .inr (6, [.int co, .int ar, .ref m_sea, .ref m_center, .ref m_home, .ref m_borders, .int mp, .int mt, .ref m_owner, .ref m_units, .ref m_kind, .ref m_toX, .ref m_toY, .ref m_results, .ref m_known, .ref m_reached, .ref m_way, .ref m_aside, .ref m_origin, .ref m_retreats, .ref m_contested, .ref m_moved, .int msh, .ref m_past]))]) (va_Qi (fun (r : Int32) (_ : Unit) => r = 0) (fun _ t => tB D (va_A [(g0, .inr (6, [.int co, .int ar, .ref m_sea, .ref m_center, .ref m_home, .ref m_borders, .int mp, .int mt, .ref m_owner, .ref m_units, .ref m_kind, .ref m_toX, .ref m_toY, .ref m_results, .ref m_known, .ref m_reached, .ref m_way, .ref m_aside, .ref m_origin, .ref m_retreats, .ref m_contested, .ref m_moved, .int msh, .ref m_past]))] sz) [(g0, .inr (6, [.int 1, .int ar, .ref m_sea, .ref m_center, .ref m_home, .ref m_borders, .int mp, .int mt, .ref m_owner, .ref m_units, .ref m_kind, .ref m_toX, .ref m_toY, .ref m_results, .ref m_known, .ref m_reached, .ref m_way, .ref m_aside, .ref m_origin, .ref m_retreats, .ref m_contested, .ref m_moved, .int msh, .ref m_past]))] t) (va_A [(g0, .inr (6, [.int co, .int ar, .ref m_sea, .ref m_center, .ref m_home, .ref m_borders, .int mp, .int mt, .ref m_owner, .ref m_units, .ref m_kind, .ref m_toX, .ref m_toY, .ref m_results, .ref m_known, .ref m_reached, .ref m_way, .ref m_aside, .ref m_origin, .ref m_retreats, .ref m_contested, .ref m_moved, .int msh, .ref m_past]))] sz)) 0 0 (va_A [(g0, .inr (6, [.int co, .int ar, .ref m_sea, .ref m_center, .ref m_home, .ref m_borders, .int mp, .int mt, .ref m_owner, .ref m_units, .ref m_kind, .ref m_toX, .ref m_toY, .ref m_results, .ref m_known, .ref m_reached, .ref m_way, .ref m_aside, .ref m_origin, .ref m_retreats, .ref m_contested, .ref m_moved, .int msh, .ref m_past]))] sz) := by
  refine Met.ofW (cc := b_Mo_resolve) (maxL := 4) (ret := (some .int)) (by decide) rfl ?_
  intro p e s m args below meth c s₁ B hml hv
  obtain ⟨rfl, hsz, hP, hK, hD0, hX⟩ := hv
  have hx := B.exec
  have hb := B.bytes
  have hr := B.returns
  have hts0 := atoms_spec (ws := w_Mo_resolve) B.pre
  have hts : ∀ w ∈ TB, w.before _ s = true := fun w h => hts0 w (List.mem_cons_of_mem _ h)
  have hown : s.vm.findClass R_Mo = some m.cls := findClass_of_methodNamed B.named
  have hlocks := B.notSynchronized
  subst hsz
  have hXl := tx_lt hX
  have hXn := tx_far hP hX
  have hD := hD0.self (sz := s.heap.size)
  generalize hAe : va_A [(g0, .inr (6, [.int co, .int ar, .ref m_sea, .ref m_center, .ref m_home, .ref m_borders, .int mp, .int mt, .ref m_owner, .ref m_units, .ref m_kind, .ref m_toX, .ref m_toY, .ref m_results, .ref m_known, .ref m_reached, .ref m_way, .ref m_aside, .ref m_origin, .ref m_retreats, .ref m_contested, .ref m_moved, .int msh, .ref m_past]))] s.heap.size = A at hD hXn ⊢
  have hA : ∀ q : Nat, s.heap.size ≤ q → A q := fun q h => by rw [← hAe]; exact Or.inr h
  have hS : va_S A s.heap s.heap [] := va_S.rf
  have hXH : s.heap[aT]? = s.heap[aT]? := rfl
  have hl := lv_entry ([.ref g0]) (n := 4) (Nat.le_of_ble_eq_true rfl)
  rw [lg_entry_eq]
  generalize (lg_sl ([.ref g0]) ++ List.replicate (4 - (lg_sl ([.ref g0])).length) Slot.unset).toArray = ls at hl ⊢
  have hl : lv_has ls 4 [(0, .ref g0)] := hl
  refine lv_aload_n hx hb d_Mo_resolve_0 rfl (lv_at hl 0 rfl) ?_
  refine lv_aload_n hx hb d_Mo_resolve_1 rfl (lv_at hl 0 rfl) ?_
  refine va_get (D := D) (ci := 6) (v := .int mp) (C := R_Mo) (T := T_Mo) (N := 24) hx hb hts hin_Mo hown hK hP 0 rfl rfl 6 (by decide) (hts _ wd_710) (fun _ h9 => h9) rfl d_Mo_resolve_2 ?_
  refine lv_iconst (v := 1) hx hb d_Mo_resolve_5 (by decide) ?_
  refine lv_icmp_ne (tgt := 13) hx hb d_Mo_resolve_6 (by decide) (fun hc1 => ?_) (fun hc1 => ?_)
  · -- 6 taken
    refine lv_iconst (v := 1) hx hb d_Mo_resolve_13 (by decide) ?_
    refine va_put (D := D) (ci := 6) (v := .int 1) (ty := .int) (C := R_Mo) (T := T_Mo) (N := 24) hx hb hts hin_Mo ty_Mo tyok_Mo nm_Mo hown hK hP hD hS 0 rfl rfl 0 (by decide) (hts _ wd_704) (fun _ h9 => h9) rfl (by decide +kernel) rfl rfl (Nat.le_of_ble_eq_true rfl) d_Mo_resolve_14 (fun H locs hP hD hS => ?_)
    have hP : va_P D vwCl [(g0, .inr (6, [.int 1, .int ar, .ref m_sea, .ref m_center, .ref m_home, .ref m_borders, .int mp, .int mt, .ref m_owner, .ref m_units, .ref m_kind, .ref m_toX, .ref m_toY, .ref m_results, .ref m_known, .ref m_reached, .ref m_way, .ref m_aside, .ref m_origin, .ref m_retreats, .ref m_contested, .ref m_moved, .int msh, .ref m_past]))] H := hP
    have hD : va_D A [(g0, .inr (6, [.int 1, .int ar, .ref m_sea, .ref m_center, .ref m_home, .ref m_borders, .int mp, .int mt, .ref m_owner, .ref m_units, .ref m_kind, .ref m_toX, .ref m_toY, .ref m_results, .ref m_known, .ref m_reached, .ref m_way, .ref m_aside, .ref m_origin, .ref m_retreats, .ref m_contested, .ref m_moved, .int msh, .ref m_past]))] := hD
    refine lv_aload_n hx hb d_Mo_resolve_17 rfl (lv_at hl 0 rfl) ?_
    refine va_get (D := D) (ci := 6) (v := .int 1) (C := R_Mo) (T := T_Mo) (N := 24) hx hb hts hin_Mo hown hK hP 0 rfl rfl 0 (by decide) (hts _ wd_704) (fun _ h9 => h9) rfl d_Mo_resolve_18 ?_
    refine lv_if_eq (tgt := 26) hx hb d_Mo_resolve_21 (by decide) (fun h0 => absurd h0 (by decide)) (fun _ => ?_)
    refine lv_iconst (v := 0) hx hb d_Mo_resolve_24 (by decide) ?_
    have hP9 := hP.sub (ws' := [(g0, .inr (6, [.int 1, .int ar, .ref m_sea, .ref m_center, .ref m_home, .ref m_borders, .int mp, .int mt, .ref m_owner, .ref m_units, .ref m_kind, .ref m_toX, .ref m_toY, .ref m_results, .ref m_known, .ref m_reached, .ref m_way, .ref m_aside, .ref m_origin, .ref m_retreats, .ref m_contested, .ref m_moved, .int msh, .ref m_past]))]) [0] rfl
    have hD9 := hD.sub (ws' := [(g0, .inr (6, [.int 1, .int ar, .ref m_sea, .ref m_center, .ref m_home, .ref m_borders, .int mp, .int mt, .ref m_owner, .ref m_units, .ref m_kind, .ref m_toX, .ref m_toY, .ref m_results, .ref m_known, .ref m_reached, .ref m_way, .ref m_aside, .ref m_origin, .ref m_retreats, .ref m_contested, .ref m_moved, .int msh, .ref m_past]))]) [0] (by decide) rfl
    exact W.iret (v := 0) hx hb hr (fun t ht hW => ⟨⟨0, (), rfl, rfl, by rw [ht]; exact hP9, hD9⟩, hS.F ht⟩) hS.2.2 d_Mo_resolve_25
  · -- 6 not taken
    exact absurd hc1 hph


set_option maxHeartbeats 4000000 in
set_option maxRecDepth 100000 in
theorem c_Mo_finish_1g (l : Launch) (D : va_G) (cI cZ cJ cS : ClassId) (aT : Nat) (ceT : Cell) (sz : Nat) (g0 m_sea m_center m_home m_borders m_owner m_units m_kind m_toX m_toY m_results m_known m_reached m_way m_aside m_origin m_retreats m_contested m_moved m_past : Nat) (co ar mp mt msh : Int32) (hph : ¬ mp = 2 ∧ ¬ mp = 3) : Met l y_Mo_finish w_Mo_finish ({ frames := 1, cells := 0, slots := 0, locals := 21 }) (tH D cI cZ cJ cS aT ceT [.ref g0] sz [(g0, .inr (6, [.int co, .int ar, .ref m_sea, .ref m_center, .ref m_home, .ref m_borders, .int mp, .int mt, .ref m_owner, .ref m_units, .ref m_kind, .ref m_toX, .ref m_toY, .ref m_results, .ref m_known, .ref m_reached, .ref m_way, .ref m_aside, .ref m_origin, .ref m_retreats, .ref m_contested, .ref m_moved, .int msh, .ref m_past]))]) (va_Qi (fun (r : Int32) (_ : Unit) => r = 0) (fun _ t => tB D (va_A [(g0, .inr (6, [.int co, .int ar, .ref m_sea, .ref m_center, .ref m_home, .ref m_borders, .int mp, .int mt, .ref m_owner, .ref m_units, .ref m_kind, .ref m_toX, .ref m_toY, .ref m_results, .ref m_known, .ref m_reached, .ref m_way, .ref m_aside, .ref m_origin, .ref m_retreats, .ref m_contested, .ref m_moved, .int msh, .ref m_past]))] sz) [(g0, .inr (6, [.int 1, .int ar, .ref m_sea, .ref m_center, .ref m_home, .ref m_borders, .int mp, .int mt, .ref m_owner, .ref m_units, .ref m_kind, .ref m_toX, .ref m_toY, .ref m_results, .ref m_known, .ref m_reached, .ref m_way, .ref m_aside, .ref m_origin, .ref m_retreats, .ref m_contested, .ref m_moved, .int msh, .ref m_past]))] t) (va_A [(g0, .inr (6, [.int co, .int ar, .ref m_sea, .ref m_center, .ref m_home, .ref m_borders, .int mp, .int mt, .ref m_owner, .ref m_units, .ref m_kind, .ref m_toX, .ref m_toY, .ref m_results, .ref m_known, .ref m_reached, .ref m_way, .ref m_aside, .ref m_origin, .ref m_retreats, .ref m_contested, .ref m_moved, .int msh, .ref m_past]))] sz)) 0 0 (va_A [(g0, .inr (6, [.int co, .int ar, .ref m_sea, .ref m_center, .ref m_home, .ref m_borders, .int mp, .int mt, .ref m_owner, .ref m_units, .ref m_kind, .ref m_toX, .ref m_toY, .ref m_results, .ref m_known, .ref m_reached, .ref m_way, .ref m_aside, .ref m_origin, .ref m_retreats, .ref m_contested, .ref m_moved, .int msh, .ref m_past]))] sz) := by
  refine Met.ofW (cc := b_Mo_finish) (maxL := 1) (ret := (some .int)) (by decide) rfl ?_
  intro p e s m args below meth c s₁ B hml hv
  obtain ⟨rfl, hsz, hP, hK, hD0, hX⟩ := hv
  have hx := B.exec
  have hb := B.bytes
  have hr := B.returns
  have hts0 := atoms_spec (ws := w_Mo_finish) B.pre
  have hts : ∀ w ∈ TB, w.before _ s = true := fun w h => hts0 w (List.mem_cons_of_mem _ h)
  have hown : s.vm.findClass R_Mo = some m.cls := findClass_of_methodNamed B.named
  have hlocks := B.notSynchronized
  subst hsz
  have hXl := tx_lt hX
  have hXn := tx_far hP hX
  have hD := hD0.self (sz := s.heap.size)
  generalize hAe : va_A [(g0, .inr (6, [.int co, .int ar, .ref m_sea, .ref m_center, .ref m_home, .ref m_borders, .int mp, .int mt, .ref m_owner, .ref m_units, .ref m_kind, .ref m_toX, .ref m_toY, .ref m_results, .ref m_known, .ref m_reached, .ref m_way, .ref m_aside, .ref m_origin, .ref m_retreats, .ref m_contested, .ref m_moved, .int msh, .ref m_past]))] s.heap.size = A at hD hXn ⊢
  have hA : ∀ q : Nat, s.heap.size ≤ q → A q := fun q h => by rw [← hAe]; exact Or.inr h
  have hS : va_S A s.heap s.heap [] := va_S.rf
  have hXH : s.heap[aT]? = s.heap[aT]? := rfl
  have hl := lv_entry ([.ref g0]) (n := 1) (Nat.le_of_ble_eq_true rfl)
  rw [lg_entry_eq]
  generalize (lg_sl ([.ref g0]) ++ List.replicate (1 - (lg_sl ([.ref g0])).length) Slot.unset).toArray = ls at hl ⊢
  have hl : lv_has ls 1 [(0, .ref g0)] := hl
  refine lv_aload_n hx hb d_Mo_finish_0 rfl (lv_at hl 0 rfl) ?_
  refine lv_aload_n hx hb d_Mo_finish_1 rfl (lv_at hl 0 rfl) ?_
  refine va_get (D := D) (ci := 6) (v := .int mp) (C := R_Mo) (T := T_Mo) (N := 24) hx hb hts hin_Mo hown hK hP 0 rfl rfl 6 (by decide) (hts _ wd_710) (fun _ h9 => h9) rfl d_Mo_finish_2 ?_
  refine lv_iconst (v := 2) hx hb d_Mo_finish_5 (by decide) ?_
  refine lv_icmp_eq (tgt := 17) hx hb d_Mo_finish_6 (by decide) (fun hc1 => ?_) (fun hc1 => ?_)
  · -- 6 taken
    exact False.elim (by revert hph hc1; simp only [Int32.lt_iff_toInt_lt, Int32.le_iff_toInt_le, ← Int32.toInt_inj, Int32.reduceToInt, i32_m1]; omega)
  · -- 6 not taken
    refine lv_aload_n hx hb d_Mo_finish_9 rfl (lv_at hl 0 rfl) ?_
    refine va_get (D := D) (ci := 6) (v := .int mp) (C := R_Mo) (T := T_Mo) (N := 24) hx hb hts hin_Mo hown hK hP 0 rfl rfl 6 (by decide) (hts _ wd_710) (fun _ h9 => h9) rfl d_Mo_finish_10 ?_
    refine lv_iconst (v := 3) hx hb d_Mo_finish_13 (by decide) ?_
    refine lv_icmp_ne (tgt := 21) hx hb d_Mo_finish_14 (by decide) (fun hc2 => ?_) (fun hc2 => ?_)
    · -- 14 taken
      refine lv_iconst (v := 1) hx hb d_Mo_finish_21 (by decide) ?_
      refine va_put (D := D) (ci := 6) (v := .int 1) (ty := .int) (C := R_Mo) (T := T_Mo) (N := 24) hx hb hts hin_Mo ty_Mo tyok_Mo nm_Mo hown hK hP hD hS 0 rfl rfl 0 (by decide) (hts _ wd_704) (fun _ h9 => h9) rfl (by decide +kernel) rfl rfl (Nat.le_of_ble_eq_true rfl) d_Mo_finish_22 (fun H locs hP hD hS => ?_)
      have hP : va_P D vwCl [(g0, .inr (6, [.int 1, .int ar, .ref m_sea, .ref m_center, .ref m_home, .ref m_borders, .int mp, .int mt, .ref m_owner, .ref m_units, .ref m_kind, .ref m_toX, .ref m_toY, .ref m_results, .ref m_known, .ref m_reached, .ref m_way, .ref m_aside, .ref m_origin, .ref m_retreats, .ref m_contested, .ref m_moved, .int msh, .ref m_past]))] H := hP
      have hD : va_D A [(g0, .inr (6, [.int 1, .int ar, .ref m_sea, .ref m_center, .ref m_home, .ref m_borders, .int mp, .int mt, .ref m_owner, .ref m_units, .ref m_kind, .ref m_toX, .ref m_toY, .ref m_results, .ref m_known, .ref m_reached, .ref m_way, .ref m_aside, .ref m_origin, .ref m_retreats, .ref m_contested, .ref m_moved, .int msh, .ref m_past]))] := hD
      refine lv_aload_n hx hb d_Mo_finish_25 rfl (lv_at hl 0 rfl) ?_
      refine va_get (D := D) (ci := 6) (v := .int 1) (C := R_Mo) (T := T_Mo) (N := 24) hx hb hts hin_Mo hown hK hP 0 rfl rfl 0 (by decide) (hts _ wd_704) (fun _ h9 => h9) rfl d_Mo_finish_26 ?_
      refine lv_if_eq (tgt := 34) hx hb d_Mo_finish_29 (by decide) (fun h0 => absurd h0 (by decide)) (fun _ => ?_)
      refine lv_iconst (v := 0) hx hb d_Mo_finish_32 (by decide) ?_
      have hP9 := hP.sub (ws' := [(g0, .inr (6, [.int 1, .int ar, .ref m_sea, .ref m_center, .ref m_home, .ref m_borders, .int mp, .int mt, .ref m_owner, .ref m_units, .ref m_kind, .ref m_toX, .ref m_toY, .ref m_results, .ref m_known, .ref m_reached, .ref m_way, .ref m_aside, .ref m_origin, .ref m_retreats, .ref m_contested, .ref m_moved, .int msh, .ref m_past]))]) [0] rfl
      have hD9 := hD.sub (ws' := [(g0, .inr (6, [.int 1, .int ar, .ref m_sea, .ref m_center, .ref m_home, .ref m_borders, .int mp, .int mt, .ref m_owner, .ref m_units, .ref m_kind, .ref m_toX, .ref m_toY, .ref m_results, .ref m_known, .ref m_reached, .ref m_way, .ref m_aside, .ref m_origin, .ref m_retreats, .ref m_contested, .ref m_moved, .int msh, .ref m_past]))]) [0] (by decide) rfl
      exact W.iret (v := 0) hx hb hr (fun t ht hW => ⟨⟨0, (), rfl, rfl, by rw [ht]; exact hP9, hD9⟩, hS.F ht⟩) hS.2.2 d_Mo_finish_33
    · -- 14 not taken
      exact False.elim (by revert hph hc1 hc2; simp only [Int32.lt_iff_toInt_lt, Int32.le_iff_toInt_le, ← Int32.toInt_inj, Int32.reduceToInt, i32_m1]; omega)


set_option maxHeartbeats 4000000 in
set_option maxRecDepth 100000 in
theorem c_Mo_start_1g (l : Launch) (D : va_G) (cI cZ cJ cS : ClassId) (aT : Nat) (ceT : Cell) (sz : Nat) (g0 m_sea m_center m_home m_borders m_owner m_units m_kind m_toX m_toY m_results m_known m_reached m_way m_aside m_origin m_retreats m_contested m_moved m_past : Nat) (co ar mp mt msh : Int32) (hph : ¬ mp = 0) : Met l y_Mo_start w_Mo_start ({ frames := 1, cells := 0, slots := 0, locals := 21 }) (tH D cI cZ cJ cS aT ceT [.ref g0] sz [(g0, .inr (6, [.int co, .int ar, .ref m_sea, .ref m_center, .ref m_home, .ref m_borders, .int mp, .int mt, .ref m_owner, .ref m_units, .ref m_kind, .ref m_toX, .ref m_toY, .ref m_results, .ref m_known, .ref m_reached, .ref m_way, .ref m_aside, .ref m_origin, .ref m_retreats, .ref m_contested, .ref m_moved, .int msh, .ref m_past]))]) (va_Qv (fun _ : Unit => True) (fun _ t => tB D (va_A [(g0, .inr (6, [.int co, .int ar, .ref m_sea, .ref m_center, .ref m_home, .ref m_borders, .int mp, .int mt, .ref m_owner, .ref m_units, .ref m_kind, .ref m_toX, .ref m_toY, .ref m_results, .ref m_known, .ref m_reached, .ref m_way, .ref m_aside, .ref m_origin, .ref m_retreats, .ref m_contested, .ref m_moved, .int msh, .ref m_past]))] sz) [(g0, .inr (6, [.int 1, .int ar, .ref m_sea, .ref m_center, .ref m_home, .ref m_borders, .int mp, .int mt, .ref m_owner, .ref m_units, .ref m_kind, .ref m_toX, .ref m_toY, .ref m_results, .ref m_known, .ref m_reached, .ref m_way, .ref m_aside, .ref m_origin, .ref m_retreats, .ref m_contested, .ref m_moved, .int msh, .ref m_past]))] t) (va_A [(g0, .inr (6, [.int co, .int ar, .ref m_sea, .ref m_center, .ref m_home, .ref m_borders, .int mp, .int mt, .ref m_owner, .ref m_units, .ref m_kind, .ref m_toX, .ref m_toY, .ref m_results, .ref m_known, .ref m_reached, .ref m_way, .ref m_aside, .ref m_origin, .ref m_retreats, .ref m_contested, .ref m_moved, .int msh, .ref m_past]))] sz)) 0 0 (va_A [(g0, .inr (6, [.int co, .int ar, .ref m_sea, .ref m_center, .ref m_home, .ref m_borders, .int mp, .int mt, .ref m_owner, .ref m_units, .ref m_kind, .ref m_toX, .ref m_toY, .ref m_results, .ref m_known, .ref m_reached, .ref m_way, .ref m_aside, .ref m_origin, .ref m_retreats, .ref m_contested, .ref m_moved, .int msh, .ref m_past]))] sz) := by
  refine Met.ofW (cc := b_Mo_start) (maxL := 1) (ret := none) (by decide) rfl ?_
  intro p e s m args below meth c s₁ B hml hv
  obtain ⟨rfl, hsz, hP, hK, hD0, hX⟩ := hv
  have hx := B.exec
  have hb := B.bytes
  have hr := B.returns
  have hts0 := atoms_spec (ws := w_Mo_start) B.pre
  have hts : ∀ w ∈ TB, w.before _ s = true := fun w h => hts0 w (List.mem_cons_of_mem _ h)
  have hown : s.vm.findClass R_Mo = some m.cls := findClass_of_methodNamed B.named
  have hlocks := B.notSynchronized
  subst hsz
  have hXl := tx_lt hX
  have hXn := tx_far hP hX
  have hD := hD0.self (sz := s.heap.size)
  generalize hAe : va_A [(g0, .inr (6, [.int co, .int ar, .ref m_sea, .ref m_center, .ref m_home, .ref m_borders, .int mp, .int mt, .ref m_owner, .ref m_units, .ref m_kind, .ref m_toX, .ref m_toY, .ref m_results, .ref m_known, .ref m_reached, .ref m_way, .ref m_aside, .ref m_origin, .ref m_retreats, .ref m_contested, .ref m_moved, .int msh, .ref m_past]))] s.heap.size = A at hD hXn ⊢
  have hA : ∀ q : Nat, s.heap.size ≤ q → A q := fun q h => by rw [← hAe]; exact Or.inr h
  have hS : va_S A s.heap s.heap [] := va_S.rf
  have hXH : s.heap[aT]? = s.heap[aT]? := rfl
  have hl := lv_entry ([.ref g0]) (n := 1) (Nat.le_of_ble_eq_true rfl)
  rw [lg_entry_eq]
  generalize (lg_sl ([.ref g0]) ++ List.replicate (1 - (lg_sl ([.ref g0])).length) Slot.unset).toArray = ls at hl ⊢
  have hl : lv_has ls 1 [(0, .ref g0)] := hl
  refine lv_aload_n hx hb d_Mo_start_0 rfl (lv_at hl 0 rfl) ?_
  refine lv_aload_n hx hb d_Mo_start_1 rfl (lv_at hl 0 rfl) ?_
  refine va_get (D := D) (ci := 6) (v := .int mp) (C := R_Mo) (T := T_Mo) (N := 24) hx hb hts hin_Mo hown hK hP 0 rfl rfl 6 (by decide) (hts _ wd_710) (fun _ h9 => h9) rfl d_Mo_start_2 ?_
  refine lv_if_ne (tgt := 12) hx hb d_Mo_start_5 (by decide) (fun hc1 => ?_) (fun hc1 => ?_)
  · -- 5 taken
    refine lv_iconst (v := 1) hx hb d_Mo_start_12 (by decide) ?_
    refine va_put (D := D) (ci := 6) (v := .int 1) (ty := .int) (C := R_Mo) (T := T_Mo) (N := 24) hx hb hts hin_Mo ty_Mo tyok_Mo nm_Mo hown hK hP hD hS 0 rfl rfl 0 (by decide) (hts _ wd_704) (fun _ h9 => h9) rfl (by decide +kernel) rfl rfl (Nat.le_of_ble_eq_true rfl) d_Mo_start_13 (fun H locs hP hD hS => ?_)
    have hP : va_P D vwCl [(g0, .inr (6, [.int 1, .int ar, .ref m_sea, .ref m_center, .ref m_home, .ref m_borders, .int mp, .int mt, .ref m_owner, .ref m_units, .ref m_kind, .ref m_toX, .ref m_toY, .ref m_results, .ref m_known, .ref m_reached, .ref m_way, .ref m_aside, .ref m_origin, .ref m_retreats, .ref m_contested, .ref m_moved, .int msh, .ref m_past]))] H := hP
    have hD : va_D A [(g0, .inr (6, [.int 1, .int ar, .ref m_sea, .ref m_center, .ref m_home, .ref m_borders, .int mp, .int mt, .ref m_owner, .ref m_units, .ref m_kind, .ref m_toX, .ref m_toY, .ref m_results, .ref m_known, .ref m_reached, .ref m_way, .ref m_aside, .ref m_origin, .ref m_retreats, .ref m_contested, .ref m_moved, .int msh, .ref m_past]))] := hD
    refine lv_aload_n hx hb d_Mo_start_16 rfl (lv_at hl 0 rfl) ?_
    refine va_get (D := D) (ci := 6) (v := .int 1) (C := R_Mo) (T := T_Mo) (N := 24) hx hb hts hin_Mo hown hK hP 0 rfl rfl 0 (by decide) (hts _ wd_704) (fun _ h9 => h9) rfl d_Mo_start_17 ?_
    refine lv_if_ne (tgt := 27) hx hb d_Mo_start_20 (by decide) (fun _ => ?_) (fun h0 => absurd h0 (by decide))
    have hP9 := hP.sub (ws' := [(g0, .inr (6, [.int 1, .int ar, .ref m_sea, .ref m_center, .ref m_home, .ref m_borders, .int mp, .int mt, .ref m_owner, .ref m_units, .ref m_kind, .ref m_toX, .ref m_toY, .ref m_results, .ref m_known, .ref m_reached, .ref m_way, .ref m_aside, .ref m_origin, .ref m_retreats, .ref m_contested, .ref m_moved, .int msh, .ref m_past]))]) [0] rfl
    have hD9 := hD.sub (ws' := [(g0, .inr (6, [.int 1, .int ar, .ref m_sea, .ref m_center, .ref m_home, .ref m_borders, .int mp, .int mt, .ref m_owner, .ref m_units, .ref m_kind, .ref m_toX, .ref m_toY, .ref m_results, .ref m_known, .ref m_reached, .ref m_way, .ref m_aside, .ref m_origin, .ref m_retreats, .ref m_contested, .ref m_moved, .int msh, .ref m_past]))]) [0] (by decide) rfl
    exact W.vret hx hb hr (fun t ht hW => ⟨⟨(), rfl, trivial, by rw [ht]; exact hP9, hD9⟩, hS.F ht⟩) hS.2.2 d_Mo_start_27
  · -- 5 not taken
    exact absurd hc1 hph
