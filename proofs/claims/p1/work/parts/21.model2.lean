theorem d_Mo_nextTurn_0 : decode b_Mo_nextTurn 0 = .ok (.aload_n 0, 1) := by decide +kernel
theorem d_Mo_nextTurn_1 : decode b_Mo_nextTurn 1 = .ok (.dup, 1) := by decide +kernel
theorem d_Mo_nextTurn_2 : decode b_Mo_nextTurn 2 = .ok (.getfield 95, 3) := by decide +kernel
theorem d_Mo_nextTurn_5 : decode b_Mo_nextTurn 5 = .ok (.iconst 1, 1) := by decide +kernel
theorem d_Mo_nextTurn_6 : decode b_Mo_nextTurn 6 = .ok (.iadd, 1) := by decide +kernel
theorem d_Mo_nextTurn_7 : decode b_Mo_nextTurn 7 = .ok (.putfield 95, 3) := by decide +kernel
theorem d_Mo_nextTurn_10 : decode b_Mo_nextTurn 10 = .ok (.aload_n 0, 1) := by decide +kernel
theorem d_Mo_nextTurn_11 : decode b_Mo_nextTurn 11 = .ok (.iconst 1, 1) := by decide +kernel
theorem d_Mo_nextTurn_12 : decode b_Mo_nextTurn 12 = .ok (.putfield 75, 3) := by decide +kernel
theorem d_Mo_nextTurn_15 : decode b_Mo_nextTurn 15 = .ok (.iconst 0, 1) := by decide +kernel
theorem d_Mo_nextTurn_16 : decode b_Mo_nextTurn 16 = .ok (.istore_n 1, 1) := by decide +kernel
theorem d_Mo_nextTurn_17 : decode b_Mo_nextTurn 17 = .ok (.iload_n 1, 1) := by decide +kernel
theorem d_Mo_nextTurn_18 : decode b_Mo_nextTurn 18 = .ok (.bipush 12, 2) := by decide +kernel
theorem d_Mo_nextTurn_20 : decode b_Mo_nextTurn 20 = .ok (.if_icmp .ge 30, 3) := by decide +kernel
theorem d_Mo_nextTurn_23 : decode b_Mo_nextTurn 23 = .ok (.aload_n 0, 1) := by decide +kernel
theorem d_Mo_nextTurn_24 : decode b_Mo_nextTurn 24 = .ok (.getfield 29, 3) := by decide +kernel
theorem d_Mo_nextTurn_27 : decode b_Mo_nextTurn 27 = .ok (.iload_n 1, 1) := by decide +kernel
theorem d_Mo_nextTurn_28 : decode b_Mo_nextTurn 28 = .ok (.iconst 0, 1) := by decide +kernel
theorem d_Mo_nextTurn_29 : decode b_Mo_nextTurn 29 = .ok (.iastore, 1) := by decide +kernel
theorem d_Mo_nextTurn_30 : decode b_Mo_nextTurn 30 = .ok (.aload_n 0, 1) := by decide +kernel
theorem d_Mo_nextTurn_31 : decode b_Mo_nextTurn 31 = .ok (.getfield 32, 3) := by decide +kernel
theorem d_Mo_nextTurn_34 : decode b_Mo_nextTurn 34 = .ok (.iload_n 1, 1) := by decide +kernel
theorem d_Mo_nextTurn_35 : decode b_Mo_nextTurn 35 = .ok (.iconst 0, 1) := by decide +kernel
theorem d_Mo_nextTurn_36 : decode b_Mo_nextTurn 36 = .ok (.iastore, 1) := by decide +kernel
theorem d_Mo_nextTurn_37 : decode b_Mo_nextTurn 37 = .ok (.aload_n 0, 1) := by decide +kernel
theorem d_Mo_nextTurn_38 : decode b_Mo_nextTurn 38 = .ok (.getfield 35, 3) := by decide +kernel
theorem d_Mo_nextTurn_41 : decode b_Mo_nextTurn 41 = .ok (.iload_n 1, 1) := by decide +kernel
theorem d_Mo_nextTurn_42 : decode b_Mo_nextTurn 42 = .ok (.iconst 0, 1) := by decide +kernel
theorem d_Mo_nextTurn_43 : decode b_Mo_nextTurn 43 = .ok (.iastore, 1) := by decide +kernel
theorem d_Mo_nextTurn_44 : decode b_Mo_nextTurn 44 = .ok (.iinc 1 1, 3) := by decide +kernel
theorem d_Mo_nextTurn_47 : decode b_Mo_nextTurn 47 = .ok (.goto (-30), 3) := by decide +kernel
theorem d_Mo_nextTurn_50 : decode b_Mo_nextTurn 50 = .ok (.return_, 1) := by decide +kernel

set_option maxHeartbeats 4000000 in
set_option maxRecDepth 100000 in
theorem c_Mo_nextTurn (l : Launch) (D : va_G) (cI cZ cJ cS : ClassId) (aT : Nat) (ceT : Cell) (sz : Nat) (g0 m_sea m_center m_home m_borders m_owner m_units m_kind m_toX m_toY m_results m_known m_reached m_way m_aside m_origin m_retreats m_contested m_moved m_past : Nat) (co ar mp mt msh : Int32) (f1 f2 f3 : Nat → Int32)  : Met l y_Mo_nextTurn w_Mo_nextTurn ({ frames := 0, cells := 0, slots := 0, locals := 0 }) (tH D cI cZ cJ cS aT ceT [.ref g0] sz [(g0, .inr (6, [.int co, .int ar, .ref m_sea, .ref m_center, .ref m_home, .ref m_borders, .int mp, .int mt, .ref m_owner, .ref m_units, .ref m_kind, .ref m_toX, .ref m_toY, .ref m_results, .ref m_known, .ref m_reached, .ref m_way, .ref m_aside, .ref m_origin, .ref m_retreats, .ref m_contested, .ref m_moved, .int msh, .ref m_past])), (m_kind, .inl (cI, 12, .inl f1)), (m_toX, .inl (cI, 12, .inl f2)), (m_toY, .inl (cI, 12, .inl f3))]) (va_Qv (fun _ : Unit => True) (fun _ t => tB D (va_A [(g0, .inr (6, [.int co, .int ar, .ref m_sea, .ref m_center, .ref m_home, .ref m_borders, .int mp, .int mt, .ref m_owner, .ref m_units, .ref m_kind, .ref m_toX, .ref m_toY, .ref m_results, .ref m_known, .ref m_reached, .ref m_way, .ref m_aside, .ref m_origin, .ref m_retreats, .ref m_contested, .ref m_moved, .int msh, .ref m_past])), (m_kind, .inl (cI, 12, .inl f1)), (m_toX, .inl (cI, 12, .inl f2)), (m_toY, .inl (cI, 12, .inl f3))] sz) [(g0, .inr (6, [.int co, .int ar, .ref m_sea, .ref m_center, .ref m_home, .ref m_borders, .int 1, .int (mt + 1), .ref m_owner, .ref m_units, .ref m_kind, .ref m_toX, .ref m_toY, .ref m_results, .ref m_known, .ref m_reached, .ref m_way, .ref m_aside, .ref m_origin, .ref m_retreats, .ref m_contested, .ref m_moved, .int msh, .ref m_past])), (m_kind, .inl (cI, 12, .inl (fun _ => 0))), (m_toX, .inl (cI, 12, .inl (fun _ => 0))), (m_toY, .inl (cI, 12, .inl (fun _ => 0)))] t) (va_A [(g0, .inr (6, [.int co, .int ar, .ref m_sea, .ref m_center, .ref m_home, .ref m_borders, .int mp, .int mt, .ref m_owner, .ref m_units, .ref m_kind, .ref m_toX, .ref m_toY, .ref m_results, .ref m_known, .ref m_reached, .ref m_way, .ref m_aside, .ref m_origin, .ref m_retreats, .ref m_contested, .ref m_moved, .int msh, .ref m_past])), (m_kind, .inl (cI, 12, .inl f1)), (m_toX, .inl (cI, 12, .inl f2)), (m_toY, .inl (cI, 12, .inl f3))] sz)) 0 0 (va_A [(g0, .inr (6, [.int co, .int ar, .ref m_sea, .ref m_center, .ref m_home, .ref m_borders, .int mp, .int mt, .ref m_owner, .ref m_units, .ref m_kind, .ref m_toX, .ref m_toY, .ref m_results, .ref m_known, .ref m_reached, .ref m_way, .ref m_aside, .ref m_origin, .ref m_retreats, .ref m_contested, .ref m_moved, .int msh, .ref m_past])), (m_kind, .inl (cI, 12, .inl f1)), (m_toX, .inl (cI, 12, .inl f2)), (m_toY, .inl (cI, 12, .inl f3))] sz) := by
  refine Met.ofW (cc := b_Mo_nextTurn) (maxL := 2) (ret := none) (by decide) rfl ?_
  intro p e s m args below meth c s₁ B hml hv
  obtain ⟨rfl, hsz, hP, hK, hD0, hX⟩ := hv
  have hx := B.exec
  have hb := B.bytes
  have hr := B.returns
  have hts0 := atoms_spec (ws := w_Mo_nextTurn) B.pre
  have hts : ∀ w ∈ TB, w.before _ s = true := fun w h => hts0 w (List.mem_cons_of_mem _ h)
  have hown : s.vm.findClass R_Mo = some m.cls := findClass_of_methodNamed B.named
  have hlocks := B.notSynchronized
  subst hsz
  have hXl := tx_lt hX
  have hXn := tx_far hP hX
  have hD := hD0.self (sz := s.heap.size)
  generalize hAe : va_A [(g0, .inr (6, [.int co, .int ar, .ref m_sea, .ref m_center, .ref m_home, .ref m_borders, .int mp, .int mt, .ref m_owner, .ref m_units, .ref m_kind, .ref m_toX, .ref m_toY, .ref m_results, .ref m_known, .ref m_reached, .ref m_way, .ref m_aside, .ref m_origin, .ref m_retreats, .ref m_contested, .ref m_moved, .int msh, .ref m_past])), (m_kind, .inl (cI, 12, .inl f1)), (m_toX, .inl (cI, 12, .inl f2)), (m_toY, .inl (cI, 12, .inl f3))] s.heap.size = A at hD hXn ⊢
  have hA : ∀ q : Nat, s.heap.size ≤ q → A q := fun q h => by rw [← hAe]; exact Or.inr h
  have hS : va_S A s.heap s.heap [] := va_S.rf
  have hXH : s.heap[aT]? = s.heap[aT]? := rfl
  have hl := lv_entry ([.ref g0]) (n := 2) (Nat.le_of_ble_eq_true rfl)
  rw [lg_entry_eq]
  generalize (lg_sl ([.ref g0]) ++ List.replicate (2 - (lg_sl ([.ref g0])).length) Slot.unset).toArray = ls at hl ⊢
  have hl : lv_has ls 2 [(0, .ref g0)] := hl
  refine lv_aload_n hx hb d_Mo_nextTurn_0 rfl (lv_at hl 0 rfl) ?_
  refine lv_dup hx hb d_Mo_nextTurn_1 rfl ?_
  refine va_get (D := D) (ci := 6) (v := .int mt) (C := R_Mo) (T := T_Mo) (N := 24) hx hb hts hin_Mo hown hK hP 0 rfl rfl 7 (by decide) (hts _ wd_711) (fun _ h9 => h9) rfl d_Mo_nextTurn_2 ?_
  refine lv_iconst (v := 1) hx hb d_Mo_nextTurn_5 (by decide) ?_
  refine lv_iadd hx hb d_Mo_nextTurn_6 ?_
  refine va_put (D := D) (ci := 6) (v := .int (mt + 1)) (ty := .int) (C := R_Mo) (T := T_Mo) (N := 24) hx hb hts hin_Mo ty_Mo tyok_Mo nm_Mo hown hK hP hD hS 0 rfl rfl 7 (by decide) (hts _ wd_711) (fun _ h9 => h9) rfl (by decide +kernel) rfl rfl (Nat.le_of_ble_eq_true rfl) d_Mo_nextTurn_7 (fun H locs hP hD hS => ?_)
  have hP : va_P D vwCl [(g0, .inr (6, [.int co, .int ar, .ref m_sea, .ref m_center, .ref m_home, .ref m_borders, .int mp, .int (mt + 1), .ref m_owner, .ref m_units, .ref m_kind, .ref m_toX, .ref m_toY, .ref m_results, .ref m_known, .ref m_reached, .ref m_way, .ref m_aside, .ref m_origin, .ref m_retreats, .ref m_contested, .ref m_moved, .int msh, .ref m_past])), (m_kind, .inl (cI, 12, .inl f1)), (m_toX, .inl (cI, 12, .inl f2)), (m_toY, .inl (cI, 12, .inl f3))] H := hP
  have hD : va_D A [(g0, .inr (6, [.int co, .int ar, .ref m_sea, .ref m_center, .ref m_home, .ref m_borders, .int mp, .int (mt + 1), .ref m_owner, .ref m_units, .ref m_kind, .ref m_toX, .ref m_toY, .ref m_results, .ref m_known, .ref m_reached, .ref m_way, .ref m_aside, .ref m_origin, .ref m_retreats, .ref m_contested, .ref m_moved, .int msh, .ref m_past])), (m_kind, .inl (cI, 12, .inl f1)), (m_toX, .inl (cI, 12, .inl f2)), (m_toY, .inl (cI, 12, .inl f3))] := hD
  refine lv_aload_n hx hb d_Mo_nextTurn_10 rfl (lv_at hl 0 rfl) ?_
  refine lv_iconst (v := 1) hx hb d_Mo_nextTurn_11 (by decide) ?_
  refine va_put (D := D) (ci := 6) (v := .int 1) (ty := .int) (C := R_Mo) (T := T_Mo) (N := 24) hx hb hts hin_Mo ty_Mo tyok_Mo nm_Mo hown hK hP hD hS 0 rfl rfl 6 (by decide) (hts _ wd_710) (fun _ h9 => h9) rfl (by decide +kernel) rfl rfl (Nat.le_of_ble_eq_true rfl) d_Mo_nextTurn_12 (fun H locs hP hD hS => ?_)
  have hP : va_P D vwCl [(g0, .inr (6, [.int co, .int ar, .ref m_sea, .ref m_center, .ref m_home, .ref m_borders, .int 1, .int (mt + 1), .ref m_owner, .ref m_units, .ref m_kind, .ref m_toX, .ref m_toY, .ref m_results, .ref m_known, .ref m_reached, .ref m_way, .ref m_aside, .ref m_origin, .ref m_retreats, .ref m_contested, .ref m_moved, .int msh, .ref m_past])), (m_kind, .inl (cI, 12, .inl f1)), (m_toX, .inl (cI, 12, .inl f2)), (m_toY, .inl (cI, 12, .inl f3))] H := hP
  have hD : va_D A [(g0, .inr (6, [.int co, .int ar, .ref m_sea, .ref m_center, .ref m_home, .ref m_borders, .int 1, .int (mt + 1), .ref m_owner, .ref m_units, .ref m_kind, .ref m_toX, .ref m_toY, .ref m_results, .ref m_known, .ref m_reached, .ref m_way, .ref m_aside, .ref m_origin, .ref m_retreats, .ref m_contested, .ref m_moved, .int msh, .ref m_past])), (m_kind, .inl (cI, 12, .inl f1)), (m_toX, .inl (cI, 12, .inl f2)), (m_toY, .inl (cI, 12, .inl f3))] := hD
  refine lv_iconst (v := 0) hx hb d_Mo_nextTurn_15 (by decide) ?_
  refine lv_istore_n (lv' := [(1, .int 0), (0, .ref g0)]) hx hb d_Mo_nextTurn_16 rfl hl (by decide) rfl (fun ls hl => ?_)
  have loop : ∀ (k i : Nat) (g1 g2 g3 : Nat → Int32) (ls : Array Slot) (H : Heap) (locs : List Loc), i + k = 12 → lv_has ls 2 [(1, .int (nI i)), (0, .ref g0)] → va_P D vwCl [(g0, .inr (6, [.int co, .int ar, .ref m_sea, .ref m_center, .ref m_home, .ref m_borders, .int 1, .int (mt + 1), .ref m_owner, .ref m_units, .ref m_kind, .ref m_toX, .ref m_toY, .ref m_results, .ref m_known, .ref m_reached, .ref m_way, .ref m_aside, .ref m_origin, .ref m_retreats, .ref m_contested, .ref m_moved, .int msh, .ref m_past])), (m_kind, .inl (cI, 12, .inl g1)), (m_toX, .inl (cI, 12, .inl g2)), (m_toY, .inl (cI, 12, .inl g3))] H → va_D A [(g0, .inr (6, [.int co, .int ar, .ref m_sea, .ref m_center, .ref m_home, .ref m_borders, .int 1, .int (mt + 1), .ref m_owner, .ref m_units, .ref m_kind, .ref m_toX, .ref m_toY, .ref m_results, .ref m_known, .ref m_reached, .ref m_way, .ref m_aside, .ref m_origin, .ref m_retreats, .ref m_contested, .ref m_moved, .int msh, .ref m_past])), (m_kind, .inl (cI, 12, .inl g1)), (m_toX, .inl (cI, 12, .inl g2)), (m_toY, .inl (cI, 12, .inl g3))] → va_S A s.heap H locs → (∀ j, j < i → g1 j = 0) → (∀ j, j < i → g2 j = 0) → (∀ j, j < i → g3 j = 0) → W p l e (headSpec w_Mo_nextTurn ({ frames := 0, cells := 0, slots := 0, locals := 0 })).room s m ([.ref g0]).toArray below meth c H locs 0 0 (MQ below (va_Qv (fun _ : Unit => True) (fun _ t => tB D A [(g0, .inr (6, [.int co, .int ar, .ref m_sea, .ref m_center, .ref m_home, .ref m_borders, .int 1, .int (mt + 1), .ref m_owner, .ref m_units, .ref m_kind, .ref m_toX, .ref m_toY, .ref m_results, .ref m_known, .ref m_reached, .ref m_way, .ref m_aside, .ref m_origin, .ref m_retreats, .ref m_contested, .ref m_moved, .int msh, .ref m_past])), (m_kind, .inl (cI, 12, .inl (fun _ => 0))), (m_toX, .inl (cI, 12, .inl (fun _ => 0))), (m_toY, .inl (cI, 12, .inl (fun _ => 0)))] t) A) ([.ref g0]).toArray s 0 0 A) (F0 m 17 ls []) := by
    intro k
    induction k with
    | zero =>
      intro i g1 g2 g3 ls H locs hi hl hP hD hS h1 h2 h3
      obtain rfl : i = 12 := by omega
      refine lv_iload_n hx hb d_Mo_nextTurn_17 rfl (lv_at hl 0 rfl) ?_
      refine lv_bipush (v := 12) hx hb d_Mo_nextTurn_18 (by decide) ?_
      refine lv_icmp_ge (tgt := 50) hx hb d_Mo_nextTurn_20 (by decide) (fun _ => ?_) (fun h0 => absurd (by decide) h0)
      have hP := tn_swap (k := 1) (g := fun _ => 0) hP rfl h1
      have hD := hD.set (p := 1) (e := .inl (cI, 12, .inl (fun _ => 0))) rfl
      have hP := tn_swap (k := 2) (g := fun _ => 0) hP rfl h2
      have hD := hD.set (p := 2) (e := .inl (cI, 12, .inl (fun _ => 0))) rfl
      have hP := tn_swap (k := 3) (g := fun _ => 0) hP rfl h3
      have hD := hD.set (p := 3) (e := .inl (cI, 12, .inl (fun _ => 0))) rfl
      exact W.vret hx hb hr (fun t ht hW => ⟨⟨(), rfl, trivial, by rw [ht]; exact hP, hD⟩, hS.F ht⟩) hS.2.2 d_Mo_nextTurn_50
    | succ k ih =>
      intro i g1 g2 g3 ls H locs hi hl hP hD hS h1 h2 h3
      have hlt : i < 12 := by omega
      refine lv_iload_n hx hb d_Mo_nextTurn_17 rfl (lv_at hl 0 rfl) ?_
      refine lv_bipush (v := 12) hx hb d_Mo_nextTurn_18 (by decide) ?_
      refine lv_icmp_ge (tgt := 50) hx hb d_Mo_nextTurn_20 (by decide) (fun h0 => absurd h0 (nI_ge hlt (by decide))) (fun _ => ?_)
      refine lv_aload_n hx hb d_Mo_nextTurn_23 rfl (lv_at hl 1 rfl) ?_
      refine va_get (D := D) (ci := 6) (v := .ref m_kind) (C := R_Mo) (T := T_Mo) (N := 24) hx hb hts hin_Mo hown hK hP 0 rfl rfl 10 (by decide) (hts _ wd_714) (fun _ h9 => h9) rfl d_Mo_nextTurn_24 ?_
      refine lv_iload_n hx hb d_Mo_nextTurn_27 rfl (lv_at hl 0 rfl) ?_
      refine lv_iconst (v := 0) hx hb d_Mo_nextTurn_28 (by decide) ?_
      refine va_iast hx hb hK hP hD hS 1 0 rfl rfl (vp_in_nI hlt (by decide)) d_Mo_nextTurn_29 (fun H locs hP hD hS => ?_)
      have hP : va_P D vwCl [(g0, .inr (6, [.int co, .int ar, .ref m_sea, .ref m_center, .ref m_home, .ref m_borders, .int 1, .int (mt + 1), .ref m_owner, .ref m_units, .ref m_kind, .ref m_toX, .ref m_toY, .ref m_results, .ref m_known, .ref m_reached, .ref m_way, .ref m_aside, .ref m_origin, .ref m_retreats, .ref m_contested, .ref m_moved, .int msh, .ref m_past])), (m_kind, .inl (cI, 12, .inl (upd g1 (nI i).toNatClampNeg 0))), (m_toX, .inl (cI, 12, .inl g2)), (m_toY, .inl (cI, 12, .inl g3))] H := hP
      have hD : va_D A [(g0, .inr (6, [.int co, .int ar, .ref m_sea, .ref m_center, .ref m_home, .ref m_borders, .int 1, .int (mt + 1), .ref m_owner, .ref m_units, .ref m_kind, .ref m_toX, .ref m_toY, .ref m_results, .ref m_known, .ref m_reached, .ref m_way, .ref m_aside, .ref m_origin, .ref m_retreats, .ref m_contested, .ref m_moved, .int msh, .ref m_past])), (m_kind, .inl (cI, 12, .inl (upd g1 (nI i).toNatClampNeg 0))), (m_toX, .inl (cI, 12, .inl g2)), (m_toY, .inl (cI, 12, .inl g3))] := hD
      refine lv_aload_n hx hb d_Mo_nextTurn_30 rfl (lv_at hl 1 rfl) ?_
      refine va_get (D := D) (ci := 6) (v := .ref m_toX) (C := R_Mo) (T := T_Mo) (N := 24) hx hb hts hin_Mo hown hK hP 0 rfl rfl 11 (by decide) (hts _ wd_715) (fun _ h9 => h9) rfl d_Mo_nextTurn_31 ?_
      refine lv_iload_n hx hb d_Mo_nextTurn_34 rfl (lv_at hl 0 rfl) ?_
      refine lv_iconst (v := 0) hx hb d_Mo_nextTurn_35 (by decide) ?_
      refine va_iast hx hb hK hP hD hS 2 0 rfl rfl (vp_in_nI hlt (by decide)) d_Mo_nextTurn_36 (fun H locs hP hD hS => ?_)
      have hP : va_P D vwCl [(g0, .inr (6, [.int co, .int ar, .ref m_sea, .ref m_center, .ref m_home, .ref m_borders, .int 1, .int (mt + 1), .ref m_owner, .ref m_units, .ref m_kind, .ref m_toX, .ref m_toY, .ref m_results, .ref m_known, .ref m_reached, .ref m_way, .ref m_aside, .ref m_origin, .ref m_retreats, .ref m_contested, .ref m_moved, .int msh, .ref m_past])), (m_kind, .inl (cI, 12, .inl (upd g1 (nI i).toNatClampNeg 0))), (m_toX, .inl (cI, 12, .inl (upd g2 (nI i).toNatClampNeg 0))), (m_toY, .inl (cI, 12, .inl g3))] H := hP
      have hD : va_D A [(g0, .inr (6, [.int co, .int ar, .ref m_sea, .ref m_center, .ref m_home, .ref m_borders, .int 1, .int (mt + 1), .ref m_owner, .ref m_units, .ref m_kind, .ref m_toX, .ref m_toY, .ref m_results, .ref m_known, .ref m_reached, .ref m_way, .ref m_aside, .ref m_origin, .ref m_retreats, .ref m_contested, .ref m_moved, .int msh, .ref m_past])), (m_kind, .inl (cI, 12, .inl (upd g1 (nI i).toNatClampNeg 0))), (m_toX, .inl (cI, 12, .inl (upd g2 (nI i).toNatClampNeg 0))), (m_toY, .inl (cI, 12, .inl g3))] := hD
      refine lv_aload_n hx hb d_Mo_nextTurn_37 rfl (lv_at hl 1 rfl) ?_
      refine va_get (D := D) (ci := 6) (v := .ref m_toY) (C := R_Mo) (T := T_Mo) (N := 24) hx hb hts hin_Mo hown hK hP 0 rfl rfl 12 (by decide) (hts _ wd_716) (fun _ h9 => h9) rfl d_Mo_nextTurn_38 ?_
      refine lv_iload_n hx hb d_Mo_nextTurn_41 rfl (lv_at hl 0 rfl) ?_
      refine lv_iconst (v := 0) hx hb d_Mo_nextTurn_42 (by decide) ?_
      refine va_iast hx hb hK hP hD hS 3 0 rfl rfl (vp_in_nI hlt (by decide)) d_Mo_nextTurn_43 (fun H locs hP hD hS => ?_)
      have hP : va_P D vwCl [(g0, .inr (6, [.int co, .int ar, .ref m_sea, .ref m_center, .ref m_home, .ref m_borders, .int 1, .int (mt + 1), .ref m_owner, .ref m_units, .ref m_kind, .ref m_toX, .ref m_toY, .ref m_results, .ref m_known, .ref m_reached, .ref m_way, .ref m_aside, .ref m_origin, .ref m_retreats, .ref m_contested, .ref m_moved, .int msh, .ref m_past])), (m_kind, .inl (cI, 12, .inl (upd g1 (nI i).toNatClampNeg 0))), (m_toX, .inl (cI, 12, .inl (upd g2 (nI i).toNatClampNeg 0))), (m_toY, .inl (cI, 12, .inl (upd g3 (nI i).toNatClampNeg 0)))] H := hP
      have hD : va_D A [(g0, .inr (6, [.int co, .int ar, .ref m_sea, .ref m_center, .ref m_home, .ref m_borders, .int 1, .int (mt + 1), .ref m_owner, .ref m_units, .ref m_kind, .ref m_toX, .ref m_toY, .ref m_results, .ref m_known, .ref m_reached, .ref m_way, .ref m_aside, .ref m_origin, .ref m_retreats, .ref m_contested, .ref m_moved, .int msh, .ref m_past])), (m_kind, .inl (cI, 12, .inl (upd g1 (nI i).toNatClampNeg 0))), (m_toX, .inl (cI, 12, .inl (upd g2 (nI i).toNatClampNeg 0))), (m_toY, .inl (cI, 12, .inl (upd g3 (nI i).toNatClampNeg 0)))] := hD
      refine lv_iinc (lv' := [(1, .int ((nI i) + 1)), (0, .ref g0)]) hx hb d_Mo_nextTurn_44 hl (k := 0) rfl rfl (by decide) rfl (fun ls hl => ?_)
      refine lv_goto (tgt := 17) hx hb d_Mo_nextTurn_47 (by decide) ?_
      rw [nI_1] at hl
      have hcl := nI_clamp (Nat.lt_trans hlt (by decide : (12 : Nat) < 2 ^ 31))
      have u1 : ∀ j, j < i + 1 → upd g1 (nI i).toNatClampNeg 0 j = 0 := fun j hj => by rw [hcl]; by_cases hji : j = i; (· subst hji; exact pk_us); (· rw [pk_un hji]; exact h1 j (by omega))
      have u2 : ∀ j, j < i + 1 → upd g2 (nI i).toNatClampNeg 0 j = 0 := fun j hj => by rw [hcl]; by_cases hji : j = i; (· subst hji; exact pk_us); (· rw [pk_un hji]; exact h2 j (by omega))
      have u3 : ∀ j, j < i + 1 → upd g3 (nI i).toNatClampNeg 0 j = 0 := fun j hj => by rw [hcl]; by_cases hji : j = i; (· subst hji; exact pk_us); (· rw [pk_un hji]; exact h3 j (by omega))
      exact ih (i + 1) _ _ _ ls H locs (by omega) (lv_sub hl [0, 1] rfl) hP hD hS u1 u2 u3
  exact loop 12 0 _ _ _ ls _ _ rfl hl hP hD hS (fun j hj => absurd hj (Nat.not_lt_zero j)) (fun j hj => absurd hj (Nat.not_lt_zero j)) (fun j hj => absurd hj (Nat.not_lt_zero j))

theorem d_Mo_start_0 : decode b_Mo_start 0 = .ok (.aload_n 0, 1) := by decide +kernel
theorem d_Mo_start_1 : decode b_Mo_start 1 = .ok (.aload_n 0, 1) := by decide +kernel
theorem d_Mo_start_2 : decode b_Mo_start 2 = .ok (.getfield 75, 3) := by decide +kernel
theorem d_Mo_start_5 : decode b_Mo_start 5 = .ok (.ifCond .ne 7, 3) := by decide +kernel
theorem d_Mo_start_8 : decode b_Mo_start 8 = .ok (.iconst 0, 1) := by decide +kernel
theorem d_Mo_start_9 : decode b_Mo_start 9 = .ok (.goto 4, 3) := by decide +kernel
theorem d_Mo_start_12 : decode b_Mo_start 12 = .ok (.iconst 1, 1) := by decide +kernel
theorem d_Mo_start_13 : decode b_Mo_start 13 = .ok (.putfield 68, 3) := by decide +kernel
theorem d_Mo_start_16 : decode b_Mo_start 16 = .ok (.aload_n 0, 1) := by decide +kernel
theorem d_Mo_start_17 : decode b_Mo_start 17 = .ok (.getfield 68, 3) := by decide +kernel
theorem d_Mo_start_20 : decode b_Mo_start 20 = .ok (.ifCond .ne 7, 3) := by decide +kernel
theorem d_Mo_start_23 : decode b_Mo_start 23 = .ok (.aload_n 0, 1) := by decide +kernel
theorem d_Mo_start_24 : decode b_Mo_start 24 = .ok (.invokevirtual 98, 3) := by decide +kernel
theorem d_Mo_start_27 : decode b_Mo_start 27 = .ok (.return_, 1) := by decide +kernel
theorem wd_820 : (Cond.code ({ cls := "SheetWarModel", name := "nextTurn", desc := "()V" } : MethodName) prog_8_method_11_code (2 : Nat) (Option.none : Option FieldType)) ∈ TB := tb_t 820 (by decide +kernel) (by decide +kernel)
theorem wd_817 : (Cond.methodLink "SheetWarModel" (98 : Nat) ({ cls := "SheetWarModel", name := "nextTurn", desc := "()V" } : MethodName)) ∈ TB := tb_t 817 (by decide +kernel) (by decide +kernel)
theorem wd_819 : (Cond.instanceMethod ({ cls := "SheetWarModel", name := "nextTurn", desc := "()V" } : MethodName)) ∈ TB := tb_t 819 (by decide +kernel) (by decide +kernel)
theorem wp_40 : Cond.selects "SheetWarModel" ⟨"SheetWarModel", "nextTurn", "()V"⟩ ⟨"SheetWarModel", "nextTurn", "()V"⟩ ∈ TB := tb_p 40 (by decide +kernel) (by decide +kernel)
set_option maxHeartbeats 4000000 in
set_option maxRecDepth 100000 in
theorem c_Mo_start_0 (l : Launch) (D : va_G) (cI cZ cJ cS : ClassId) (aT : Nat) (ceT : Cell) (sz : Nat) (g0 m_sea m_center m_home m_borders m_owner m_units m_kind m_toX m_toY m_results m_known m_reached m_way m_aside m_origin m_retreats m_contested m_moved m_past : Nat) (co ar mt msh : Int32) (f1 f2 f3 : Nat → Int32)  : Met l y_Mo_start w_Mo_start ({ frames := 1, cells := 0, slots := 0, locals := 21 }) (tH D cI cZ cJ cS aT ceT [.ref g0] sz [(g0, .inr (6, [.int co, .int ar, .ref m_sea, .ref m_center, .ref m_home, .ref m_borders, .int 0, .int mt, .ref m_owner, .ref m_units, .ref m_kind, .ref m_toX, .ref m_toY, .ref m_results, .ref m_known, .ref m_reached, .ref m_way, .ref m_aside, .ref m_origin, .ref m_retreats, .ref m_contested, .ref m_moved, .int msh, .ref m_past])), (m_kind, .inl (cI, 12, .inl f1)), (m_toX, .inl (cI, 12, .inl f2)), (m_toY, .inl (cI, 12, .inl f3))]) (va_Qv (fun _ : Unit => True) (fun _ t => tB D (va_A [(g0, .inr (6, [.int co, .int ar, .ref m_sea, .ref m_center, .ref m_home, .ref m_borders, .int 0, .int mt, .ref m_owner, .ref m_units, .ref m_kind, .ref m_toX, .ref m_toY, .ref m_results, .ref m_known, .ref m_reached, .ref m_way, .ref m_aside, .ref m_origin, .ref m_retreats, .ref m_contested, .ref m_moved, .int msh, .ref m_past])), (m_kind, .inl (cI, 12, .inl f1)), (m_toX, .inl (cI, 12, .inl f2)), (m_toY, .inl (cI, 12, .inl f3))] sz) [(g0, .inr (6, [.int 0, .int ar, .ref m_sea, .ref m_center, .ref m_home, .ref m_borders, .int 1, .int (mt + 1), .ref m_owner, .ref m_units, .ref m_kind, .ref m_toX, .ref m_toY, .ref m_results, .ref m_known, .ref m_reached, .ref m_way, .ref m_aside, .ref m_origin, .ref m_retreats, .ref m_contested, .ref m_moved, .int msh, .ref m_past])), (m_kind, .inl (cI, 12, .inl (fun _ => 0))), (m_toX, .inl (cI, 12, .inl (fun _ => 0))), (m_toY, .inl (cI, 12, .inl (fun _ => 0)))] t) (va_A [(g0, .inr (6, [.int co, .int ar, .ref m_sea, .ref m_center, .ref m_home, .ref m_borders, .int 0, .int mt, .ref m_owner, .ref m_units, .ref m_kind, .ref m_toX, .ref m_toY, .ref m_results, .ref m_known, .ref m_reached, .ref m_way, .ref m_aside, .ref m_origin, .ref m_retreats, .ref m_contested, .ref m_moved, .int msh, .ref m_past])), (m_kind, .inl (cI, 12, .inl f1)), (m_toX, .inl (cI, 12, .inl f2)), (m_toY, .inl (cI, 12, .inl f3))] sz)) 0 0 (va_A [(g0, .inr (6, [.int co, .int ar, .ref m_sea, .ref m_center, .ref m_home, .ref m_borders, .int 0, .int mt, .ref m_owner, .ref m_units, .ref m_kind, .ref m_toX, .ref m_toY, .ref m_results, .ref m_known, .ref m_reached, .ref m_way, .ref m_aside, .ref m_origin, .ref m_retreats, .ref m_contested, .ref m_moved, .int msh, .ref m_past])), (m_kind, .inl (cI, 12, .inl f1)), (m_toX, .inl (cI, 12, .inl f2)), (m_toY, .inl (cI, 12, .inl f3))] sz) := by
  refine Met.ofW (cc := b_Mo_start) (maxL := 1) (ret := none) (by decide) rfl ?_
  intro p e s m args below meth c s₁ B hml hv
  obtain ⟨rfl, hsz, hP, hK, hD0, hX⟩ := hv
  have hx := B.exec
  have hb := B.bytes
  have hr := B.returns
  have hts0 := atoms_spec (ws := w_Mo_start) B.pre
  have hts : ∀ w ∈ TB, w.before _ s = true := fun w h => hts0 w (List.mem_cons_of_mem _ h)
  have hown : s.vm.findClass R_Mo = some m.cls := findClass_of_methodNamed B.named
  have hlocks := B.notSynchronized
  subst hsz
  have hXl := tx_lt hX
  have hXn := tx_far hP hX
  have hD := hD0.self (sz := s.heap.size)
  generalize hAe : va_A [(g0, .inr (6, [.int co, .int ar, .ref m_sea, .ref m_center, .ref m_home, .ref m_borders, .int 0, .int mt, .ref m_owner, .ref m_units, .ref m_kind, .ref m_toX, .ref m_toY, .ref m_results, .ref m_known, .ref m_reached, .ref m_way, .ref m_aside, .ref m_origin, .ref m_retreats, .ref m_contested, .ref m_moved, .int msh, .ref m_past])), (m_kind, .inl (cI, 12, .inl f1)), (m_toX, .inl (cI, 12, .inl f2)), (m_toY, .inl (cI, 12, .inl f3))] s.heap.size = A at hD hXn ⊢
  have hA : ∀ q : Nat, s.heap.size ≤ q → A q := fun q h => by rw [← hAe]; exact Or.inr h
  have hS : va_S A s.heap s.heap [] := va_S.rf
  have hXH : s.heap[aT]? = s.heap[aT]? := rfl
  have hl := lv_entry ([.ref g0]) (n := 1) (Nat.le_of_ble_eq_true rfl)
  rw [lg_entry_eq]
  generalize (lg_sl ([.ref g0]) ++ List.replicate (1 - (lg_sl ([.ref g0])).length) Slot.unset).toArray = ls at hl ⊢
  have hl : lv_has ls 1 [(0, .ref g0)] := hl
  refine lv_aload_n hx hb d_Mo_start_0 rfl (lv_at hl 0 rfl) ?_
  refine lv_aload_n hx hb d_Mo_start_1 rfl (lv_at hl 0 rfl) ?_
  refine va_get (D := D) (ci := 6) (v := .int 0) (C := R_Mo) (T := T_Mo) (N := 24) hx hb hts hin_Mo hown hK hP 0 rfl rfl 6 (by decide) (hts _ wd_710) (fun _ h9 => h9) rfl d_Mo_start_2 ?_
  refine lv_if_ne (tgt := 12) hx hb d_Mo_start_5 (by decide) (fun h0 => absurd (by decide) h0) (fun _ => ?_)
  refine lv_iconst (v := 0) hx hb d_Mo_start_8 (by decide) ?_
  refine lv_goto (tgt := 13) hx hb d_Mo_start_9 (by decide) ?_
  refine va_put (D := D) (ci := 6) (v := .int 0) (ty := .int) (C := R_Mo) (T := T_Mo) (N := 24) hx hb hts hin_Mo ty_Mo tyok_Mo nm_Mo hown hK hP hD hS 0 rfl rfl 0 (by decide) (hts _ wd_704) (fun _ h9 => h9) rfl (by decide +kernel) rfl rfl (Nat.le_of_ble_eq_true rfl) d_Mo_start_13 (fun H locs hP hD hS => ?_)
  have hP : va_P D vwCl [(g0, .inr (6, [.int 0, .int ar, .ref m_sea, .ref m_center, .ref m_home, .ref m_borders, .int 0, .int mt, .ref m_owner, .ref m_units, .ref m_kind, .ref m_toX, .ref m_toY, .ref m_results, .ref m_known, .ref m_reached, .ref m_way, .ref m_aside, .ref m_origin, .ref m_retreats, .ref m_contested, .ref m_moved, .int msh, .ref m_past])), (m_kind, .inl (cI, 12, .inl f1)), (m_toX, .inl (cI, 12, .inl f2)), (m_toY, .inl (cI, 12, .inl f3))] H := hP
  have hD : va_D A [(g0, .inr (6, [.int 0, .int ar, .ref m_sea, .ref m_center, .ref m_home, .ref m_borders, .int 0, .int mt, .ref m_owner, .ref m_units, .ref m_kind, .ref m_toX, .ref m_toY, .ref m_results, .ref m_known, .ref m_reached, .ref m_way, .ref m_aside, .ref m_origin, .ref m_retreats, .ref m_contested, .ref m_moved, .int msh, .ref m_past])), (m_kind, .inl (cI, 12, .inl f1)), (m_toX, .inl (cI, 12, .inl f2)), (m_toY, .inl (cI, 12, .inl f3))] := hD
  refine lv_aload_n hx hb d_Mo_start_16 rfl (lv_at hl 0 rfl) ?_
  refine va_get (D := D) (ci := 6) (v := .int 0) (C := R_Mo) (T := T_Mo) (N := 24) hx hb hts hin_Mo hown hK hP 0 rfl rfl 0 (by decide) (hts _ wd_704) (fun _ h9 => h9) rfl d_Mo_start_17 ?_
  refine lv_if_ne (tgt := 27) hx hb d_Mo_start_20 (by decide) (fun h0 => absurd (by decide) h0) (fun _ => ?_)
  refine lv_aload_n hx hb d_Mo_start_23 rfl (lv_at hl 0 rfl) ?_
  have hPc := hP.sub (ws' := [(g0, .inr (6, [.int 0, .int ar, .ref m_sea, .ref m_center, .ref m_home, .ref m_borders, .int 0, .int mt, .ref m_owner, .ref m_units, .ref m_kind, .ref m_toX, .ref m_toY, .ref m_results, .ref m_known, .ref m_reached, .ref m_way, .ref m_aside, .ref m_origin, .ref m_retreats, .ref m_contested, .ref m_moved, .int msh, .ref m_past])), (m_kind, .inl (cI, 12, .inl f1)), (m_toX, .inl (cI, 12, .inl f2)), (m_toY, .inl (cI, 12, .inl f3))]) [0, 1, 2, 3] rfl
  have hDc := hD.sub (ws' := [(g0, .inr (6, [.int 0, .int ar, .ref m_sea, .ref m_center, .ref m_home, .ref m_borders, .int 0, .int mt, .ref m_owner, .ref m_units, .ref m_kind, .ref m_toX, .ref m_toY, .ref m_results, .ref m_known, .ref m_reached, .ref m_way, .ref m_aside, .ref m_origin, .ref m_retreats, .ref m_contested, .ref m_moved, .int msh, .ref m_past])), (m_kind, .inl (cI, 12, .inl f1)), (m_toX, .inl (cI, 12, .inl f2)), (m_toY, .inl (cI, 12, .inl f3))]) [0, 1, 2, 3] (by decide) rfl
  have hFc := va_free (wc := [(g0, .inr (6, [.int 0, .int ar, .ref m_sea, .ref m_center, .ref m_home, .ref m_borders, .int 0, .int mt, .ref m_owner, .ref m_units, .ref m_kind, .ref m_toX, .ref m_toY, .ref m_results, .ref m_known, .ref m_reached, .ref m_way, .ref m_aside, .ref m_origin, .ref m_retreats, .ref m_contested, .ref m_moved, .int msh, .ref m_past])), (m_kind, .inl (cI, 12, .inl f1)), (m_toX, .inl (cI, 12, .inl f2)), (m_toY, .inl (cI, 12, .inl f3))]) hD hS hA [0, 1, 2, 3] rfl
  refine va_callv (va_runV (As := []) (rest := []) ⟨hx, hb, hml, hown, hts⟩ (c_Mo_nextTurn l D cI cZ cJ cS aT ceT H.size g0 m_sea m_center m_home m_borders m_owner m_units m_kind m_toX m_toY m_results m_known m_reached m_way m_aside m_origin m_retreats m_contested m_moved m_past 0 ar 0 mt msh f1 f2 f3 ) (cwV 0 hts (tb_4 wd_817 wd_819 wp_40 wd_8 (tb_c wd_820)) rfl rfl rfl ⟨rfl, by decide, by decide, by decide +kernel⟩ ⟨Nat.le_of_ble_eq_true rfl, Nat.le_of_ble_eq_true rfl⟩) (tH_V hK hX (hS.2.1 aT hXl hXn) hPc hDc (q := 0) rfl rfl) rfl rfl hl.1 rfl (lv_room (Nat.le_of_ble_eq_true rfl)) d_Mo_start_24 ⟨Nat.le_of_ble_eq_true rfl, Nat.le_of_ble_eq_true rfl⟩) hS (fun q _ h => hFc q h) hFc (fun u t H1 locs ht hvm h9 hB hz1 hk1 hS => ?_)
  obtain ⟨hP1, hD1⟩ := hB
  rw [ht] at hP1
  obtain ⟨hP, hD⟩ := va_join (wr := []) (w1 := [(g0, .inr (6, [.int 0, .int ar, .ref m_sea, .ref m_center, .ref m_home, .ref m_borders, .int 1, .int (mt + 1), .ref m_owner, .ref m_units, .ref m_kind, .ref m_toX, .ref m_toY, .ref m_results, .ref m_known, .ref m_reached, .ref m_way, .ref m_aside, .ref m_origin, .ref m_retreats, .ref m_contested, .ref m_moved, .int msh, .ref m_past])), (m_kind, .inl (cI, 12, .inl (fun _ => 0))), (m_toX, .inl (cI, 12, .inl (fun _ => 0))), (m_toY, .inl (cI, 12, .inl (fun _ => 0)))]) hP hD [0, 1, 2, 3] [] rfl rfl (by decide) (by decide) hk1 hFc hP1 hD1
  generalize H1 = H at hP hS ⊢
  have hP : va_P D vwCl [(g0, .inr (6, [.int 0, .int ar, .ref m_sea, .ref m_center, .ref m_home, .ref m_borders, .int 1, .int (mt + 1), .ref m_owner, .ref m_units, .ref m_kind, .ref m_toX, .ref m_toY, .ref m_results, .ref m_known, .ref m_reached, .ref m_way, .ref m_aside, .ref m_origin, .ref m_retreats, .ref m_contested, .ref m_moved, .int msh, .ref m_past])), (m_kind, .inl (cI, 12, .inl (fun _ => 0))), (m_toX, .inl (cI, 12, .inl (fun _ => 0))), (m_toY, .inl (cI, 12, .inl (fun _ => 0)))] H := hP
  have hD : va_D A [(g0, .inr (6, [.int 0, .int ar, .ref m_sea, .ref m_center, .ref m_home, .ref m_borders, .int 1, .int (mt + 1), .ref m_owner, .ref m_units, .ref m_kind, .ref m_toX, .ref m_toY, .ref m_results, .ref m_known, .ref m_reached, .ref m_way, .ref m_aside, .ref m_origin, .ref m_retreats, .ref m_contested, .ref m_moved, .int msh, .ref m_past])), (m_kind, .inl (cI, 12, .inl (fun _ => 0))), (m_toX, .inl (cI, 12, .inl (fun _ => 0))), (m_toY, .inl (cI, 12, .inl (fun _ => 0)))] := hD
  have hP9 := hP.sub (ws' := [(g0, .inr (6, [.int 0, .int ar, .ref m_sea, .ref m_center, .ref m_home, .ref m_borders, .int 1, .int (mt + 1), .ref m_owner, .ref m_units, .ref m_kind, .ref m_toX, .ref m_toY, .ref m_results, .ref m_known, .ref m_reached, .ref m_way, .ref m_aside, .ref m_origin, .ref m_retreats, .ref m_contested, .ref m_moved, .int msh, .ref m_past])), (m_kind, .inl (cI, 12, .inl (fun _ => 0))), (m_toX, .inl (cI, 12, .inl (fun _ => 0))), (m_toY, .inl (cI, 12, .inl (fun _ => 0)))]) [0, 1, 2, 3] rfl
  have hD9 := hD.sub (ws' := [(g0, .inr (6, [.int 0, .int ar, .ref m_sea, .ref m_center, .ref m_home, .ref m_borders, .int 1, .int (mt + 1), .ref m_owner, .ref m_units, .ref m_kind, .ref m_toX, .ref m_toY, .ref m_results, .ref m_known, .ref m_reached, .ref m_way, .ref m_aside, .ref m_origin, .ref m_retreats, .ref m_contested, .ref m_moved, .int msh, .ref m_past])), (m_kind, .inl (cI, 12, .inl (fun _ => 0))), (m_toX, .inl (cI, 12, .inl (fun _ => 0))), (m_toY, .inl (cI, 12, .inl (fun _ => 0)))]) [0, 1, 2, 3] (by decide) rfl
  exact W.vret hx hb hr (fun t ht hW => ⟨⟨(), rfl, trivial, by rw [ht]; exact hP9, hD9⟩, hS.F ht⟩) hS.2.2 d_Mo_start_27
