theorem d_Mo_canBe_0 : decode b_Mo_canBe 0 = .ok (.iload_n 2, 1) := by decide +kernel
theorem d_Mo_canBe_1 : decode b_Mo_canBe 1 = .ok (.ifCond .ne 20, 3) := by decide +kernel
theorem d_Mo_canBe_4 : decode b_Mo_canBe 4 = .ok (.aload_n 0, 1) := by decide +kernel
theorem d_Mo_canBe_5 : decode b_Mo_canBe 5 = .ok (.getfield 7, 3) := by decide +kernel
theorem d_Mo_canBe_8 : decode b_Mo_canBe 8 = .ok (.iload_n 1, 1) := by decide +kernel
theorem d_Mo_canBe_9 : decode b_Mo_canBe 9 = .ok (.baload, 1) := by decide +kernel
theorem d_Mo_canBe_10 : decode b_Mo_canBe 10 = .ok (.ifCond .ne 7, 3) := by decide +kernel
theorem d_Mo_canBe_13 : decode b_Mo_canBe 13 = .ok (.iconst 1, 1) := by decide +kernel
theorem d_Mo_canBe_14 : decode b_Mo_canBe 14 = .ok (.goto 29, 3) := by decide +kernel
theorem d_Mo_canBe_17 : decode b_Mo_canBe 17 = .ok (.iconst 0, 1) := by decide +kernel
theorem d_Mo_canBe_18 : decode b_Mo_canBe 18 = .ok (.goto 25, 3) := by decide +kernel
theorem d_Mo_canBe_21 : decode b_Mo_canBe 21 = .ok (.aload_n 0, 1) := by decide +kernel
theorem d_Mo_canBe_22 : decode b_Mo_canBe 22 = .ok (.getfield 7, 3) := by decide +kernel
theorem d_Mo_canBe_25 : decode b_Mo_canBe 25 = .ok (.iload_n 1, 1) := by decide +kernel
theorem d_Mo_canBe_26 : decode b_Mo_canBe 26 = .ok (.baload, 1) := by decide +kernel
theorem d_Mo_canBe_27 : decode b_Mo_canBe 27 = .ok (.ifCond .ne 11, 3) := by decide +kernel
theorem d_Mo_canBe_30 : decode b_Mo_canBe 30 = .ok (.aload_n 0, 1) := by decide +kernel
theorem d_Mo_canBe_31 : decode b_Mo_canBe 31 = .ok (.iload_n 1, 1) := by decide +kernel
theorem d_Mo_canBe_32 : decode b_Mo_canBe 32 = .ok (.invokevirtual 86, 3) := by decide +kernel
theorem d_Mo_canBe_35 : decode b_Mo_canBe 35 = .ok (.ifCond .eq 7, 3) := by decide +kernel
theorem d_Mo_canBe_38 : decode b_Mo_canBe 38 = .ok (.iconst 1, 1) := by decide +kernel
theorem d_Mo_canBe_39 : decode b_Mo_canBe 39 = .ok (.goto 4, 3) := by decide +kernel
theorem d_Mo_canBe_42 : decode b_Mo_canBe 42 = .ok (.iconst 0, 1) := by decide +kernel
theorem d_Mo_canBe_43 : decode b_Mo_canBe 43 = .ok (.ireturn, 1) := by decide +kernel
theorem wd_812 : (Cond.code ({ cls := "SheetWarModel", name := "bordersSea", desc := "(I)Z" } : MethodName) prog_8_method_8_code (4 : Nat) (Option.some FieldType.boolean)) ∈ TB := tb_t 812 (by decide +kernel) (by decide +kernel)
theorem wd_809 : (Cond.methodLink "SheetWarModel" (86 : Nat) ({ cls := "SheetWarModel", name := "bordersSea", desc := "(I)Z" } : MethodName)) ∈ TB := tb_t 809 (by decide +kernel) (by decide +kernel)
theorem wd_811 : (Cond.instanceMethod ({ cls := "SheetWarModel", name := "bordersSea", desc := "(I)Z" } : MethodName)) ∈ TB := tb_t 811 (by decide +kernel) (by decide +kernel)
theorem wp_39 : Cond.selects "SheetWarModel" ⟨"SheetWarModel", "bordersSea", "(I)Z"⟩ ⟨"SheetWarModel", "bordersSea", "(I)Z"⟩ ∈ TB := tb_p 39 (by decide +kernel) (by decide +kernel)
set_option maxHeartbeats 4000000 in
set_option maxRecDepth 100000 in
theorem c_Mo_canBe (l : Launch) (D : va_G) (cI cZ cJ cS : ClassId) (aT : Nat) (ceT : Cell) (g0 m_sea m_center m_home m_borders m_owner m_units m_kind m_toX m_toY m_results m_known m_reached m_way m_aside m_origin m_retreats m_contested m_moved m_past : Nat) (n : Nat) (co mp mt msh : Int32) (S : Nat → Bool) (Bo : Nat → Bool) (a : Nat) (k : Int32)  (h_a : a < 12) (hn : n ≤ 12) : Met l y_Mo_canBe w_Mo_canBe ({ frames := 2, cells := 0, slots := 0, locals := 45 }) (tP D cI cZ cJ cS aT ceT [.ref g0, .int (nI a), .int k] [(g0, .inr (6, [.int co, .int (nI n), .ref m_sea, .ref m_center, .ref m_home, .ref m_borders, .int mp, .int mt, .ref m_owner, .ref m_units, .ref m_kind, .ref m_toX, .ref m_toY, .ref m_results, .ref m_known, .ref m_reached, .ref m_way, .ref m_aside, .ref m_origin, .ref m_retreats, .ref m_contested, .ref m_moved, .int msh, .ref m_past])), (m_sea, .inl (cZ, 12, .inl (fun j => bI (S j)))), (m_borders, .inl (cZ, 144, .inl (fun j => bI (Bo j))))]) (vp_Si (fun r => r = bI (if k = 0 then !S a else S a || anyB (fun b => S b && Bo (12 * a + b)) n))) 0 0 (fun _ => False) := by
  refine Met.ofW (cc := b_Mo_canBe) (maxL := 3) (ret := (some .boolean)) (by decide) rfl ?_
  intro p e s m args below meth c s₁ B hml hv
  obtain ⟨rfl, hP, hK, hX⟩ := hv
  have hx := B.exec
  have hb := B.bytes
  have hr := B.returns
  have hts0 := atoms_spec (ws := w_Mo_canBe) B.pre
  have hts : ∀ w ∈ TB, w.before _ s = true := fun w h => hts0 w (List.mem_cons_of_mem _ h)
  have hown : s.vm.findClass R_Mo = some m.cls := findClass_of_methodNamed B.named
  have hlocks := B.notSynchronized
  have hXH : s.heap[aT]? = s.heap[aT]? := rfl
  have hl := lv_entry ([.ref g0, .int (nI a), .int k]) (n := 3) (Nat.le_of_ble_eq_true rfl)
  rw [lg_entry_eq]
  generalize (lg_sl ([.ref g0, .int (nI a), .int k]) ++ List.replicate (3 - (lg_sl ([.ref g0, .int (nI a), .int k])).length) Slot.unset).toArray = ls at hl ⊢
  have hl : lv_has ls 3 [(0, .ref g0), (1, .int (nI a)), (2, .int k)] := hl
  refine lv_iload_n hx hb d_Mo_canBe_0 rfl (lv_at hl 2 rfl) ?_
  refine lv_if_ne (tgt := 21) hx hb d_Mo_canBe_1 (by decide) (fun hc1 => ?_) (fun hc1 => ?_)
  · -- 1 taken
    refine lv_aload_n hx hb d_Mo_canBe_21 rfl (lv_at hl 0 rfl) ?_
    refine va_get (D := D) (ci := 6) (v := .ref m_sea) (C := R_Mo) (T := T_Mo) (N := 24) hx hb hts hin_Mo hown hK hP 0 rfl rfl 2 (by decide) (hts _ wd_706) (fun _ h9 => h9) rfl d_Mo_canBe_22 ?_
    refine lv_iload_n hx hb d_Mo_canBe_25 rfl (lv_at hl 1 rfl) ?_
    refine tr_zald (v := bI (S a)) hx hb hK hP 1 1 rfl rfl a h_a (by decide) rfl d_Mo_canBe_26 ?_
    rcases bI_c (S a) with ⟨hb3, e9⟩ | ⟨hb3, e9⟩
    · refine tr_top e9 ?_
      refine lv_if_ne (tgt := 38) hx hb d_Mo_canBe_27 (by decide) (fun _ => ?_) (fun h0 => absurd h0 (by decide))
      refine lv_iconst (v := 1) hx hb d_Mo_canBe_38 (by decide) ?_
      refine lv_goto (tgt := 43) hx hb d_Mo_canBe_39 (by decide) ?_
      exact W.zret (v := 1) hx hb hr (by decide) (fun t ht hW => ⟨1, rfl, (bI_t (by simp [hc1, hb3])).symm, ht⟩) (fun q hq => by cases hq) d_Mo_canBe_43
    · refine tr_top e9 ?_
      refine lv_if_ne (tgt := 38) hx hb d_Mo_canBe_27 (by decide) (fun h0 => absurd (by decide) h0) (fun _ => ?_)
      refine lv_aload_n hx hb d_Mo_canBe_30 rfl (lv_at hl 0 rfl) ?_
      refine lv_iload_n hx hb d_Mo_canBe_31 rfl (lv_at hl 1 rfl) ?_
      have hPc := hP.sub (ws' := [(g0, .inr (6, [.int co, .int (nI n), .ref m_sea, .ref m_center, .ref m_home, .ref m_borders, .int mp, .int mt, .ref m_owner, .ref m_units, .ref m_kind, .ref m_toX, .ref m_toY, .ref m_results, .ref m_known, .ref m_reached, .ref m_way, .ref m_aside, .ref m_origin, .ref m_retreats, .ref m_contested, .ref m_moved, .int msh, .ref m_past])), (m_sea, .inl (cZ, 12, .inl (fun j => bI (S j)))), (m_borders, .inl (cZ, 144, .inl (fun j => bI (Bo j))))]) [0, 1, 2] rfl
      refine vp_callSi (va_Run.run (va_runV (As := [.int (nI a)]) (rest := []) ⟨hx, hb, hml, hown, hts⟩ (c_Mo_bordersSea l D cI cZ cJ cS aT ceT  g0 m_sea m_center m_home m_borders m_owner m_units m_kind m_toX m_toY m_results m_known m_reached m_way m_aside m_origin m_retreats m_contested m_moved m_past n co mp mt msh S Bo a h_a hn) (cwV 1 hts (tb_4 wd_809 wd_811 wp_39 wd_8 (tb_c wd_812)) rfl rfl rfl ⟨rfl, by decide, by decide, by decide +kernel⟩ ⟨Nat.le_of_ble_eq_true rfl, Nat.le_of_ble_eq_true rfl⟩) (tP_V hK hX hXH hPc (q := 0) rfl rfl) rfl rfl hl.1 rfl (lv_room (Nat.le_of_ble_eq_true rfl)) d_Mo_canBe_32 ⟨Nat.le_of_ble_eq_true rfl, Nat.le_of_ble_eq_true rfl⟩)) (fun r6 hr9 => ?_)
      rw [hr9]
      rcases bI_c (anyB (fun b => S b && Bo (12 * a + b)) n) with ⟨hb8, e9⟩ | ⟨hb8, e9⟩
      · refine tr_top e9 ?_
        refine lv_if_eq (tgt := 42) hx hb d_Mo_canBe_35 (by decide) (fun h0 => absurd h0 (by decide)) (fun _ => ?_)
        refine lv_iconst (v := 1) hx hb d_Mo_canBe_38 (by decide) ?_
        refine lv_goto (tgt := 43) hx hb d_Mo_canBe_39 (by decide) ?_
        exact W.zret (v := 1) hx hb hr (by decide) (fun t ht hW => ⟨1, rfl, (bI_t (by simp [hc1, hb3, hb8])).symm, ht⟩) (fun q hq => by cases hq) d_Mo_canBe_43
      · refine tr_top e9 ?_
        refine lv_if_eq (tgt := 42) hx hb d_Mo_canBe_35 (by decide) (fun _ => ?_) (fun h0 => absurd (by decide) h0)
        refine lv_iconst (v := 0) hx hb d_Mo_canBe_42 (by decide) ?_
        exact W.zret (v := 0) hx hb hr (by decide) (fun t ht hW => ⟨0, rfl, (bI_f (by simp [hc1, hb3, hb8])).symm, ht⟩) (fun q hq => by cases hq) d_Mo_canBe_43
  · -- 1 not taken
    refine lv_aload_n hx hb d_Mo_canBe_4 rfl (lv_at hl 0 rfl) ?_
    refine va_get (D := D) (ci := 6) (v := .ref m_sea) (C := R_Mo) (T := T_Mo) (N := 24) hx hb hts hin_Mo hown hK hP 0 rfl rfl 2 (by decide) (hts _ wd_706) (fun _ h9 => h9) rfl d_Mo_canBe_5 ?_
    refine lv_iload_n hx hb d_Mo_canBe_8 rfl (lv_at hl 1 rfl) ?_
    refine tr_zald (v := bI (S a)) hx hb hK hP 1 1 rfl rfl a h_a (by decide) rfl d_Mo_canBe_9 ?_
    rcases bI_c (S a) with ⟨hb12, e9⟩ | ⟨hb12, e9⟩
    · refine tr_top e9 ?_
      refine lv_if_ne (tgt := 17) hx hb d_Mo_canBe_10 (by decide) (fun _ => ?_) (fun h0 => absurd h0 (by decide))
      refine lv_iconst (v := 0) hx hb d_Mo_canBe_17 (by decide) ?_
      refine lv_goto (tgt := 43) hx hb d_Mo_canBe_18 (by decide) ?_
      exact W.zret (v := 0) hx hb hr (by decide) (fun t ht hW => ⟨0, rfl, (bI_f (by simp [hc1, hb12])).symm, ht⟩) (fun q hq => by cases hq) d_Mo_canBe_43
    · refine tr_top e9 ?_
      refine lv_if_ne (tgt := 17) hx hb d_Mo_canBe_10 (by decide) (fun h0 => absurd (by decide) h0) (fun _ => ?_)
      refine lv_iconst (v := 1) hx hb d_Mo_canBe_13 (by decide) ?_
      refine lv_goto (tgt := 43) hx hb d_Mo_canBe_14 (by decide) ?_
      exact W.zret (v := 1) hx hb hr (by decide) (fun t ht hW => ⟨1, rfl, (bI_t (by simp [hc1, hb12])).symm, ht⟩) (fun q hq => by cases hq) d_Mo_canBe_43

def hdg (fu : Nat → Int32) (Kd X Y K : Nat → Nat) (n a : Nat) (gr : Bool) : Nat :=
  if fu a < 0 then 0 else if mvs fu Kd a = true then (if (decide (K a = 1) || (decide (K a = 0) && !gr)) = true then 0 else 1) else 1 + numB (fun b => isS fu Kd X Y b a && (decide (K b = 1) || gr && decide (K b = 0))) n

theorem d_Mo_holding_0 : decode b_Mo_holding 0 = .ok (.aload_n 0, 1) := by decide +kernel
theorem d_Mo_holding_1 : decode b_Mo_holding 1 = .ok (.getfield 26, 3) := by decide +kernel
theorem d_Mo_holding_4 : decode b_Mo_holding 4 = .ok (.iload_n 1, 1) := by decide +kernel
theorem d_Mo_holding_5 : decode b_Mo_holding 5 = .ok (.iaload, 1) := by decide +kernel
theorem d_Mo_holding_6 : decode b_Mo_holding 6 = .ok (.ifCond .ge 5, 3) := by decide +kernel
theorem d_Mo_holding_9 : decode b_Mo_holding 9 = .ok (.iconst 0, 1) := by decide +kernel
theorem d_Mo_holding_10 : decode b_Mo_holding 10 = .ok (.ireturn, 1) := by decide +kernel
theorem d_Mo_holding_11 : decode b_Mo_holding 11 = .ok (.aload_n 0, 1) := by decide +kernel
theorem d_Mo_holding_12 : decode b_Mo_holding 12 = .ok (.iload_n 1, 1) := by decide +kernel
theorem d_Mo_holding_13 : decode b_Mo_holding 13 = .ok (.invokevirtual 109, 3) := by decide +kernel
theorem d_Mo_holding_16 : decode b_Mo_holding 16 = .ok (.ifCond .eq 32, 3) := by decide +kernel
theorem d_Mo_holding_19 : decode b_Mo_holding 19 = .ok (.aload_n 0, 1) := by decide +kernel
theorem d_Mo_holding_20 : decode b_Mo_holding 20 = .ok (.getfield 41, 3) := by decide +kernel
theorem d_Mo_holding_23 : decode b_Mo_holding 23 = .ok (.iload_n 1, 1) := by decide +kernel
theorem d_Mo_holding_24 : decode b_Mo_holding 24 = .ok (.iaload, 1) := by decide +kernel
theorem d_Mo_holding_25 : decode b_Mo_holding 25 = .ok (.iconst 1, 1) := by decide +kernel
theorem d_Mo_holding_26 : decode b_Mo_holding 26 = .ok (.if_icmp .eq 16, 3) := by decide +kernel
theorem d_Mo_holding_29 : decode b_Mo_holding 29 = .ok (.aload_n 0, 1) := by decide +kernel
theorem d_Mo_holding_30 : decode b_Mo_holding 30 = .ok (.getfield 41, 3) := by decide +kernel
theorem d_Mo_holding_33 : decode b_Mo_holding 33 = .ok (.iload_n 1, 1) := by decide +kernel
theorem d_Mo_holding_34 : decode b_Mo_holding 34 = .ok (.iaload, 1) := by decide +kernel
theorem d_Mo_holding_35 : decode b_Mo_holding 35 = .ok (.ifCond .ne 11, 3) := by decide +kernel
theorem d_Mo_holding_38 : decode b_Mo_holding 38 = .ok (.iload_n 2, 1) := by decide +kernel
theorem d_Mo_holding_39 : decode b_Mo_holding 39 = .ok (.ifCond .ne 7, 3) := by decide +kernel
theorem d_Mo_holding_42 : decode b_Mo_holding 42 = .ok (.iconst 0, 1) := by decide +kernel
theorem d_Mo_holding_43 : decode b_Mo_holding 43 = .ok (.goto 4, 3) := by decide +kernel
theorem d_Mo_holding_46 : decode b_Mo_holding 46 = .ok (.iconst 1, 1) := by decide +kernel
theorem d_Mo_holding_47 : decode b_Mo_holding 47 = .ok (.ireturn, 1) := by decide +kernel
theorem d_Mo_holding_48 : decode b_Mo_holding 48 = .ok (.iconst 1, 1) := by decide +kernel
theorem d_Mo_holding_49 : decode b_Mo_holding 49 = .ok (.istore_n 3, 1) := by decide +kernel
theorem d_Mo_holding_50 : decode b_Mo_holding 50 = .ok (.iconst 0, 1) := by decide +kernel
theorem d_Mo_holding_51 : decode b_Mo_holding 51 = .ok (.istore 4, 2) := by decide +kernel
theorem d_Mo_holding_53 : decode b_Mo_holding 53 = .ok (.iload 4, 2) := by decide +kernel
theorem d_Mo_holding_55 : decode b_Mo_holding 55 = .ok (.aload_n 0, 1) := by decide +kernel
theorem d_Mo_holding_56 : decode b_Mo_holding 56 = .ok (.getfield 72, 3) := by decide +kernel
theorem d_Mo_holding_59 : decode b_Mo_holding 59 = .ok (.if_icmp .ge 47, 3) := by decide +kernel
theorem d_Mo_holding_62 : decode b_Mo_holding 62 = .ok (.aload_n 0, 1) := by decide +kernel
theorem d_Mo_holding_63 : decode b_Mo_holding 63 = .ok (.iload 4, 2) := by decide +kernel
theorem d_Mo_holding_65 : decode b_Mo_holding 65 = .ok (.iload_n 1, 1) := by decide +kernel
theorem d_Mo_holding_66 : decode b_Mo_holding 66 = .ok (.invokevirtual 142, 3) := by decide +kernel
theorem d_Mo_holding_69 : decode b_Mo_holding 69 = .ok (.ifCond .eq 31, 3) := by decide +kernel
theorem d_Mo_holding_72 : decode b_Mo_holding 72 = .ok (.aload_n 0, 1) := by decide +kernel
theorem d_Mo_holding_73 : decode b_Mo_holding 73 = .ok (.getfield 41, 3) := by decide +kernel
theorem d_Mo_holding_76 : decode b_Mo_holding 76 = .ok (.iload 4, 2) := by decide +kernel
theorem d_Mo_holding_78 : decode b_Mo_holding 78 = .ok (.iaload, 1) := by decide +kernel
theorem d_Mo_holding_79 : decode b_Mo_holding 79 = .ok (.iconst 1, 1) := by decide +kernel
theorem d_Mo_holding_80 : decode b_Mo_holding 80 = .ok (.if_icmp .eq 17, 3) := by decide +kernel
theorem d_Mo_holding_83 : decode b_Mo_holding 83 = .ok (.iload_n 2, 1) := by decide +kernel
theorem d_Mo_holding_84 : decode b_Mo_holding 84 = .ok (.ifCond .eq 16, 3) := by decide +kernel
theorem d_Mo_holding_87 : decode b_Mo_holding 87 = .ok (.aload_n 0, 1) := by decide +kernel
theorem d_Mo_holding_88 : decode b_Mo_holding 88 = .ok (.getfield 41, 3) := by decide +kernel
theorem d_Mo_holding_91 : decode b_Mo_holding 91 = .ok (.iload 4, 2) := by decide +kernel
theorem d_Mo_holding_93 : decode b_Mo_holding 93 = .ok (.iaload, 1) := by decide +kernel
theorem d_Mo_holding_94 : decode b_Mo_holding 94 = .ok (.ifCond .ne 6, 3) := by decide +kernel
theorem d_Mo_holding_97 : decode b_Mo_holding 97 = .ok (.iinc 3 1, 3) := by decide +kernel
theorem d_Mo_holding_100 : decode b_Mo_holding 100 = .ok (.iinc 4 1, 3) := by decide +kernel
theorem d_Mo_holding_103 : decode b_Mo_holding 103 = .ok (.goto (-50), 3) := by decide +kernel
theorem d_Mo_holding_106 : decode b_Mo_holding 106 = .ok (.iload_n 3, 1) := by decide +kernel
theorem d_Mo_holding_107 : decode b_Mo_holding 107 = .ok (.ireturn, 1) := by decide +kernel
theorem wd_860 : (Cond.code ({ cls := "SheetWarModel", name := "isForStaying", desc := "(II)Z" } : MethodName) prog_8_method_22_code (3 : Nat) (Option.some FieldType.boolean)) ∈ TB := tb_t 860 (by decide +kernel) (by decide +kernel)
theorem wd_857 : (Cond.methodLink "SheetWarModel" (142 : Nat) ({ cls := "SheetWarModel", name := "isForStaying", desc := "(II)Z" } : MethodName)) ∈ TB := tb_t 857 (by decide +kernel) (by decide +kernel)
theorem wd_859 : (Cond.instanceMethod ({ cls := "SheetWarModel", name := "isForStaying", desc := "(II)Z" } : MethodName)) ∈ TB := tb_t 859 (by decide +kernel) (by decide +kernel)
theorem wp_48 : Cond.selects "SheetWarModel" ⟨"SheetWarModel", "isForStaying", "(II)Z"⟩ ⟨"SheetWarModel", "isForStaying", "(II)Z"⟩ ∈ TB := tb_p 48 (by decide +kernel) (by decide +kernel)
set_option maxHeartbeats 4000000 in
set_option maxRecDepth 100000 in
theorem c_Mo_holding (l : Launch) (D : va_G) (cI cZ cJ cS : ClassId) (aT : Nat) (ceT : Cell) (g0 m_sea m_center m_home m_borders m_owner m_units m_kind m_toX m_toY m_results m_known m_reached m_way m_aside m_origin m_retreats m_contested m_moved m_past : Nat) (n : Nat) (co mp mt msh : Int32) (fu : Nat → Int32) (Kd : Nat → Nat) (X : Nat → Nat) (Y : Nat → Nat) (K : Nat → Nat) (a : Nat) (gr : Bool) (hKd : ∀ j, Kd j < 4) (hX9 : ∀ j, X j < 12) (hY9 : ∀ j, Y j < 12) (hK9 : ∀ j, K j < 3) (h_a : a < 12) (hn : n ≤ 12) : Met l y_Mo_holding w_Mo_holding ({ frames := 2, cells := 0, slots := 0, locals := 43 }) (tP D cI cZ cJ cS aT ceT [.ref g0, .int (nI a), .int (bI gr)] [(g0, .inr (6, [.int co, .int (nI n), .ref m_sea, .ref m_center, .ref m_home, .ref m_borders, .int mp, .int mt, .ref m_owner, .ref m_units, .ref m_kind, .ref m_toX, .ref m_toY, .ref m_results, .ref m_known, .ref m_reached, .ref m_way, .ref m_aside, .ref m_origin, .ref m_retreats, .ref m_contested, .ref m_moved, .int msh, .ref m_past])), (m_units, .inl (cI, 12, .inl fu)), (m_kind, .inl (cI, 12, .inl (fun j => nI (Kd j)))), (m_toX, .inl (cI, 12, .inl (fun j => nI (X j)))), (m_toY, .inl (cI, 12, .inl (fun j => nI (Y j)))), (m_known, .inl (cI, 12, .inl (fun j => nI (K j))))]) (vp_Si (fun r => r = nI (hdg fu Kd X Y K n a gr))) 0 0 (fun _ => False) := by
  refine Met.ofW (cc := b_Mo_holding) (maxL := 5) (ret := (some .int)) (by decide) rfl ?_
  intro p e s m args below meth c s₁ B hml hv
  obtain ⟨rfl, hP, hK, hX⟩ := hv
  have hx := B.exec
  have hb := B.bytes
  have hr := B.returns
  have hts0 := atoms_spec (ws := w_Mo_holding) B.pre
  have hts : ∀ w ∈ TB, w.before _ s = true := fun w h => hts0 w (List.mem_cons_of_mem _ h)
  have hown : s.vm.findClass R_Mo = some m.cls := findClass_of_methodNamed B.named
  have hlocks := B.notSynchronized
  have hXH : s.heap[aT]? = s.heap[aT]? := rfl
  have hl := lv_entry ([.ref g0, .int (nI a), .int (bI gr)]) (n := 5) (Nat.le_of_ble_eq_true rfl)
  rw [lg_entry_eq]
  generalize (lg_sl ([.ref g0, .int (nI a), .int (bI gr)]) ++ List.replicate (5 - (lg_sl ([.ref g0, .int (nI a), .int (bI gr)])).length) Slot.unset).toArray = ls at hl ⊢
  have hl : lv_has ls 5 [(0, .ref g0), (1, .int (nI a)), (2, .int (bI gr))] := hl
  refine lv_aload_n hx hb d_Mo_holding_0 rfl (lv_at hl 0 rfl) ?_
  refine va_get (D := D) (ci := 6) (v := .ref m_units) (C := R_Mo) (T := T_Mo) (N := 24) hx hb hts hin_Mo hown hK hP 0 rfl rfl 9 (by decide) (hts _ wd_713) (fun _ h9 => h9) rfl d_Mo_holding_1 ?_
  refine lv_iload_n hx hb d_Mo_holding_4 rfl (lv_at hl 1 rfl) ?_
  refine tr_iald (v := fu a) hx hb hK hP 1 0 rfl rfl a h_a (by decide) rfl d_Mo_holding_5 ?_
  refine lv_if_ge (tgt := 11) hx hb d_Mo_holding_6 (by decide) (fun hc1 => ?_) (fun hc1 => ?_)
  · -- 6 taken
    have hc1 : ¬ (fu a) < 0 := Int32.not_lt.mpr hc1
    refine lv_aload_n hx hb d_Mo_holding_11 rfl (lv_at hl 0 rfl) ?_
    refine lv_iload_n hx hb d_Mo_holding_12 rfl (lv_at hl 1 rfl) ?_
    have hPc := hP.sub (ws' := [(g0, .inr (6, [.int co, .int (nI n), .ref m_sea, .ref m_center, .ref m_home, .ref m_borders, .int mp, .int mt, .ref m_owner, .ref m_units, .ref m_kind, .ref m_toX, .ref m_toY, .ref m_results, .ref m_known, .ref m_reached, .ref m_way, .ref m_aside, .ref m_origin, .ref m_retreats, .ref m_contested, .ref m_moved, .int msh, .ref m_past])), (m_units, .inl (cI, 12, .inl fu)), (m_kind, .inl (cI, 12, .inl (fun j => nI (Kd j))))]) [0, 1, 2] rfl
    refine vp_callSi (va_Run.run (va_runV (As := [.int (nI a)]) (rest := []) ⟨hx, hb, hml, hown, hts⟩ (c_Mo_moves l D cI cZ cJ cS aT ceT  g0 m_sea m_center m_home m_borders m_owner m_units m_kind m_toX m_toY m_results m_known m_reached m_way m_aside m_origin m_retreats m_contested m_moved m_past n co mp mt msh fu Kd a hKd h_a) (cwV 1 hts (tb_4 wd_853 wd_855 wp_47 wd_8 (tb_c wd_856)) rfl rfl rfl ⟨rfl, by decide, by decide, by decide +kernel⟩ ⟨Nat.le_of_ble_eq_true rfl, Nat.le_of_ble_eq_true rfl⟩) (tP_V hK hX hXH hPc (q := 0) rfl rfl) rfl rfl hl.1 rfl (lv_room (Nat.le_of_ble_eq_true rfl)) d_Mo_holding_13 ⟨Nat.le_of_ble_eq_true rfl, Nat.le_of_ble_eq_true rfl⟩)) (fun r2 hr9 => ?_)
    rw [hr9]
    rcases bI_c (mvs fu Kd a) with ⟨hb4, e9⟩ | ⟨hb4, e9⟩
    · refine tr_top e9 ?_
      refine lv_if_eq (tgt := 48) hx hb d_Mo_holding_16 (by decide) (fun h0 => absurd h0 (by decide)) (fun _ => ?_)
      refine lv_aload_n hx hb d_Mo_holding_19 rfl (lv_at hl 0 rfl) ?_
      refine va_get (D := D) (ci := 6) (v := .ref m_known) (C := R_Mo) (T := T_Mo) (N := 24) hx hb hts hin_Mo hown hK hP 0 rfl rfl 14 (by decide) (hts _ wd_718) (fun _ h9 => h9) rfl d_Mo_holding_20 ?_
      refine lv_iload_n hx hb d_Mo_holding_23 rfl (lv_at hl 1 rfl) ?_
      refine tr_iald (v := nI (K a)) hx hb hK hP 5 0 rfl rfl a h_a (by decide) rfl d_Mo_holding_24 ?_
      refine lv_iconst (v := 1) hx hb d_Mo_holding_25 (by decide) ?_
      refine lv_icmp_eq (tgt := 42) hx hb d_Mo_holding_26 (by decide) (fun hc6 => ?_) (fun hc6 => ?_)
      · -- 26 taken
        have hc6 : K a = 1 := (nI_lit (Nat.lt_trans (hK9 _) (by decide)) (by decide)).mp hc6
        refine lv_iconst (v := 0) hx hb d_Mo_holding_42 (by decide) ?_
        refine lv_goto (tgt := 47) hx hb d_Mo_holding_43 (by decide) ?_
        exact W.iret (v := 0) hx hb hr (fun t ht hW => ⟨0, rfl, congrArg nI (show 0 = hdg fu Kd X Y K n a gr by simp [hdg, hc1, hb4, hc6]), ht⟩) (fun q hq => by cases hq) d_Mo_holding_47
      · -- 26 not taken
        have hc6 : ¬ K a = 1 := fun h9 => hc6 (congrArg nI h9)
        refine lv_aload_n hx hb d_Mo_holding_29 rfl (lv_at hl 0 rfl) ?_
        refine va_get (D := D) (ci := 6) (v := .ref m_known) (C := R_Mo) (T := T_Mo) (N := 24) hx hb hts hin_Mo hown hK hP 0 rfl rfl 14 (by decide) (hts _ wd_718) (fun _ h9 => h9) rfl d_Mo_holding_30 ?_
        refine lv_iload_n hx hb d_Mo_holding_33 rfl (lv_at hl 1 rfl) ?_
        refine tr_iald (v := nI (K a)) hx hb hK hP 5 0 rfl rfl a h_a (by decide) rfl d_Mo_holding_34 ?_
        refine lv_if_ne (tgt := 46) hx hb d_Mo_holding_35 (by decide) (fun hc7 => ?_) (fun hc7 => ?_)
        · -- 35 taken
          have hc7 : ¬ K a = 0 := fun h9 => hc7 (congrArg nI h9)
          refine lv_iconst (v := 1) hx hb d_Mo_holding_46 (by decide) ?_
          exact W.iret (v := 1) hx hb hr (fun t ht hW => ⟨1, rfl, congrArg nI (show 1 = hdg fu Kd X Y K n a gr by simp [hdg, hc1, hb4, hc6, hc7]), ht⟩) (fun q hq => by cases hq) d_Mo_holding_47
        · -- 35 not taken
          have hc7 : K a = 0 := (nI_lit (Nat.lt_trans (hK9 _) (by decide)) (by decide)).mp hc7
          refine lv_iload_n hx hb d_Mo_holding_38 rfl (lv_at hl 2 rfl) ?_
          rcases bI_c (gr) with ⟨hb9, e9⟩ | ⟨hb9, e9⟩
          · refine tr_top e9 ?_
            refine lv_if_ne (tgt := 46) hx hb d_Mo_holding_39 (by decide) (fun _ => ?_) (fun h0 => absurd h0 (by decide))
            refine lv_iconst (v := 1) hx hb d_Mo_holding_46 (by decide) ?_
            exact W.iret (v := 1) hx hb hr (fun t ht hW => ⟨1, rfl, congrArg nI (show 1 = hdg fu Kd X Y K n a gr by simp [hdg, hc1, hb4, hc6, hc7, hb9]), ht⟩) (fun q hq => by cases hq) d_Mo_holding_47
          · refine tr_top e9 ?_
            refine lv_if_ne (tgt := 46) hx hb d_Mo_holding_39 (by decide) (fun h0 => absurd (by decide) h0) (fun _ => ?_)
            refine lv_iconst (v := 0) hx hb d_Mo_holding_42 (by decide) ?_
            refine lv_goto (tgt := 47) hx hb d_Mo_holding_43 (by decide) ?_
            exact W.iret (v := 0) hx hb hr (fun t ht hW => ⟨0, rfl, congrArg nI (show 0 = hdg fu Kd X Y K n a gr by simp [hdg, hc1, hb4, hc6, hc7, hb9]), ht⟩) (fun q hq => by cases hq) d_Mo_holding_47
    · refine tr_top e9 ?_
      refine lv_if_eq (tgt := 48) hx hb d_Mo_holding_16 (by decide) (fun _ => ?_) (fun h0 => absurd (by decide) h0)
      refine lv_iconst (v := 1) hx hb d_Mo_holding_48 (by decide) ?_
      refine lv_istore_n (lv' := [(3, .int 1), (0, .ref g0), (1, .int (nI a)), (2, .int (bI gr))]) hx hb d_Mo_holding_49 rfl hl (by decide) rfl (fun ls hl => ?_)
      refine lv_iconst (v := 0) hx hb d_Mo_holding_50 (by decide) ?_
      refine lv_istore (lv' := [(4, .int 0), (3, .int 1), (0, .ref g0), (1, .int (nI a)), (2, .int (bI gr))]) hx hb d_Mo_holding_51 hl (by decide) rfl (fun ls hl => ?_)
      have loop : ∀ (k i : Nat) (ls : Array Slot), i + k = n → lv_has ls 5 [(4, .int (nI i)), (3, .int (nI (1 + numB (fun b => isS fu Kd X Y b a && (decide (K b = 1) || gr && decide (K b = 0))) i))), (0, .ref g0), (1, .int (nI a)), (2, .int (bI gr))] → W p l e (headSpec w_Mo_holding ({ frames := 2, cells := 0, slots := 0, locals := 43 })).room s m ([.ref g0, .int (nI a), .int (bI gr)]).toArray below meth c s.heap [] 0 0 (MQ below (vp_Si (fun r => r = nI (hdg fu Kd X Y K n a gr))) ([.ref g0, .int (nI a), .int (bI gr)]).toArray s 0 0 (fun _ => False)) (F0 m 53 ls []) := by
        intro k
        induction k with
        | zero =>
          intro i ls hi hl
          have hie : i = n := by omega
          rw [hie] at hl
          refine lv_iload hx hb d_Mo_holding_53 (lv_at hl 0 rfl) ?_
          refine lv_aload_n hx hb d_Mo_holding_55 rfl (lv_at hl 2 rfl) ?_
          refine va_get (D := D) (ci := 6) (v := .int (nI n)) (C := R_Mo) (T := T_Mo) (N := 24) hx hb hts hin_Mo hown hK hP 0 rfl rfl 1 (by decide) (hts _ wd_705) (fun _ h9 => h9) rfl d_Mo_holding_56 ?_
          refine lv_icmp_ge (tgt := 106) hx hb d_Mo_holding_59 (by decide) (fun _ => ?_) (fun h0 => absurd (Int32.le_refl _) h0)
          refine lv_iload_n hx hb d_Mo_holding_106 rfl (lv_at hl 1 rfl) ?_
          exact W.iret (v := nI (1 + numB (fun b => isS fu Kd X Y b a && (decide (K b = 1) || gr && decide (K b = 0))) n)) hx hb hr (fun t ht hW => ⟨nI (1 + numB (fun b => isS fu Kd X Y b a && (decide (K b = 1) || gr && decide (K b = 0))) n), rfl, congrArg nI (show 1 + numB (fun b => isS fu Kd X Y b a && (decide (K b = 1) || gr && decide (K b = 0))) n = hdg fu Kd X Y K n a gr by simp [hdg, hc1, hb4]), ht⟩) (fun q hq => by cases hq) d_Mo_holding_107
        | succ k ih =>
          intro i ls hi hl
          have hlt : i < n := by omega
          have hlt12 : i < 12 := by omega
          refine lv_iload hx hb d_Mo_holding_53 (lv_at hl 0 rfl) ?_
          refine lv_aload_n hx hb d_Mo_holding_55 rfl (lv_at hl 2 rfl) ?_
          refine va_get (D := D) (ci := 6) (v := .int (nI n)) (C := R_Mo) (T := T_Mo) (N := 24) hx hb hts hin_Mo hown hK hP 0 rfl rfl 1 (by decide) (hts _ wd_705) (fun _ h9 => h9) rfl d_Mo_holding_56 ?_
          refine lv_icmp_ge (tgt := 106) hx hb d_Mo_holding_59 (by decide) (fun h0 => absurd h0 (nI_ge hlt (by omega))) (fun _ => ?_)
          refine lv_aload_n hx hb d_Mo_holding_62 rfl (lv_at hl 2 rfl) ?_
          refine lv_iload hx hb d_Mo_holding_63 (lv_at hl 0 rfl) ?_
          refine lv_iload_n hx hb d_Mo_holding_65 rfl (lv_at hl 3 rfl) ?_
          have hPc := hP.sub (ws' := [(g0, .inr (6, [.int co, .int (nI n), .ref m_sea, .ref m_center, .ref m_home, .ref m_borders, .int mp, .int mt, .ref m_owner, .ref m_units, .ref m_kind, .ref m_toX, .ref m_toY, .ref m_results, .ref m_known, .ref m_reached, .ref m_way, .ref m_aside, .ref m_origin, .ref m_retreats, .ref m_contested, .ref m_moved, .int msh, .ref m_past])), (m_units, .inl (cI, 12, .inl fu)), (m_kind, .inl (cI, 12, .inl (fun j => nI (Kd j)))), (m_toX, .inl (cI, 12, .inl (fun j => nI (X j)))), (m_toY, .inl (cI, 12, .inl (fun j => nI (Y j))))]) [0, 1, 2, 3, 4] rfl
          refine vp_callSi (va_Run.run (va_runV (As := [.int (nI i), .int (nI a)]) (rest := []) ⟨hx, hb, hml, hown, hts⟩ (c_Mo_isForStaying l D cI cZ cJ cS aT ceT  g0 m_sea m_center m_home m_borders m_owner m_units m_kind m_toX m_toY m_results m_known m_reached m_way m_aside m_origin m_retreats m_contested m_moved m_past n co mp mt msh fu Kd X Y i a hKd hX9 hY9 hlt12 h_a) (cwV 2 hts (tb_4 wd_857 wd_859 wp_48 wd_8 (tb_c wd_860)) rfl rfl rfl ⟨rfl, by decide, by decide, by decide +kernel⟩ ⟨Nat.le_of_ble_eq_true rfl, Nat.le_of_ble_eq_true rfl⟩) (tP_V hK hX hXH hPc (q := 0) rfl rfl) rfl rfl hl.1 rfl (lv_room (Nat.le_of_ble_eq_true rfl)) d_Mo_holding_66 ⟨Nat.le_of_ble_eq_true rfl, Nat.le_of_ble_eq_true rfl⟩)) (fun r15 hr9 => ?_)
          rw [hr9]
          rcases bI_c (isS fu Kd X Y i a) with ⟨hb17, e9⟩ | ⟨hb17, e9⟩
          · refine tr_top e9 ?_
            refine lv_if_eq (tgt := 100) hx hb d_Mo_holding_69 (by decide) (fun h0 => absurd h0 (by decide)) (fun _ => ?_)
            refine lv_aload_n hx hb d_Mo_holding_72 rfl (lv_at hl 2 rfl) ?_
            refine va_get (D := D) (ci := 6) (v := .ref m_known) (C := R_Mo) (T := T_Mo) (N := 24) hx hb hts hin_Mo hown hK hP 0 rfl rfl 14 (by decide) (hts _ wd_718) (fun _ h9 => h9) rfl d_Mo_holding_73 ?_
            refine lv_iload hx hb d_Mo_holding_76 (lv_at hl 0 rfl) ?_
            refine tr_iald (v := nI (K i)) hx hb hK hP 5 0 rfl rfl i hlt12 (by decide) rfl d_Mo_holding_78 ?_
            refine lv_iconst (v := 1) hx hb d_Mo_holding_79 (by decide) ?_
            refine lv_icmp_eq (tgt := 97) hx hb d_Mo_holding_80 (by decide) (fun hc19 => ?_) (fun hc19 => ?_)
            · -- 80 taken
              have hc19 : K i = 1 := (nI_lit (Nat.lt_trans (hK9 _) (by decide)) (by decide)).mp hc19
              refine lv_iinc (lv' := [(3, .int ((nI (1 + numB (fun b => isS fu Kd X Y b a && (decide (K b = 1) || gr && decide (K b = 0))) i)) + 1)), (4, .int (nI i)), (0, .ref g0), (1, .int (nI a)), (2, .int (bI gr))]) hx hb d_Mo_holding_97 hl (k := 1) rfl rfl (by decide) rfl (fun ls hl => ?_)
              refine lv_iinc (lv' := [(4, .int ((nI i) + 1)), (3, .int ((nI (1 + numB (fun b => isS fu Kd X Y b a && (decide (K b = 1) || gr && decide (K b = 0))) i)) + 1)), (0, .ref g0), (1, .int (nI a)), (2, .int (bI gr))]) hx hb d_Mo_holding_100 hl (k := 1) rfl rfl (by decide) rfl (fun ls hl => ?_)
              refine lv_goto (tgt := 53) hx hb d_Mo_holding_103 (by decide) ?_
              have e20 : (nI i) + 1 = nI (i + 1) := nI_1 i
              have e21 : (nI (1 + numB (fun b => isS fu Kd X Y b a && (decide (K b = 1) || gr && decide (K b = 0))) i)) + 1 = nI (1 + numB (fun b => isS fu Kd X Y b a && (decide (K b = 1) || gr && decide (K b = 0))) (i + 1)) := (nI_1 _).trans (congrArg nI (show 1 + numB (fun b => isS fu Kd X Y b a && (decide (K b = 1) || gr && decide (K b = 0))) i + 1 = 1 + (numB (fun b => isS fu Kd X Y b a && (decide (K b = 1) || gr && decide (K b = 0))) i + if (isS fu Kd X Y i a && (decide (K i = 1) || gr && decide (K i = 0))) = true then 1 else 0) by rw [if_pos (show (isS fu Kd X Y i a && (decide (K i = 1) || gr && decide (K i = 0))) = true by simp [hc1, hb4, hb17, hc19])]; omega))
              exact ih (i + 1) ls (by omega) (by rw [← e20, ← e21]; exact lv_sub hl [0, 1, 2, 3, 4] rfl)
            · -- 80 not taken
              have hc19 : ¬ K i = 1 := fun h9 => hc19 (congrArg nI h9)
              refine lv_iload_n hx hb d_Mo_holding_83 rfl (lv_at hl 4 rfl) ?_
              rcases bI_c (gr) with ⟨hb23, e9⟩ | ⟨hb23, e9⟩
              · refine tr_top e9 ?_
                refine lv_if_eq (tgt := 100) hx hb d_Mo_holding_84 (by decide) (fun h0 => absurd h0 (by decide)) (fun _ => ?_)
                refine lv_aload_n hx hb d_Mo_holding_87 rfl (lv_at hl 2 rfl) ?_
                refine va_get (D := D) (ci := 6) (v := .ref m_known) (C := R_Mo) (T := T_Mo) (N := 24) hx hb hts hin_Mo hown hK hP 0 rfl rfl 14 (by decide) (hts _ wd_718) (fun _ h9 => h9) rfl d_Mo_holding_88 ?_
                refine lv_iload hx hb d_Mo_holding_91 (lv_at hl 0 rfl) ?_
                refine tr_iald (v := nI (K i)) hx hb hK hP 5 0 rfl rfl i hlt12 (by decide) rfl d_Mo_holding_93 ?_
                refine lv_if_ne (tgt := 100) hx hb d_Mo_holding_94 (by decide) (fun hc25 => ?_) (fun hc25 => ?_)
                · -- 94 taken
                  have hc25 : ¬ K i = 0 := fun h9 => hc25 (congrArg nI h9)
                  refine lv_iinc (lv' := [(4, .int ((nI i) + 1)), (3, .int (nI (1 + numB (fun b => isS fu Kd X Y b a && (decide (K b = 1) || gr && decide (K b = 0))) i))), (0, .ref g0), (1, .int (nI a)), (2, .int (bI gr))]) hx hb d_Mo_holding_100 hl (k := 0) rfl rfl (by decide) rfl (fun ls hl => ?_)
                  refine lv_goto (tgt := 53) hx hb d_Mo_holding_103 (by decide) ?_
                  have e26 : (nI i) + 1 = nI (i + 1) := nI_1 i
                  have e27 : nI (1 + numB (fun b => isS fu Kd X Y b a && (decide (K b = 1) || gr && decide (K b = 0))) i) = nI (1 + numB (fun b => isS fu Kd X Y b a && (decide (K b = 1) || gr && decide (K b = 0))) (i + 1)) := congrArg nI (show 1 + numB (fun b => isS fu Kd X Y b a && (decide (K b = 1) || gr && decide (K b = 0))) i = 1 + (numB (fun b => isS fu Kd X Y b a && (decide (K b = 1) || gr && decide (K b = 0))) i + if (isS fu Kd X Y i a && (decide (K i = 1) || gr && decide (K i = 0))) = true then 1 else 0) by rw [if_neg (show ¬ (isS fu Kd X Y i a && (decide (K i = 1) || gr && decide (K i = 0))) = true by simp [hc1, hb4, hb17, hc19, hb23, hc25])]; omega)
                  exact ih (i + 1) ls (by omega) (by rw [← e26, ← e27]; exact lv_sub hl [0, 1, 2, 3, 4] rfl)
                · -- 94 not taken
                  have hc25 : K i = 0 := (nI_lit (Nat.lt_trans (hK9 _) (by decide)) (by decide)).mp hc25
                  refine lv_iinc (lv' := [(3, .int ((nI (1 + numB (fun b => isS fu Kd X Y b a && (decide (K b = 1) || gr && decide (K b = 0))) i)) + 1)), (4, .int (nI i)), (0, .ref g0), (1, .int (nI a)), (2, .int (bI gr))]) hx hb d_Mo_holding_97 hl (k := 1) rfl rfl (by decide) rfl (fun ls hl => ?_)
                  refine lv_iinc (lv' := [(4, .int ((nI i) + 1)), (3, .int ((nI (1 + numB (fun b => isS fu Kd X Y b a && (decide (K b = 1) || gr && decide (K b = 0))) i)) + 1)), (0, .ref g0), (1, .int (nI a)), (2, .int (bI gr))]) hx hb d_Mo_holding_100 hl (k := 1) rfl rfl (by decide) rfl (fun ls hl => ?_)
                  refine lv_goto (tgt := 53) hx hb d_Mo_holding_103 (by decide) ?_
                  have e28 : (nI i) + 1 = nI (i + 1) := nI_1 i
                  have e29 : (nI (1 + numB (fun b => isS fu Kd X Y b a && (decide (K b = 1) || gr && decide (K b = 0))) i)) + 1 = nI (1 + numB (fun b => isS fu Kd X Y b a && (decide (K b = 1) || gr && decide (K b = 0))) (i + 1)) := (nI_1 _).trans (congrArg nI (show 1 + numB (fun b => isS fu Kd X Y b a && (decide (K b = 1) || gr && decide (K b = 0))) i + 1 = 1 + (numB (fun b => isS fu Kd X Y b a && (decide (K b = 1) || gr && decide (K b = 0))) i + if (isS fu Kd X Y i a && (decide (K i = 1) || gr && decide (K i = 0))) = true then 1 else 0) by rw [if_pos (show (isS fu Kd X Y i a && (decide (K i = 1) || gr && decide (K i = 0))) = true by simp [hc1, hb4, hb17, hc19, hb23, hc25])]; omega))
                  exact ih (i + 1) ls (by omega) (by rw [← e28, ← e29]; exact lv_sub hl [0, 1, 2, 3, 4] rfl)
              · refine tr_top e9 ?_
                refine lv_if_eq (tgt := 100) hx hb d_Mo_holding_84 (by decide) (fun _ => ?_) (fun h0 => absurd (by decide) h0)
                refine lv_iinc (lv' := [(4, .int ((nI i) + 1)), (3, .int (nI (1 + numB (fun b => isS fu Kd X Y b a && (decide (K b = 1) || gr && decide (K b = 0))) i))), (0, .ref g0), (1, .int (nI a)), (2, .int (bI gr))]) hx hb d_Mo_holding_100 hl (k := 0) rfl rfl (by decide) rfl (fun ls hl => ?_)
                refine lv_goto (tgt := 53) hx hb d_Mo_holding_103 (by decide) ?_
                have e31 : (nI i) + 1 = nI (i + 1) := nI_1 i
                have e32 : nI (1 + numB (fun b => isS fu Kd X Y b a && (decide (K b = 1) || gr && decide (K b = 0))) i) = nI (1 + numB (fun b => isS fu Kd X Y b a && (decide (K b = 1) || gr && decide (K b = 0))) (i + 1)) := congrArg nI (show 1 + numB (fun b => isS fu Kd X Y b a && (decide (K b = 1) || gr && decide (K b = 0))) i = 1 + (numB (fun b => isS fu Kd X Y b a && (decide (K b = 1) || gr && decide (K b = 0))) i + if (isS fu Kd X Y i a && (decide (K i = 1) || gr && decide (K i = 0))) = true then 1 else 0) by rw [if_neg (show ¬ (isS fu Kd X Y i a && (decide (K i = 1) || gr && decide (K i = 0))) = true by simp [hc1, hb4, hb17, hc19, hb23])]; omega)
                exact ih (i + 1) ls (by omega) (by rw [← e31, ← e32]; exact lv_sub hl [0, 1, 2, 3, 4] rfl)
          · refine tr_top e9 ?_
            refine lv_if_eq (tgt := 100) hx hb d_Mo_holding_69 (by decide) (fun _ => ?_) (fun h0 => absurd (by decide) h0)
            refine lv_iinc (lv' := [(4, .int ((nI i) + 1)), (3, .int (nI (1 + numB (fun b => isS fu Kd X Y b a && (decide (K b = 1) || gr && decide (K b = 0))) i))), (0, .ref g0), (1, .int (nI a)), (2, .int (bI gr))]) hx hb d_Mo_holding_100 hl (k := 0) rfl rfl (by decide) rfl (fun ls hl => ?_)
            refine lv_goto (tgt := 53) hx hb d_Mo_holding_103 (by decide) ?_
            have e34 : (nI i) + 1 = nI (i + 1) := nI_1 i
            have e35 : nI (1 + numB (fun b => isS fu Kd X Y b a && (decide (K b = 1) || gr && decide (K b = 0))) i) = nI (1 + numB (fun b => isS fu Kd X Y b a && (decide (K b = 1) || gr && decide (K b = 0))) (i + 1)) := congrArg nI (show 1 + numB (fun b => isS fu Kd X Y b a && (decide (K b = 1) || gr && decide (K b = 0))) i = 1 + (numB (fun b => isS fu Kd X Y b a && (decide (K b = 1) || gr && decide (K b = 0))) i + if (isS fu Kd X Y i a && (decide (K i = 1) || gr && decide (K i = 0))) = true then 1 else 0) by rw [if_neg (show ¬ (isS fu Kd X Y i a && (decide (K i = 1) || gr && decide (K i = 0))) = true by simp [hc1, hb4, hb17])]; omega)
            exact ih (i + 1) ls (by omega) (by rw [← e34, ← e35]; exact lv_sub hl [0, 1, 2, 3, 4] rfl)
      exact loop n 0 ls (Nat.zero_add _) hl
  · -- 6 not taken
    have hc1 : (fu a) < 0 := Int32.not_le.mp hc1
    refine lv_iconst (v := 0) hx hb d_Mo_holding_9 (by decide) ?_
    exact W.iret (v := 0) hx hb hr (fun t ht hW => ⟨0, rfl, congrArg nI (show 0 = hdg fu Kd X Y K n a gr by simp [hdg, hc1]), ht⟩) (fun q hq => by cases hq) d_Mo_holding_10

/-- the first number with p, of k numbers from i on; -1 if there is none -/
def fst1 (p : Nat → Bool) : Nat → Nat → Int32
  | 0, _ => -1
  | k + 1, i => if p i = true then nI i else fst1 p k (i + 1)

theorem d_Mo_firstOpen_0 : decode b_Mo_firstOpen 0 = .ok (.iconst 0, 1) := by decide +kernel
theorem d_Mo_firstOpen_1 : decode b_Mo_firstOpen 1 = .ok (.istore_n 1, 1) := by decide +kernel
theorem d_Mo_firstOpen_2 : decode b_Mo_firstOpen 2 = .ok (.iload_n 1, 1) := by decide +kernel
theorem d_Mo_firstOpen_3 : decode b_Mo_firstOpen 3 = .ok (.aload_n 0, 1) := by decide +kernel
theorem d_Mo_firstOpen_4 : decode b_Mo_firstOpen 4 = .ok (.getfield 72, 3) := by decide +kernel
theorem d_Mo_firstOpen_7 : decode b_Mo_firstOpen 7 = .ok (.if_icmp .ge 28, 3) := by decide +kernel
theorem d_Mo_firstOpen_10 : decode b_Mo_firstOpen 10 = .ok (.aload_n 0, 1) := by decide +kernel
theorem d_Mo_firstOpen_11 : decode b_Mo_firstOpen 11 = .ok (.iload_n 1, 1) := by decide +kernel
theorem d_Mo_firstOpen_12 : decode b_Mo_firstOpen 12 = .ok (.invokevirtual 109, 3) := by decide +kernel
theorem d_Mo_firstOpen_15 : decode b_Mo_firstOpen 15 = .ok (.ifCond .eq 14, 3) := by decide +kernel
theorem d_Mo_firstOpen_18 : decode b_Mo_firstOpen 18 = .ok (.aload_n 0, 1) := by decide +kernel
theorem d_Mo_firstOpen_19 : decode b_Mo_firstOpen 19 = .ok (.getfield 41, 3) := by decide +kernel
theorem d_Mo_firstOpen_22 : decode b_Mo_firstOpen 22 = .ok (.iload_n 1, 1) := by decide +kernel
theorem d_Mo_firstOpen_23 : decode b_Mo_firstOpen 23 = .ok (.iaload, 1) := by decide +kernel
theorem d_Mo_firstOpen_24 : decode b_Mo_firstOpen 24 = .ok (.ifCond .ne 5, 3) := by decide +kernel
theorem d_Mo_firstOpen_27 : decode b_Mo_firstOpen 27 = .ok (.iload_n 1, 1) := by decide +kernel
theorem d_Mo_firstOpen_28 : decode b_Mo_firstOpen 28 = .ok (.ireturn, 1) := by decide +kernel
theorem d_Mo_firstOpen_29 : decode b_Mo_firstOpen 29 = .ok (.iinc 1 1, 3) := by decide +kernel
theorem d_Mo_firstOpen_32 : decode b_Mo_firstOpen 32 = .ok (.goto (-30), 3) := by decide +kernel
theorem d_Mo_firstOpen_35 : decode b_Mo_firstOpen 35 = .ok (.iconst (-1), 1) := by decide +kernel
theorem d_Mo_firstOpen_36 : decode b_Mo_firstOpen 36 = .ok (.ireturn, 1) := by decide +kernel

set_option maxHeartbeats 4000000 in
set_option maxRecDepth 100000 in
theorem c_Mo_firstOpen (l : Launch) (D : va_G) (cI cZ cJ cS : ClassId) (aT : Nat) (ceT : Cell) (g0 m_sea m_center m_home m_borders m_owner m_units m_kind m_toX m_toY m_results m_known m_reached m_way m_aside m_origin m_retreats m_contested m_moved m_past : Nat) (n : Nat) (co mp mt msh : Int32) (fu : Nat → Int32) (Kd : Nat → Nat) (K : Nat → Nat) (hKd : ∀ j, Kd j < 4) (hK9 : ∀ j, K j < 3)  (hn : n ≤ 12) : Met l y_Mo_firstOpen w_Mo_firstOpen ({ frames := 1, cells := 0, slots := 0, locals := 21 }) (tP D cI cZ cJ cS aT ceT [.ref g0] [(g0, .inr (6, [.int co, .int (nI n), .ref m_sea, .ref m_center, .ref m_home, .ref m_borders, .int mp, .int mt, .ref m_owner, .ref m_units, .ref m_kind, .ref m_toX, .ref m_toY, .ref m_results, .ref m_known, .ref m_reached, .ref m_way, .ref m_aside, .ref m_origin, .ref m_retreats, .ref m_contested, .ref m_moved, .int msh, .ref m_past])), (m_units, .inl (cI, 12, .inl fu)), (m_kind, .inl (cI, 12, .inl (fun j => nI (Kd j)))), (m_known, .inl (cI, 12, .inl (fun j => nI (K j))))]) (vp_Si (fun r => r = fst1 (fun b => mvs fu Kd b && decide (K b = 0)) n 0)) 0 0 (fun _ => False) := by
  refine Met.ofW (cc := b_Mo_firstOpen) (maxL := 2) (ret := (some .int)) (by decide) rfl ?_
  intro p e s m args below meth c s₁ B hml hv
  obtain ⟨rfl, hP, hK, hX⟩ := hv
  have hx := B.exec
  have hb := B.bytes
  have hr := B.returns
  have hts0 := atoms_spec (ws := w_Mo_firstOpen) B.pre
  have hts : ∀ w ∈ TB, w.before _ s = true := fun w h => hts0 w (List.mem_cons_of_mem _ h)
  have hown : s.vm.findClass R_Mo = some m.cls := findClass_of_methodNamed B.named
  have hlocks := B.notSynchronized
  have hXH : s.heap[aT]? = s.heap[aT]? := rfl
  have hl := lv_entry ([.ref g0]) (n := 2) (Nat.le_of_ble_eq_true rfl)
  rw [lg_entry_eq]
  generalize (lg_sl ([.ref g0]) ++ List.replicate (2 - (lg_sl ([.ref g0])).length) Slot.unset).toArray = ls at hl ⊢
  have hl : lv_has ls 2 [(0, .ref g0)] := hl
  refine lv_iconst (v := 0) hx hb d_Mo_firstOpen_0 (by decide) ?_
  refine lv_istore_n (lv' := [(1, .int 0), (0, .ref g0)]) hx hb d_Mo_firstOpen_1 rfl hl (by decide) rfl (fun ls hl => ?_)
  have loop : ∀ (k i : Nat) (ls : Array Slot), i + k = n → lv_has ls 2 [(1, .int (nI i)), (0, .ref g0)] → fst1 (fun b => mvs fu Kd b && decide (K b = 0)) n 0 = fst1 (fun b => mvs fu Kd b && decide (K b = 0)) k i → W p l e (headSpec w_Mo_firstOpen ({ frames := 1, cells := 0, slots := 0, locals := 21 })).room s m ([.ref g0]).toArray below meth c s.heap [] 0 0 (MQ below (vp_Si (fun r => r = fst1 (fun b => mvs fu Kd b && decide (K b = 0)) n 0)) ([.ref g0]).toArray s 0 0 (fun _ => False)) (F0 m 2 ls []) := by
    intro k
    induction k with
    | zero =>
      intro i ls hi hl hinv
      have hie : i = n := by omega
      rw [hie] at hl hinv
      refine lv_iload_n hx hb d_Mo_firstOpen_2 rfl (lv_at hl 0 rfl) ?_
      refine lv_aload_n hx hb d_Mo_firstOpen_3 rfl (lv_at hl 1 rfl) ?_
      refine va_get (D := D) (ci := 6) (v := .int (nI n)) (C := R_Mo) (T := T_Mo) (N := 24) hx hb hts hin_Mo hown hK hP 0 rfl rfl 1 (by decide) (hts _ wd_705) (fun _ h9 => h9) rfl d_Mo_firstOpen_4 ?_
      refine lv_icmp_ge (tgt := 35) hx hb d_Mo_firstOpen_7 (by decide) (fun _ => ?_) (fun h0 => absurd (Int32.le_refl _) h0)
      refine lv_iconst (v := (-1)) hx hb d_Mo_firstOpen_35 (by decide) ?_
      exact W.iret (v := (-1)) hx hb hr (fun t ht hW => ⟨(-1), rfl, by rw [hinv]; rfl, ht⟩) (fun q hq => by cases hq) d_Mo_firstOpen_36
    | succ k ih =>
      intro i ls hi hl hinv
      have hlt : i < n := by omega
      have hlt12 : i < 12 := by omega
      refine lv_iload_n hx hb d_Mo_firstOpen_2 rfl (lv_at hl 0 rfl) ?_
      refine lv_aload_n hx hb d_Mo_firstOpen_3 rfl (lv_at hl 1 rfl) ?_
      refine va_get (D := D) (ci := 6) (v := .int (nI n)) (C := R_Mo) (T := T_Mo) (N := 24) hx hb hts hin_Mo hown hK hP 0 rfl rfl 1 (by decide) (hts _ wd_705) (fun _ h9 => h9) rfl d_Mo_firstOpen_4 ?_
      refine lv_icmp_ge (tgt := 35) hx hb d_Mo_firstOpen_7 (by decide) (fun h0 => absurd h0 (nI_ge hlt (by omega))) (fun _ => ?_)
      refine lv_aload_n hx hb d_Mo_firstOpen_10 rfl (lv_at hl 1 rfl) ?_
      refine lv_iload_n hx hb d_Mo_firstOpen_11 rfl (lv_at hl 0 rfl) ?_
      have hPc := hP.sub (ws' := [(g0, .inr (6, [.int co, .int (nI n), .ref m_sea, .ref m_center, .ref m_home, .ref m_borders, .int mp, .int mt, .ref m_owner, .ref m_units, .ref m_kind, .ref m_toX, .ref m_toY, .ref m_results, .ref m_known, .ref m_reached, .ref m_way, .ref m_aside, .ref m_origin, .ref m_retreats, .ref m_contested, .ref m_moved, .int msh, .ref m_past])), (m_units, .inl (cI, 12, .inl fu)), (m_kind, .inl (cI, 12, .inl (fun j => nI (Kd j))))]) [0, 1, 2] rfl
      refine vp_callSi (va_Run.run (va_runV (As := [.int (nI i)]) (rest := []) ⟨hx, hb, hml, hown, hts⟩ (c_Mo_moves l D cI cZ cJ cS aT ceT  g0 m_sea m_center m_home m_borders m_owner m_units m_kind m_toX m_toY m_results m_known m_reached m_way m_aside m_origin m_retreats m_contested m_moved m_past n co mp mt msh fu Kd i hKd hlt12) (cwV 1 hts (tb_4 wd_853 wd_855 wp_47 wd_8 (tb_c wd_856)) rfl rfl rfl ⟨rfl, by decide, by decide, by decide +kernel⟩ ⟨Nat.le_of_ble_eq_true rfl, Nat.le_of_ble_eq_true rfl⟩) (tP_V hK hX hXH hPc (q := 0) rfl rfl) rfl rfl hl.1 rfl (lv_room (Nat.le_of_ble_eq_true rfl)) d_Mo_firstOpen_12 ⟨Nat.le_of_ble_eq_true rfl, Nat.le_of_ble_eq_true rfl⟩)) (fun r3 hr9 => ?_)
      rw [hr9]
      rcases bI_c (mvs fu Kd i) with ⟨hb5, e9⟩ | ⟨hb5, e9⟩
      · refine tr_top e9 ?_
        refine lv_if_eq (tgt := 29) hx hb d_Mo_firstOpen_15 (by decide) (fun h0 => absurd h0 (by decide)) (fun _ => ?_)
        refine lv_aload_n hx hb d_Mo_firstOpen_18 rfl (lv_at hl 1 rfl) ?_
        refine va_get (D := D) (ci := 6) (v := .ref m_known) (C := R_Mo) (T := T_Mo) (N := 24) hx hb hts hin_Mo hown hK hP 0 rfl rfl 14 (by decide) (hts _ wd_718) (fun _ h9 => h9) rfl d_Mo_firstOpen_19 ?_
        refine lv_iload_n hx hb d_Mo_firstOpen_22 rfl (lv_at hl 0 rfl) ?_
        refine tr_iald (v := nI (K i)) hx hb hK hP 3 0 rfl rfl i hlt12 (by decide) rfl d_Mo_firstOpen_23 ?_
        refine lv_if_ne (tgt := 29) hx hb d_Mo_firstOpen_24 (by decide) (fun hc7 => ?_) (fun hc7 => ?_)
        · -- 24 taken
          have hc7 : ¬ K i = 0 := fun h9 => hc7 (congrArg nI h9)
          refine lv_iinc (lv' := [(1, .int ((nI i) + 1)), (0, .ref g0)]) hx hb d_Mo_firstOpen_29 hl (k := 0) rfl rfl (by decide) rfl (fun ls hl => ?_)
          refine lv_goto (tgt := 2) hx hb d_Mo_firstOpen_32 (by decide) ?_
          have e8 : (nI i) + 1 = nI (i + 1) := nI_1 i
          exact ih (i + 1) ls (by omega) (by rw [← e8]; exact lv_sub hl [0, 1] rfl) (hinv.trans (show fst1 (fun b => mvs fu Kd b && decide (K b = 0)) (k + 1) i = fst1 (fun b => mvs fu Kd b && decide (K b = 0)) k (i + 1) by rw [fst1, if_neg (by simp [hb5, hc7])]))
        · -- 24 not taken
          have hc7 : K i = 0 := (nI_lit (Nat.lt_trans (hK9 _) (by decide)) (by decide)).mp hc7
          refine lv_iload_n hx hb d_Mo_firstOpen_27 rfl (lv_at hl 0 rfl) ?_
          exact W.iret (v := nI i) hx hb hr (fun t ht hW => ⟨nI i, rfl, by rw [hinv, fst1, if_pos (by simp [hb5, hc7])], ht⟩) (fun q hq => by cases hq) d_Mo_firstOpen_28
      · refine tr_top e9 ?_
        refine lv_if_eq (tgt := 29) hx hb d_Mo_firstOpen_15 (by decide) (fun _ => ?_) (fun h0 => absurd (by decide) h0)
        refine lv_iinc (lv' := [(1, .int ((nI i) + 1)), (0, .ref g0)]) hx hb d_Mo_firstOpen_29 hl (k := 0) rfl rfl (by decide) rfl (fun ls hl => ?_)
        refine lv_goto (tgt := 2) hx hb d_Mo_firstOpen_32 (by decide) ?_
        have e10 : (nI i) + 1 = nI (i + 1) := nI_1 i
        exact ih (i + 1) ls (by omega) (by rw [← e10]; exact lv_sub hl [0, 1] rfl) (hinv.trans (show fst1 (fun b => mvs fu Kd b && decide (K b = 0)) (k + 1) i = fst1 (fun b => mvs fu Kd b && decide (K b = 0)) k (i + 1) by rw [fst1, if_neg (by simp [hb5])]))
  exact loop n 0 ls (Nat.zero_add _) hl rfl

theorem d_Mo_isOpen_0 : decode b_Mo_isOpen 0 = .ok (.aload_n 0, 1) := by decide +kernel
theorem d_Mo_isOpen_1 : decode b_Mo_isOpen 1 = .ok (.iload_n 1, 1) := by decide +kernel
theorem d_Mo_isOpen_2 : decode b_Mo_isOpen 2 = .ok (.invokevirtual 109, 3) := by decide +kernel
theorem d_Mo_isOpen_5 : decode b_Mo_isOpen 5 = .ok (.ifCond .ne 11, 3) := by decide +kernel
theorem d_Mo_isOpen_8 : decode b_Mo_isOpen 8 = .ok (.aload_n 0, 1) := by decide +kernel
theorem d_Mo_isOpen_9 : decode b_Mo_isOpen 9 = .ok (.iload_n 1, 1) := by decide +kernel
theorem d_Mo_isOpen_10 : decode b_Mo_isOpen 10 = .ok (.invokevirtual 118, 3) := by decide +kernel
theorem d_Mo_isOpen_13 : decode b_Mo_isOpen 13 = .ok (.ifCond .eq 16, 3) := by decide +kernel
theorem d_Mo_isOpen_16 : decode b_Mo_isOpen 16 = .ok (.aload_n 0, 1) := by decide +kernel
theorem d_Mo_isOpen_17 : decode b_Mo_isOpen 17 = .ok (.getfield 41, 3) := by decide +kernel
theorem d_Mo_isOpen_20 : decode b_Mo_isOpen 20 = .ok (.iload_n 1, 1) := by decide +kernel
theorem d_Mo_isOpen_21 : decode b_Mo_isOpen 21 = .ok (.iaload, 1) := by decide +kernel
theorem d_Mo_isOpen_22 : decode b_Mo_isOpen 22 = .ok (.ifCond .ne 7, 3) := by decide +kernel
theorem d_Mo_isOpen_25 : decode b_Mo_isOpen 25 = .ok (.iconst 1, 1) := by decide +kernel
theorem d_Mo_isOpen_26 : decode b_Mo_isOpen 26 = .ok (.goto 4, 3) := by decide +kernel
theorem d_Mo_isOpen_29 : decode b_Mo_isOpen 29 = .ok (.iconst 0, 1) := by decide +kernel
theorem d_Mo_isOpen_30 : decode b_Mo_isOpen 30 = .ok (.ireturn, 1) := by decide +kernel

set_option maxHeartbeats 4000000 in
set_option maxRecDepth 100000 in
theorem c_Mo_isOpen (l : Launch) (D : va_G) (cI cZ cJ cS : ClassId) (aT : Nat) (ceT : Cell) (g0 m_sea m_center m_home m_borders m_owner m_units m_kind m_toX m_toY m_results m_known m_reached m_way m_aside m_origin m_retreats m_contested m_moved m_past : Nat) (n : Nat) (co mp mt msh : Int32) (fu : Nat → Int32) (Kd : Nat → Nat) (K : Nat → Nat) (a : Nat) (hKd : ∀ j, Kd j < 4) (hK9 : ∀ j, K j < 3) (h_a : a < 12)  : Met l y_Mo_isOpen w_Mo_isOpen ({ frames := 1, cells := 0, slots := 0, locals := 21 }) (tP D cI cZ cJ cS aT ceT [.ref g0, .int (nI a)] [(g0, .inr (6, [.int co, .int (nI n), .ref m_sea, .ref m_center, .ref m_home, .ref m_borders, .int mp, .int mt, .ref m_owner, .ref m_units, .ref m_kind, .ref m_toX, .ref m_toY, .ref m_results, .ref m_known, .ref m_reached, .ref m_way, .ref m_aside, .ref m_origin, .ref m_retreats, .ref m_contested, .ref m_moved, .int msh, .ref m_past])), (m_units, .inl (cI, 12, .inl fu)), (m_kind, .inl (cI, 12, .inl (fun j => nI (Kd j)))), (m_known, .inl (cI, 12, .inl (fun j => nI (K j))))]) (vp_Si (fun r => r = bI ((mvs fu Kd a || spt fu Kd a) && decide (K a = 0)))) 0 0 (fun _ => False) := by
  refine Met.ofW (cc := b_Mo_isOpen) (maxL := 2) (ret := (some .boolean)) (by decide) rfl ?_
  intro p e s m args below meth c s₁ B hml hv
  obtain ⟨rfl, hP, hK, hX⟩ := hv
  have hx := B.exec
  have hb := B.bytes
  have hr := B.returns
  have hts0 := atoms_spec (ws := w_Mo_isOpen) B.pre
  have hts : ∀ w ∈ TB, w.before _ s = true := fun w h => hts0 w (List.mem_cons_of_mem _ h)
  have hown : s.vm.findClass R_Mo = some m.cls := findClass_of_methodNamed B.named
  have hlocks := B.notSynchronized
  have hXH : s.heap[aT]? = s.heap[aT]? := rfl
  have hl := lv_entry ([.ref g0, .int (nI a)]) (n := 2) (Nat.le_of_ble_eq_true rfl)
  rw [lg_entry_eq]
  generalize (lg_sl ([.ref g0, .int (nI a)]) ++ List.replicate (2 - (lg_sl ([.ref g0, .int (nI a)])).length) Slot.unset).toArray = ls at hl ⊢
  have hl : lv_has ls 2 [(0, .ref g0), (1, .int (nI a))] := hl
  refine lv_aload_n hx hb d_Mo_isOpen_0 rfl (lv_at hl 0 rfl) ?_
  refine lv_iload_n hx hb d_Mo_isOpen_1 rfl (lv_at hl 1 rfl) ?_
  have hPc := hP.sub (ws' := [(g0, .inr (6, [.int co, .int (nI n), .ref m_sea, .ref m_center, .ref m_home, .ref m_borders, .int mp, .int mt, .ref m_owner, .ref m_units, .ref m_kind, .ref m_toX, .ref m_toY, .ref m_results, .ref m_known, .ref m_reached, .ref m_way, .ref m_aside, .ref m_origin, .ref m_retreats, .ref m_contested, .ref m_moved, .int msh, .ref m_past])), (m_units, .inl (cI, 12, .inl fu)), (m_kind, .inl (cI, 12, .inl (fun j => nI (Kd j))))]) [0, 1, 2] rfl
  refine vp_callSi (va_Run.run (va_runV (As := [.int (nI a)]) (rest := []) ⟨hx, hb, hml, hown, hts⟩ (c_Mo_moves l D cI cZ cJ cS aT ceT  g0 m_sea m_center m_home m_borders m_owner m_units m_kind m_toX m_toY m_results m_known m_reached m_way m_aside m_origin m_retreats m_contested m_moved m_past n co mp mt msh fu Kd a hKd h_a) (cwV 1 hts (tb_4 wd_853 wd_855 wp_47 wd_8 (tb_c wd_856)) rfl rfl rfl ⟨rfl, by decide, by decide, by decide +kernel⟩ ⟨Nat.le_of_ble_eq_true rfl, Nat.le_of_ble_eq_true rfl⟩) (tP_V hK hX hXH hPc (q := 0) rfl rfl) rfl rfl hl.1 rfl (lv_room (Nat.le_of_ble_eq_true rfl)) d_Mo_isOpen_2 ⟨Nat.le_of_ble_eq_true rfl, Nat.le_of_ble_eq_true rfl⟩)) (fun r1 hr9 => ?_)
  rw [hr9]
  rcases bI_c (mvs fu Kd a) with ⟨hb3, e9⟩ | ⟨hb3, e9⟩
  · refine tr_top e9 ?_
    refine lv_if_ne (tgt := 16) hx hb d_Mo_isOpen_5 (by decide) (fun _ => ?_) (fun h0 => absurd h0 (by decide))
    refine lv_aload_n hx hb d_Mo_isOpen_16 rfl (lv_at hl 0 rfl) ?_
    refine va_get (D := D) (ci := 6) (v := .ref m_known) (C := R_Mo) (T := T_Mo) (N := 24) hx hb hts hin_Mo hown hK hP 0 rfl rfl 14 (by decide) (hts _ wd_718) (fun _ h9 => h9) rfl d_Mo_isOpen_17 ?_
    refine lv_iload_n hx hb d_Mo_isOpen_20 rfl (lv_at hl 1 rfl) ?_
    refine tr_iald (v := nI (K a)) hx hb hK hP 3 0 rfl rfl a h_a (by decide) rfl d_Mo_isOpen_21 ?_
    refine lv_if_ne (tgt := 29) hx hb d_Mo_isOpen_22 (by decide) (fun hc5 => ?_) (fun hc5 => ?_)
    · -- 22 taken
      have hc5 : ¬ K a = 0 := fun h9 => hc5 (congrArg nI h9)
      refine lv_iconst (v := 0) hx hb d_Mo_isOpen_29 (by decide) ?_
      exact W.zret (v := 0) hx hb hr (by decide) (fun t ht hW => ⟨0, rfl, (bI_f (by simp [hb3, hc5])).symm, ht⟩) (fun q hq => by cases hq) d_Mo_isOpen_30
    · -- 22 not taken
      have hc5 : K a = 0 := (nI_lit (Nat.lt_trans (hK9 _) (by decide)) (by decide)).mp hc5
      refine lv_iconst (v := 1) hx hb d_Mo_isOpen_25 (by decide) ?_
      refine lv_goto (tgt := 30) hx hb d_Mo_isOpen_26 (by decide) ?_
      exact W.zret (v := 1) hx hb hr (by decide) (fun t ht hW => ⟨1, rfl, (bI_t (by simp [hb3, hc5])).symm, ht⟩) (fun q hq => by cases hq) d_Mo_isOpen_30
  · refine tr_top e9 ?_
    refine lv_if_ne (tgt := 16) hx hb d_Mo_isOpen_5 (by decide) (fun h0 => absurd (by decide) h0) (fun _ => ?_)
    refine lv_aload_n hx hb d_Mo_isOpen_8 rfl (lv_at hl 0 rfl) ?_
    refine lv_iload_n hx hb d_Mo_isOpen_9 rfl (lv_at hl 1 rfl) ?_
    have hPc := hP.sub (ws' := [(g0, .inr (6, [.int co, .int (nI n), .ref m_sea, .ref m_center, .ref m_home, .ref m_borders, .int mp, .int mt, .ref m_owner, .ref m_units, .ref m_kind, .ref m_toX, .ref m_toY, .ref m_results, .ref m_known, .ref m_reached, .ref m_way, .ref m_aside, .ref m_origin, .ref m_retreats, .ref m_contested, .ref m_moved, .int msh, .ref m_past])), (m_units, .inl (cI, 12, .inl fu)), (m_kind, .inl (cI, 12, .inl (fun j => nI (Kd j))))]) [0, 1, 2] rfl
    refine vp_callSi (va_Run.run (va_runV (As := [.int (nI a)]) (rest := []) ⟨hx, hb, hml, hown, hts⟩ (c_Mo_supports l D cI cZ cJ cS aT ceT  g0 m_sea m_center m_home m_borders m_owner m_units m_kind m_toX m_toY m_results m_known m_reached m_way m_aside m_origin m_retreats m_contested m_moved m_past n co mp mt msh fu Kd a hKd h_a) (cwV 1 hts (tb_4 wd_841 wd_843 wp_44 wd_8 (tb_c wd_844)) rfl rfl rfl ⟨rfl, by decide, by decide, by decide +kernel⟩ ⟨Nat.le_of_ble_eq_true rfl, Nat.le_of_ble_eq_true rfl⟩) (tP_V hK hX hXH hPc (q := 0) rfl rfl) rfl rfl hl.1 rfl (lv_room (Nat.le_of_ble_eq_true rfl)) d_Mo_isOpen_10 ⟨Nat.le_of_ble_eq_true rfl, Nat.le_of_ble_eq_true rfl⟩)) (fun r7 hr9 => ?_)
    rw [hr9]
    rcases bI_c (spt fu Kd a) with ⟨hb9, e9⟩ | ⟨hb9, e9⟩
    · refine tr_top e9 ?_
      refine lv_if_eq (tgt := 29) hx hb d_Mo_isOpen_13 (by decide) (fun h0 => absurd h0 (by decide)) (fun _ => ?_)
      refine lv_aload_n hx hb d_Mo_isOpen_16 rfl (lv_at hl 0 rfl) ?_
      refine va_get (D := D) (ci := 6) (v := .ref m_known) (C := R_Mo) (T := T_Mo) (N := 24) hx hb hts hin_Mo hown hK hP 0 rfl rfl 14 (by decide) (hts _ wd_718) (fun _ h9 => h9) rfl d_Mo_isOpen_17 ?_
      refine lv_iload_n hx hb d_Mo_isOpen_20 rfl (lv_at hl 1 rfl) ?_
      refine tr_iald (v := nI (K a)) hx hb hK hP 3 0 rfl rfl a h_a (by decide) rfl d_Mo_isOpen_21 ?_
      refine lv_if_ne (tgt := 29) hx hb d_Mo_isOpen_22 (by decide) (fun hc11 => ?_) (fun hc11 => ?_)
      · -- 22 taken
        have hc11 : ¬ K a = 0 := fun h9 => hc11 (congrArg nI h9)
        refine lv_iconst (v := 0) hx hb d_Mo_isOpen_29 (by decide) ?_
        exact W.zret (v := 0) hx hb hr (by decide) (fun t ht hW => ⟨0, rfl, (bI_f (by simp [hb3, hb9, hc11])).symm, ht⟩) (fun q hq => by cases hq) d_Mo_isOpen_30
      · -- 22 not taken
        have hc11 : K a = 0 := (nI_lit (Nat.lt_trans (hK9 _) (by decide)) (by decide)).mp hc11
        refine lv_iconst (v := 1) hx hb d_Mo_isOpen_25 (by decide) ?_
        refine lv_goto (tgt := 30) hx hb d_Mo_isOpen_26 (by decide) ?_
        exact W.zret (v := 1) hx hb hr (by decide) (fun t ht hW => ⟨1, rfl, (bI_t (by simp [hb3, hb9, hc11])).symm, ht⟩) (fun q hq => by cases hq) d_Mo_isOpen_30
    · refine tr_top e9 ?_
      refine lv_if_eq (tgt := 29) hx hb d_Mo_isOpen_13 (by decide) (fun _ => ?_) (fun h0 => absurd (by decide) h0)
      refine lv_iconst (v := 0) hx hb d_Mo_isOpen_29 (by decide) ?_
      exact W.zret (v := 0) hx hb hr (by decide) (fun t ht hW => ⟨0, rfl, (bI_f (by simp [hb3, hb9])).symm, ht⟩) (fun q hq => by cases hq) d_Mo_isOpen_30

theorem d_Mo_mayBuild_0 : decode b_Mo_mayBuild 0 = .ok (.aload_n 0, 1) := by decide +kernel
theorem d_Mo_mayBuild_1 : decode b_Mo_mayBuild 1 = .ok (.getfield 16, 3) := by decide +kernel
theorem d_Mo_mayBuild_4 : decode b_Mo_mayBuild 4 = .ok (.iload_n 2, 1) := by decide +kernel
theorem d_Mo_mayBuild_5 : decode b_Mo_mayBuild 5 = .ok (.iaload, 1) := by decide +kernel
theorem d_Mo_mayBuild_6 : decode b_Mo_mayBuild 6 = .ok (.iload_n 1, 1) := by decide +kernel
theorem d_Mo_mayBuild_7 : decode b_Mo_mayBuild 7 = .ok (.if_icmp .ne 26, 3) := by decide +kernel
theorem d_Mo_mayBuild_10 : decode b_Mo_mayBuild 10 = .ok (.aload_n 0, 1) := by decide +kernel
theorem d_Mo_mayBuild_11 : decode b_Mo_mayBuild 11 = .ok (.getfield 23, 3) := by decide +kernel
theorem d_Mo_mayBuild_14 : decode b_Mo_mayBuild 14 = .ok (.iload_n 2, 1) := by decide +kernel
theorem d_Mo_mayBuild_15 : decode b_Mo_mayBuild 15 = .ok (.iaload, 1) := by decide +kernel
theorem d_Mo_mayBuild_16 : decode b_Mo_mayBuild 16 = .ok (.iload_n 1, 1) := by decide +kernel
theorem d_Mo_mayBuild_17 : decode b_Mo_mayBuild 17 = .ok (.if_icmp .ne 16, 3) := by decide +kernel
theorem d_Mo_mayBuild_20 : decode b_Mo_mayBuild 20 = .ok (.aload_n 0, 1) := by decide +kernel
theorem d_Mo_mayBuild_21 : decode b_Mo_mayBuild 21 = .ok (.getfield 26, 3) := by decide +kernel
theorem d_Mo_mayBuild_24 : decode b_Mo_mayBuild 24 = .ok (.iload_n 2, 1) := by decide +kernel
theorem d_Mo_mayBuild_25 : decode b_Mo_mayBuild 25 = .ok (.iaload, 1) := by decide +kernel
theorem d_Mo_mayBuild_26 : decode b_Mo_mayBuild 26 = .ok (.ifCond .ge 7, 3) := by decide +kernel
theorem d_Mo_mayBuild_29 : decode b_Mo_mayBuild 29 = .ok (.iconst 1, 1) := by decide +kernel
theorem d_Mo_mayBuild_30 : decode b_Mo_mayBuild 30 = .ok (.goto 4, 3) := by decide +kernel
theorem d_Mo_mayBuild_33 : decode b_Mo_mayBuild 33 = .ok (.iconst 0, 1) := by decide +kernel
theorem d_Mo_mayBuild_34 : decode b_Mo_mayBuild 34 = .ok (.ireturn, 1) := by decide +kernel

set_option maxHeartbeats 4000000 in
set_option maxRecDepth 100000 in
theorem c_Mo_mayBuild (l : Launch) (D : va_G) (cI cZ cJ cS : ClassId) (aT : Nat) (ceT : Cell) (g0 m_sea m_center m_home m_borders m_owner m_units m_kind m_toX m_toY m_results m_known m_reached m_way m_aside m_origin m_retreats m_contested m_moved m_past : Nat) (n : Nat) (co mp mt msh : Int32) (fh : Nat → Int32) (fw : Nat → Int32) (fu : Nat → Int32) (a : Nat) (pl : Int32)  (h_a : a < 12)  : Met l y_Mo_mayBuild w_Mo_mayBuild ({ frames := 0, cells := 0, slots := 0, locals := 0 }) (tP D cI cZ cJ cS aT ceT [.ref g0, .int pl, .int (nI a)] [(g0, .inr (6, [.int co, .int (nI n), .ref m_sea, .ref m_center, .ref m_home, .ref m_borders, .int mp, .int mt, .ref m_owner, .ref m_units, .ref m_kind, .ref m_toX, .ref m_toY, .ref m_results, .ref m_known, .ref m_reached, .ref m_way, .ref m_aside, .ref m_origin, .ref m_retreats, .ref m_contested, .ref m_moved, .int msh, .ref m_past])), (m_home, .inl (cI, 12, .inl fh)), (m_owner, .inl (cI, 12, .inl fw)), (m_units, .inl (cI, 12, .inl fu))]) (vp_Si (fun r => r = bI (decide (fh a = pl) && decide (fw a = pl) && decide (fu a < 0)))) 0 0 (fun _ => False) := by
  refine Met.ofW (cc := b_Mo_mayBuild) (maxL := 3) (ret := (some .boolean)) (by decide) rfl ?_
  intro p e s m args below meth c s₁ B hml hv
  obtain ⟨rfl, hP, hK, hX⟩ := hv
  have hx := B.exec
  have hb := B.bytes
  have hr := B.returns
  have hts0 := atoms_spec (ws := w_Mo_mayBuild) B.pre
  have hts : ∀ w ∈ TB, w.before _ s = true := fun w h => hts0 w (List.mem_cons_of_mem _ h)
  have hown : s.vm.findClass R_Mo = some m.cls := findClass_of_methodNamed B.named
  have hlocks := B.notSynchronized
  have hXH : s.heap[aT]? = s.heap[aT]? := rfl
  have hl := lv_entry ([.ref g0, .int pl, .int (nI a)]) (n := 3) (Nat.le_of_ble_eq_true rfl)
  rw [lg_entry_eq]
  generalize (lg_sl ([.ref g0, .int pl, .int (nI a)]) ++ List.replicate (3 - (lg_sl ([.ref g0, .int pl, .int (nI a)])).length) Slot.unset).toArray = ls at hl ⊢
  have hl : lv_has ls 3 [(0, .ref g0), (1, .int pl), (2, .int (nI a))] := hl
  refine lv_aload_n hx hb d_Mo_mayBuild_0 rfl (lv_at hl 0 rfl) ?_
  refine va_get (D := D) (ci := 6) (v := .ref m_home) (C := R_Mo) (T := T_Mo) (N := 24) hx hb hts hin_Mo hown hK hP 0 rfl rfl 4 (by decide) (hts _ wd_708) (fun _ h9 => h9) rfl d_Mo_mayBuild_1 ?_
  refine lv_iload_n hx hb d_Mo_mayBuild_4 rfl (lv_at hl 2 rfl) ?_
  refine tr_iald (v := fh a) hx hb hK hP 1 0 rfl rfl a h_a (by decide) rfl d_Mo_mayBuild_5 ?_
  refine lv_iload_n hx hb d_Mo_mayBuild_6 rfl (lv_at hl 1 rfl) ?_
  refine lv_icmp_ne (tgt := 33) hx hb d_Mo_mayBuild_7 (by decide) (fun hc1 => ?_) (fun hc1 => ?_)
  · -- 7 taken
    refine lv_iconst (v := 0) hx hb d_Mo_mayBuild_33 (by decide) ?_
    exact W.zret (v := 0) hx hb hr (by decide) (fun t ht hW => ⟨0, rfl, (bI_f (by simp [hc1])).symm, ht⟩) (fun q hq => by cases hq) d_Mo_mayBuild_34
  · -- 7 not taken
    refine lv_aload_n hx hb d_Mo_mayBuild_10 rfl (lv_at hl 0 rfl) ?_
    refine va_get (D := D) (ci := 6) (v := .ref m_owner) (C := R_Mo) (T := T_Mo) (N := 24) hx hb hts hin_Mo hown hK hP 0 rfl rfl 8 (by decide) (hts _ wd_712) (fun _ h9 => h9) rfl d_Mo_mayBuild_11 ?_
    refine lv_iload_n hx hb d_Mo_mayBuild_14 rfl (lv_at hl 2 rfl) ?_
    refine tr_iald (v := fw a) hx hb hK hP 2 0 rfl rfl a h_a (by decide) rfl d_Mo_mayBuild_15 ?_
    refine lv_iload_n hx hb d_Mo_mayBuild_16 rfl (lv_at hl 1 rfl) ?_
    refine lv_icmp_ne (tgt := 33) hx hb d_Mo_mayBuild_17 (by decide) (fun hc2 => ?_) (fun hc2 => ?_)
    · -- 17 taken
      refine lv_iconst (v := 0) hx hb d_Mo_mayBuild_33 (by decide) ?_
      exact W.zret (v := 0) hx hb hr (by decide) (fun t ht hW => ⟨0, rfl, (bI_f (by simp [hc1, hc2])).symm, ht⟩) (fun q hq => by cases hq) d_Mo_mayBuild_34
    · -- 17 not taken
      refine lv_aload_n hx hb d_Mo_mayBuild_20 rfl (lv_at hl 0 rfl) ?_
      refine va_get (D := D) (ci := 6) (v := .ref m_units) (C := R_Mo) (T := T_Mo) (N := 24) hx hb hts hin_Mo hown hK hP 0 rfl rfl 9 (by decide) (hts _ wd_713) (fun _ h9 => h9) rfl d_Mo_mayBuild_21 ?_
      refine lv_iload_n hx hb d_Mo_mayBuild_24 rfl (lv_at hl 2 rfl) ?_
      refine tr_iald (v := fu a) hx hb hK hP 3 0 rfl rfl a h_a (by decide) rfl d_Mo_mayBuild_25 ?_
      refine lv_if_ge (tgt := 33) hx hb d_Mo_mayBuild_26 (by decide) (fun hc3 => ?_) (fun hc3 => ?_)
      · -- 26 taken
        have hc3 : ¬ (fu a) < 0 := Int32.not_lt.mpr hc3
        refine lv_iconst (v := 0) hx hb d_Mo_mayBuild_33 (by decide) ?_
        exact W.zret (v := 0) hx hb hr (by decide) (fun t ht hW => ⟨0, rfl, (bI_f (by simp [hc1, hc2, hc3])).symm, ht⟩) (fun q hq => by cases hq) d_Mo_mayBuild_34
      · -- 26 not taken
        have hc3 : (fu a) < 0 := Int32.not_le.mp hc3
        refine lv_iconst (v := 1) hx hb d_Mo_mayBuild_29 (by decide) ?_
        refine lv_goto (tgt := 34) hx hb d_Mo_mayBuild_30 (by decide) ?_
        exact W.zret (v := 1) hx hb hr (by decide) (fun t ht hW => ⟨1, rfl, (bI_t (by simp [hc1, hc2, hc3])).symm, ht⟩) (fun q hq => by cases hq) d_Mo_mayBuild_34

theorem d_Mo_free_0 : decode b_Mo_free 0 = .ok (.aload_n 0, 1) := by decide +kernel
theorem d_Mo_free_1 : decode b_Mo_free 1 = .ok (.aload_n 0, 1) := by decide +kernel
theorem d_Mo_free_2 : decode b_Mo_free 2 = .ok (.getfield 50, 3) := by decide +kernel
theorem d_Mo_free_5 : decode b_Mo_free 5 = .ok (.iload_n 1, 1) := by decide +kernel
theorem d_Mo_free_6 : decode b_Mo_free 6 = .ok (.iaload, 1) := by decide +kernel
theorem d_Mo_free_7 : decode b_Mo_free 7 = .ok (.iload_n 1, 1) := by decide +kernel
theorem d_Mo_free_8 : decode b_Mo_free 8 = .ok (.iload_n 2, 1) := by decide +kernel
theorem d_Mo_free_9 : decode b_Mo_free 9 = .ok (.invokevirtual 101, 3) := by decide +kernel
theorem d_Mo_free_12 : decode b_Mo_free 12 = .ok (.ifCond .eq 35, 3) := by decide +kernel
theorem d_Mo_free_15 : decode b_Mo_free 15 = .ok (.aload_n 0, 1) := by decide +kernel
theorem d_Mo_free_16 : decode b_Mo_free 16 = .ok (.getfield 26, 3) := by decide +kernel
theorem d_Mo_free_19 : decode b_Mo_free 19 = .ok (.iload_n 2, 1) := by decide +kernel
theorem d_Mo_free_20 : decode b_Mo_free 20 = .ok (.iaload, 1) := by decide +kernel
theorem d_Mo_free_21 : decode b_Mo_free 21 = .ok (.ifCond .ge 26, 3) := by decide +kernel
theorem d_Mo_free_24 : decode b_Mo_free 24 = .ok (.aload_n 0, 1) := by decide +kernel
theorem d_Mo_free_25 : decode b_Mo_free 25 = .ok (.getfield 59, 3) := by decide +kernel
theorem d_Mo_free_28 : decode b_Mo_free 28 = .ok (.iload_n 2, 1) := by decide +kernel
theorem d_Mo_free_29 : decode b_Mo_free 29 = .ok (.baload, 1) := by decide +kernel
theorem d_Mo_free_30 : decode b_Mo_free 30 = .ok (.ifCond .ne 17, 3) := by decide +kernel
theorem d_Mo_free_33 : decode b_Mo_free 33 = .ok (.aload_n 0, 1) := by decide +kernel
theorem d_Mo_free_34 : decode b_Mo_free 34 = .ok (.getfield 53, 3) := by decide +kernel
theorem d_Mo_free_37 : decode b_Mo_free 37 = .ok (.iload_n 1, 1) := by decide +kernel
theorem d_Mo_free_38 : decode b_Mo_free 38 = .ok (.iaload, 1) := by decide +kernel
theorem d_Mo_free_39 : decode b_Mo_free 39 = .ok (.iload_n 2, 1) := by decide +kernel
theorem d_Mo_free_40 : decode b_Mo_free 40 = .ok (.if_icmp .eq 7, 3) := by decide +kernel
theorem d_Mo_free_43 : decode b_Mo_free 43 = .ok (.iconst 1, 1) := by decide +kernel
theorem d_Mo_free_44 : decode b_Mo_free 44 = .ok (.goto 4, 3) := by decide +kernel
theorem d_Mo_free_47 : decode b_Mo_free 47 = .ok (.iconst 0, 1) := by decide +kernel
theorem d_Mo_free_48 : decode b_Mo_free 48 = .ok (.ireturn, 1) := by decide +kernel

set_option maxHeartbeats 4000000 in
set_option maxRecDepth 100000 in
theorem c_Mo_free (l : Launch) (D : va_G) (cI cZ cJ cS : ClassId) (aT : Nat) (ceT : Cell) (g0 m_sea m_center m_home m_borders m_owner m_units m_kind m_toX m_toY m_results m_known m_reached m_way m_aside m_origin m_retreats m_contested m_moved m_past : Nat) (n : Nat) (co mp mt msh : Int32) (S : Nat → Bool) (Bo : Nat → Bool) (fu : Nat → Int32) (fa : Nat → Int32) (fg : Nat → Int32) (Co : Nat → Bool) (a : Nat) (b : Nat)  (h_a : a < 12) (h_b : b < 12)  : Met l y_Mo_free w_Mo_free ({ frames := 2, cells := 0, slots := 0, locals := 45 }) (tP D cI cZ cJ cS aT ceT [.ref g0, .int (nI a), .int (nI b)] [(g0, .inr (6, [.int co, .int (nI n), .ref m_sea, .ref m_center, .ref m_home, .ref m_borders, .int mp, .int mt, .ref m_owner, .ref m_units, .ref m_kind, .ref m_toX, .ref m_toY, .ref m_results, .ref m_known, .ref m_reached, .ref m_way, .ref m_aside, .ref m_origin, .ref m_retreats, .ref m_contested, .ref m_moved, .int msh, .ref m_past])), (m_sea, .inl (cZ, 12, .inl (fun j => bI (S j)))), (m_borders, .inl (cZ, 144, .inl (fun j => bI (Bo j)))), (m_units, .inl (cI, 12, .inl fu)), (m_aside, .inl (cI, 12, .inl fa)), (m_origin, .inl (cI, 12, .inl fg)), (m_contested, .inl (cZ, 12, .inl (fun j => bI (Co j))))]) (vp_Si (fun r => r = bI (cGo Bo S (fa a) a b && decide (fu b < 0) && !Co b && !decide (fg a = nI b)))) 0 0 (fun _ => False) := by
  refine Met.ofW (cc := b_Mo_free) (maxL := 3) (ret := (some .boolean)) (by decide) rfl ?_
  intro p e s m args below meth c s₁ B hml hv
  obtain ⟨rfl, hP, hK, hX⟩ := hv
  have hx := B.exec
  have hb := B.bytes
  have hr := B.returns
  have hts0 := atoms_spec (ws := w_Mo_free) B.pre
  have hts : ∀ w ∈ TB, w.before _ s = true := fun w h => hts0 w (List.mem_cons_of_mem _ h)
  have hown : s.vm.findClass R_Mo = some m.cls := findClass_of_methodNamed B.named
  have hlocks := B.notSynchronized
  have hXH : s.heap[aT]? = s.heap[aT]? := rfl
  have hl := lv_entry ([.ref g0, .int (nI a), .int (nI b)]) (n := 3) (Nat.le_of_ble_eq_true rfl)
  rw [lg_entry_eq]
  generalize (lg_sl ([.ref g0, .int (nI a), .int (nI b)]) ++ List.replicate (3 - (lg_sl ([.ref g0, .int (nI a), .int (nI b)])).length) Slot.unset).toArray = ls at hl ⊢
  have hl : lv_has ls 3 [(0, .ref g0), (1, .int (nI a)), (2, .int (nI b))] := hl
  refine lv_aload_n hx hb d_Mo_free_0 rfl (lv_at hl 0 rfl) ?_
  refine lv_aload_n hx hb d_Mo_free_1 rfl (lv_at hl 0 rfl) ?_
  refine va_get (D := D) (ci := 6) (v := .ref m_aside) (C := R_Mo) (T := T_Mo) (N := 24) hx hb hts hin_Mo hown hK hP 0 rfl rfl 17 (by decide) (hts _ wd_721) (fun _ h9 => h9) rfl d_Mo_free_2 ?_
  refine lv_iload_n hx hb d_Mo_free_5 rfl (lv_at hl 1 rfl) ?_
  refine tr_iald (v := fa a) hx hb hK hP 4 0 rfl rfl a h_a (by decide) rfl d_Mo_free_6 ?_
  refine lv_iload_n hx hb d_Mo_free_7 rfl (lv_at hl 1 rfl) ?_
  refine lv_iload_n hx hb d_Mo_free_8 rfl (lv_at hl 2 rfl) ?_
  have hPc := hP.sub (ws' := [(g0, .inr (6, [.int co, .int (nI n), .ref m_sea, .ref m_center, .ref m_home, .ref m_borders, .int mp, .int mt, .ref m_owner, .ref m_units, .ref m_kind, .ref m_toX, .ref m_toY, .ref m_results, .ref m_known, .ref m_reached, .ref m_way, .ref m_aside, .ref m_origin, .ref m_retreats, .ref m_contested, .ref m_moved, .int msh, .ref m_past])), (m_sea, .inl (cZ, 12, .inl (fun j => bI (S j)))), (m_borders, .inl (cZ, 144, .inl (fun j => bI (Bo j))))]) [0, 1, 2] rfl
  refine vp_callSi (va_Run.run (va_runV (As := [.int (fa a), .int (nI a), .int (nI b)]) (rest := []) ⟨hx, hb, hml, hown, hts⟩ (c_Mo_canGo l D cI cZ cJ cS aT ceT  g0 m_sea m_center m_home m_borders m_owner m_units m_kind m_toX m_toY m_results m_known m_reached m_way m_aside m_origin m_retreats m_contested m_moved m_past n co mp mt msh S Bo a b (fa a) h_a h_b) (cwV 3 hts (tb_4 wd_829 wd_831 wp_42 wd_8 (tb_c wd_832)) rfl rfl rfl ⟨rfl, by decide, by decide, by decide +kernel⟩ ⟨Nat.le_of_ble_eq_true rfl, Nat.le_of_ble_eq_true rfl⟩) (tP_V hK hX hXH hPc (q := 0) rfl rfl) rfl rfl hl.1 rfl (lv_room (Nat.le_of_ble_eq_true rfl)) d_Mo_free_9 ⟨Nat.le_of_ble_eq_true rfl, Nat.le_of_ble_eq_true rfl⟩)) (fun r1 hr9 => ?_)
  rw [hr9]
  rcases bI_c (cGo Bo S (fa a) a b) with ⟨hb3, e9⟩ | ⟨hb3, e9⟩
  · refine tr_top e9 ?_
    refine lv_if_eq (tgt := 47) hx hb d_Mo_free_12 (by decide) (fun h0 => absurd h0 (by decide)) (fun _ => ?_)
    refine lv_aload_n hx hb d_Mo_free_15 rfl (lv_at hl 0 rfl) ?_
    refine va_get (D := D) (ci := 6) (v := .ref m_units) (C := R_Mo) (T := T_Mo) (N := 24) hx hb hts hin_Mo hown hK hP 0 rfl rfl 9 (by decide) (hts _ wd_713) (fun _ h9 => h9) rfl d_Mo_free_16 ?_
    refine lv_iload_n hx hb d_Mo_free_19 rfl (lv_at hl 2 rfl) ?_
    refine tr_iald (v := fu b) hx hb hK hP 3 0 rfl rfl b h_b (by decide) rfl d_Mo_free_20 ?_
    refine lv_if_ge (tgt := 47) hx hb d_Mo_free_21 (by decide) (fun hc5 => ?_) (fun hc5 => ?_)
    · -- 21 taken
      have hc5 : ¬ (fu b) < 0 := Int32.not_lt.mpr hc5
      refine lv_iconst (v := 0) hx hb d_Mo_free_47 (by decide) ?_
      exact W.zret (v := 0) hx hb hr (by decide) (fun t ht hW => ⟨0, rfl, (bI_f (by simp [hb3, hc5])).symm, ht⟩) (fun q hq => by cases hq) d_Mo_free_48
    · -- 21 not taken
      have hc5 : (fu b) < 0 := Int32.not_le.mp hc5
      refine lv_aload_n hx hb d_Mo_free_24 rfl (lv_at hl 0 rfl) ?_
      refine va_get (D := D) (ci := 6) (v := .ref m_contested) (C := R_Mo) (T := T_Mo) (N := 24) hx hb hts hin_Mo hown hK hP 0 rfl rfl 20 (by decide) (hts _ wd_724) (fun _ h9 => h9) rfl d_Mo_free_25 ?_
      refine lv_iload_n hx hb d_Mo_free_28 rfl (lv_at hl 2 rfl) ?_
      refine tr_zald (v := bI (Co b)) hx hb hK hP 6 1 rfl rfl b h_b (by decide) rfl d_Mo_free_29 ?_
      rcases bI_c (Co b) with ⟨hb7, e9⟩ | ⟨hb7, e9⟩
      · refine tr_top e9 ?_
        refine lv_if_ne (tgt := 47) hx hb d_Mo_free_30 (by decide) (fun _ => ?_) (fun h0 => absurd h0 (by decide))
        refine lv_iconst (v := 0) hx hb d_Mo_free_47 (by decide) ?_
        exact W.zret (v := 0) hx hb hr (by decide) (fun t ht hW => ⟨0, rfl, (bI_f (by simp [hb3, hc5, hb7])).symm, ht⟩) (fun q hq => by cases hq) d_Mo_free_48
      · refine tr_top e9 ?_
        refine lv_if_ne (tgt := 47) hx hb d_Mo_free_30 (by decide) (fun h0 => absurd (by decide) h0) (fun _ => ?_)
        refine lv_aload_n hx hb d_Mo_free_33 rfl (lv_at hl 0 rfl) ?_
        refine va_get (D := D) (ci := 6) (v := .ref m_origin) (C := R_Mo) (T := T_Mo) (N := 24) hx hb hts hin_Mo hown hK hP 0 rfl rfl 18 (by decide) (hts _ wd_722) (fun _ h9 => h9) rfl d_Mo_free_34 ?_
        refine lv_iload_n hx hb d_Mo_free_37 rfl (lv_at hl 1 rfl) ?_
        refine tr_iald (v := fg a) hx hb hK hP 5 0 rfl rfl a h_a (by decide) rfl d_Mo_free_38 ?_
        refine lv_iload_n hx hb d_Mo_free_39 rfl (lv_at hl 2 rfl) ?_
        refine lv_icmp_eq (tgt := 47) hx hb d_Mo_free_40 (by decide) (fun hc10 => ?_) (fun hc10 => ?_)
        · -- 40 taken
          refine lv_iconst (v := 0) hx hb d_Mo_free_47 (by decide) ?_
          exact W.zret (v := 0) hx hb hr (by decide) (fun t ht hW => ⟨0, rfl, (bI_f (by simp [hb3, hc5, hb7, hc10])).symm, ht⟩) (fun q hq => by cases hq) d_Mo_free_48
        · -- 40 not taken
          refine lv_iconst (v := 1) hx hb d_Mo_free_43 (by decide) ?_
          refine lv_goto (tgt := 48) hx hb d_Mo_free_44 (by decide) ?_
          exact W.zret (v := 1) hx hb hr (by decide) (fun t ht hW => ⟨1, rfl, (bI_t (by simp [hb3, hc5, hb7, hc10])).symm, ht⟩) (fun q hq => by cases hq) d_Mo_free_48
  · refine tr_top e9 ?_
    refine lv_if_eq (tgt := 47) hx hb d_Mo_free_12 (by decide) (fun _ => ?_) (fun h0 => absurd (by decide) h0)
    refine lv_iconst (v := 0) hx hb d_Mo_free_47 (by decide) ?_
    exact W.zret (v := 0) hx hb hr (by decide) (fun t ht hW => ⟨0, rfl, (bI_f (by simp [hb3])).symm, ht⟩) (fun q hq => by cases hq) d_Mo_free_48


set_option maxHeartbeats 4000000 in
set_option maxRecDepth 100000 in
theorem c_Mo_counted (l : Launch) (D : va_G) (cI cZ cJ cS : ClassId) (aT : Nat) (ceT : Cell) (g0 m_sea m_center m_home m_borders m_owner m_units m_kind m_toX m_toY m_results m_known m_reached m_way m_aside m_origin m_retreats m_contested m_moved m_past : Nat) (n : Nat) (co mp mt msh : Int32) (Ce : Nat → Bool) (fw : Nat → Int32) (fu : Nat → Int32) (pl : Int32) (ou : Bool)   (hn : n ≤ 12) : Met l y_Mo_counted w_Mo_counted ({ frames := 0, cells := 0, slots := 0, locals := 0 }) (tP D cI cZ cJ cS aT ceT [.ref g0, .int pl, .int (bI ou)] [(g0, .inr (6, [.int co, .int (nI n), .ref m_sea, .ref m_center, .ref m_home, .ref m_borders, .int mp, .int mt, .ref m_owner, .ref m_units, .ref m_kind, .ref m_toX, .ref m_toY, .ref m_results, .ref m_known, .ref m_reached, .ref m_way, .ref m_aside, .ref m_origin, .ref m_retreats, .ref m_contested, .ref m_moved, .int msh, .ref m_past])), (m_center, .inl (cZ, 12, .inl (fun j => bI (Ce j)))), (m_owner, .inl (cI, 12, .inl fw)), (m_units, .inl (cI, 12, .inl fu))]) (vp_Si (fun r => r = nI (numB (fun b => if ou = true then !decide (fu b < 0) && decide (fu b / 2 = pl) else Ce b && decide (fw b = pl)) n))) 0 0 (fun _ => False) := by
  refine Met.ofW (cc := b_Mo_counted) (maxL := 5) (ret := (some .int)) (by decide) rfl ?_
  intro p e s m args below meth c s₁ B hml hv
  obtain ⟨rfl, hP, hK, hX⟩ := hv
  have hx := B.exec
  have hb := B.bytes
  have hr := B.returns
  have hts0 := atoms_spec (ws := w_Mo_counted) B.pre
  have hts : ∀ w ∈ TB, w.before _ s = true := fun w h => hts0 w (List.mem_cons_of_mem _ h)
  have hown : s.vm.findClass R_Mo = some m.cls := findClass_of_methodNamed B.named
  have hlocks := B.notSynchronized
  have hXH : s.heap[aT]? = s.heap[aT]? := rfl
  have hl := lv_entry ([.ref g0, .int pl, .int (bI ou)]) (n := 5) (Nat.le_of_ble_eq_true rfl)
  rw [lg_entry_eq]
  generalize (lg_sl ([.ref g0, .int pl, .int (bI ou)]) ++ List.replicate (5 - (lg_sl ([.ref g0, .int pl, .int (bI ou)])).length) Slot.unset).toArray = ls at hl ⊢
  have hl : lv_has ls 5 [(0, .ref g0), (1, .int pl), (2, .int (bI ou))] := hl
  refine lv_iconst (v := 0) hx hb d_Mo_counted_0 (by decide) ?_
  refine lv_istore_n (lv' := [(3, .int 0), (0, .ref g0), (1, .int pl), (2, .int (bI ou))]) hx hb d_Mo_counted_1 rfl hl (by decide) rfl (fun ls hl => ?_)
  refine lv_iconst (v := 0) hx hb d_Mo_counted_2 (by decide) ?_
  refine lv_istore (lv' := [(4, .int 0), (3, .int 0), (0, .ref g0), (1, .int pl), (2, .int (bI ou))]) hx hb d_Mo_counted_3 hl (by decide) rfl (fun ls hl => ?_)
  have loop : ∀ (k i : Nat) (ls : Array Slot), i + k = n → lv_has ls 5 [(4, .int (nI i)), (3, .int (nI (numB (fun b => if ou = true then !decide (fu b < 0) && decide (fu b / 2 = pl) else Ce b && decide (fw b = pl)) i))), (0, .ref g0), (1, .int pl), (2, .int (bI ou))] → W p l e (headSpec w_Mo_counted ({ frames := 0, cells := 0, slots := 0, locals := 0 })).room s m ([.ref g0, .int pl, .int (bI ou)]).toArray below meth c s.heap [] 0 0 (MQ below (vp_Si (fun r => r = nI (numB (fun b => if ou = true then !decide (fu b < 0) && decide (fu b / 2 = pl) else Ce b && decide (fw b = pl)) n))) ([.ref g0, .int pl, .int (bI ou)]).toArray s 0 0 (fun _ => False)) (F0 m 5 ls []) := by
    intro k
    induction k with
    | zero =>
      intro i ls hi hl
      have hie : i = n := by omega
      rw [hie] at hl
      refine lv_iload hx hb d_Mo_counted_5 (lv_at hl 0 rfl) ?_
      refine lv_aload_n hx hb d_Mo_counted_7 rfl (lv_at hl 2 rfl) ?_
      refine va_get (D := D) (ci := 6) (v := .int (nI n)) (C := R_Mo) (T := T_Mo) (N := 24) hx hb hts hin_Mo hown hK hP 0 rfl rfl 1 (by decide) (hts _ wd_705) (fun _ h9 => h9) rfl d_Mo_counted_8 ?_
      refine lv_icmp_ge (tgt := 84) hx hb d_Mo_counted_11 (by decide) (fun _ => ?_) (fun h0 => absurd (Int32.le_refl _) h0)
      refine lv_iload_n hx hb d_Mo_counted_84 rfl (lv_at hl 1 rfl) ?_
      exact W.iret (v := nI (numB (fun b => if ou = true then !decide (fu b < 0) && decide (fu b / 2 = pl) else Ce b && decide (fw b = pl)) n)) hx hb hr (fun t ht hW => ⟨nI (numB (fun b => if ou = true then !decide (fu b < 0) && decide (fu b / 2 = pl) else Ce b && decide (fw b = pl)) n), rfl, rfl, ht⟩) (fun q hq => by cases hq) d_Mo_counted_85
    | succ k ih =>
      intro i ls hi hl
      have hlt : i < n := by omega
      have hlt12 : i < 12 := by omega
      refine lv_iload hx hb d_Mo_counted_5 (lv_at hl 0 rfl) ?_
      refine lv_aload_n hx hb d_Mo_counted_7 rfl (lv_at hl 2 rfl) ?_
      refine va_get (D := D) (ci := 6) (v := .int (nI n)) (C := R_Mo) (T := T_Mo) (N := 24) hx hb hts hin_Mo hown hK hP 0 rfl rfl 1 (by decide) (hts _ wd_705) (fun _ h9 => h9) rfl d_Mo_counted_8 ?_
      refine lv_icmp_ge (tgt := 84) hx hb d_Mo_counted_11 (by decide) (fun h0 => absurd h0 (nI_ge hlt (by omega))) (fun _ => ?_)
      refine lv_iload_n hx hb d_Mo_counted_14 rfl (lv_at hl 1 rfl) ?_
      refine lv_iload_n hx hb d_Mo_counted_15 rfl (lv_at hl 4 rfl) ?_
      rcases bI_c (ou) with ⟨hb4, e9⟩ | ⟨hb4, e9⟩
      · refine tr_top e9 ?_
        refine lv_if_eq (tgt := 50) hx hb d_Mo_counted_16 (by decide) (fun h0 => absurd h0 (by decide)) (fun _ => ?_)
        refine lv_aload_n hx hb d_Mo_counted_19 rfl (lv_at hl 2 rfl) ?_
        refine va_get (D := D) (ci := 6) (v := .ref m_units) (C := R_Mo) (T := T_Mo) (N := 24) hx hb hts hin_Mo hown hK hP 0 rfl rfl 9 (by decide) (hts _ wd_713) (fun _ h9 => h9) rfl d_Mo_counted_20 ?_
        refine lv_iload hx hb d_Mo_counted_23 (lv_at hl 0 rfl) ?_
        refine tr_iald (v := fu i) hx hb hK hP 3 0 rfl rfl i hlt12 (by decide) rfl d_Mo_counted_25 ?_
        refine lv_if_lt (tgt := 46) hx hb d_Mo_counted_26 (by decide) (fun hc6 => ?_) (fun hc6 => ?_)
        · -- 26 taken
          refine lv_iconst (v := 0) hx hb d_Mo_counted_46 (by decide) ?_
          refine lv_goto (tgt := 76) hx hb d_Mo_counted_47 (by decide) ?_
          refine lv_iadd hx hb d_Mo_counted_76 ?_
          refine tr_top (y := nI ((numB (fun b => if ou = true then !decide (fu b < 0) && decide (fu b / 2 = pl) else Ce b && decide (fw b = pl)) i) + 0)) (nI_add (numB (fun b => if ou = true then !decide (fu b < 0) && decide (fu b / 2 = pl) else Ce b && decide (fw b = pl)) i) 0) ?_
          refine lv_istore_n (lv' := [(3, .int (nI ((numB (fun b => if ou = true then !decide (fu b < 0) && decide (fu b / 2 = pl) else Ce b && decide (fw b = pl)) i) + 0))), (4, .int (nI i)), (0, .ref g0), (1, .int pl), (2, .int (bI ou))]) hx hb d_Mo_counted_77 rfl hl (by decide) rfl (fun ls hl => ?_)
          refine lv_iinc (lv' := [(4, .int ((nI i) + 1)), (3, .int (nI ((numB (fun b => if ou = true then !decide (fu b < 0) && decide (fu b / 2 = pl) else Ce b && decide (fw b = pl)) i) + 0))), (0, .ref g0), (1, .int pl), (2, .int (bI ou))]) hx hb d_Mo_counted_78 hl (k := 1) rfl rfl (by decide) rfl (fun ls hl => ?_)
          refine lv_goto (tgt := 5) hx hb d_Mo_counted_81 (by decide) ?_
          have e7 : (nI i) + 1 = nI (i + 1) := nI_1 i
          have e8 : nI ((numB (fun b => if ou = true then !decide (fu b < 0) && decide (fu b / 2 = pl) else Ce b && decide (fw b = pl)) i) + 0) = nI (numB (fun b => if ou = true then !decide (fu b < 0) && decide (fu b / 2 = pl) else Ce b && decide (fw b = pl)) (i + 1)) := congrArg nI (show numB (fun b => if ou = true then !decide (fu b < 0) && decide (fu b / 2 = pl) else Ce b && decide (fw b = pl)) i + 0 = (numB (fun b => if ou = true then !decide (fu b < 0) && decide (fu b / 2 = pl) else Ce b && decide (fw b = pl)) i + if (if ou = true then !decide (fu i < 0) && decide (fu i / 2 = pl) else Ce i && decide (fw i = pl)) = true then 1 else 0) by rw [if_neg (show ¬ (if ou = true then !decide (fu i < 0) && decide (fu i / 2 = pl) else Ce i && decide (fw i = pl)) = true by simp [hb4, hc6])])
          exact ih (i + 1) ls (by omega) (by rw [← e7, ← e8]; exact lv_sub hl [0, 1, 2, 3, 4] rfl)
        · -- 26 not taken
          refine lv_aload_n hx hb d_Mo_counted_29 rfl (lv_at hl 2 rfl) ?_
          refine va_get (D := D) (ci := 6) (v := .ref m_units) (C := R_Mo) (T := T_Mo) (N := 24) hx hb hts hin_Mo hown hK hP 0 rfl rfl 9 (by decide) (hts _ wd_713) (fun _ h9 => h9) rfl d_Mo_counted_30 ?_
          refine lv_iload hx hb d_Mo_counted_33 (lv_at hl 0 rfl) ?_
          refine tr_iald (v := fu i) hx hb hK hP 3 0 rfl rfl i hlt12 (by decide) rfl d_Mo_counted_35 ?_
          refine lv_iconst (v := 2) hx hb d_Mo_counted_36 (by decide) ?_
          refine lv_idiv hx hb d_Mo_counted_37 (by decide) ?_
          refine lv_iload_n hx hb d_Mo_counted_38 rfl (lv_at hl 3 rfl) ?_
          refine lv_icmp_ne (tgt := 46) hx hb d_Mo_counted_39 (by decide) (fun hc9 => ?_) (fun hc9 => ?_)
          · -- 39 taken
            refine lv_iconst (v := 0) hx hb d_Mo_counted_46 (by decide) ?_
            refine lv_goto (tgt := 76) hx hb d_Mo_counted_47 (by decide) ?_
            refine lv_iadd hx hb d_Mo_counted_76 ?_
            refine tr_top (y := nI ((numB (fun b => if ou = true then !decide (fu b < 0) && decide (fu b / 2 = pl) else Ce b && decide (fw b = pl)) i) + 0)) (nI_add (numB (fun b => if ou = true then !decide (fu b < 0) && decide (fu b / 2 = pl) else Ce b && decide (fw b = pl)) i) 0) ?_
            refine lv_istore_n (lv' := [(3, .int (nI ((numB (fun b => if ou = true then !decide (fu b < 0) && decide (fu b / 2 = pl) else Ce b && decide (fw b = pl)) i) + 0))), (4, .int (nI i)), (0, .ref g0), (1, .int pl), (2, .int (bI ou))]) hx hb d_Mo_counted_77 rfl hl (by decide) rfl (fun ls hl => ?_)
            refine lv_iinc (lv' := [(4, .int ((nI i) + 1)), (3, .int (nI ((numB (fun b => if ou = true then !decide (fu b < 0) && decide (fu b / 2 = pl) else Ce b && decide (fw b = pl)) i) + 0))), (0, .ref g0), (1, .int pl), (2, .int (bI ou))]) hx hb d_Mo_counted_78 hl (k := 1) rfl rfl (by decide) rfl (fun ls hl => ?_)
            refine lv_goto (tgt := 5) hx hb d_Mo_counted_81 (by decide) ?_
            have e10 : (nI i) + 1 = nI (i + 1) := nI_1 i
            have e11 : nI ((numB (fun b => if ou = true then !decide (fu b < 0) && decide (fu b / 2 = pl) else Ce b && decide (fw b = pl)) i) + 0) = nI (numB (fun b => if ou = true then !decide (fu b < 0) && decide (fu b / 2 = pl) else Ce b && decide (fw b = pl)) (i + 1)) := congrArg nI (show numB (fun b => if ou = true then !decide (fu b < 0) && decide (fu b / 2 = pl) else Ce b && decide (fw b = pl)) i + 0 = (numB (fun b => if ou = true then !decide (fu b < 0) && decide (fu b / 2 = pl) else Ce b && decide (fw b = pl)) i + if (if ou = true then !decide (fu i < 0) && decide (fu i / 2 = pl) else Ce i && decide (fw i = pl)) = true then 1 else 0) by rw [if_neg (show ¬ (if ou = true then !decide (fu i < 0) && decide (fu i / 2 = pl) else Ce i && decide (fw i = pl)) = true by simp [hb4, hc6, hc9])])
            exact ih (i + 1) ls (by omega) (by rw [← e10, ← e11]; exact lv_sub hl [0, 1, 2, 3, 4] rfl)
          · -- 39 not taken
            refine lv_iconst (v := 1) hx hb d_Mo_counted_42 (by decide) ?_
            refine lv_goto (tgt := 76) hx hb d_Mo_counted_43 (by decide) ?_
            refine lv_iadd hx hb d_Mo_counted_76 ?_
            refine tr_top (y := nI ((numB (fun b => if ou = true then !decide (fu b < 0) && decide (fu b / 2 = pl) else Ce b && decide (fw b = pl)) i) + 1)) (nI_add (numB (fun b => if ou = true then !decide (fu b < 0) && decide (fu b / 2 = pl) else Ce b && decide (fw b = pl)) i) 1) ?_
            refine lv_istore_n (lv' := [(3, .int (nI ((numB (fun b => if ou = true then !decide (fu b < 0) && decide (fu b / 2 = pl) else Ce b && decide (fw b = pl)) i) + 1))), (4, .int (nI i)), (0, .ref g0), (1, .int pl), (2, .int (bI ou))]) hx hb d_Mo_counted_77 rfl hl (by decide) rfl (fun ls hl => ?_)
            refine lv_iinc (lv' := [(4, .int ((nI i) + 1)), (3, .int (nI ((numB (fun b => if ou = true then !decide (fu b < 0) && decide (fu b / 2 = pl) else Ce b && decide (fw b = pl)) i) + 1))), (0, .ref g0), (1, .int pl), (2, .int (bI ou))]) hx hb d_Mo_counted_78 hl (k := 1) rfl rfl (by decide) rfl (fun ls hl => ?_)
            refine lv_goto (tgt := 5) hx hb d_Mo_counted_81 (by decide) ?_
            have e12 : (nI i) + 1 = nI (i + 1) := nI_1 i
            have e13 : nI ((numB (fun b => if ou = true then !decide (fu b < 0) && decide (fu b / 2 = pl) else Ce b && decide (fw b = pl)) i) + 1) = nI (numB (fun b => if ou = true then !decide (fu b < 0) && decide (fu b / 2 = pl) else Ce b && decide (fw b = pl)) (i + 1)) := congrArg nI (show numB (fun b => if ou = true then !decide (fu b < 0) && decide (fu b / 2 = pl) else Ce b && decide (fw b = pl)) i + 1 = (numB (fun b => if ou = true then !decide (fu b < 0) && decide (fu b / 2 = pl) else Ce b && decide (fw b = pl)) i + if (if ou = true then !decide (fu i < 0) && decide (fu i / 2 = pl) else Ce i && decide (fw i = pl)) = true then 1 else 0) by rw [if_pos (show (if ou = true then !decide (fu i < 0) && decide (fu i / 2 = pl) else Ce i && decide (fw i = pl)) = true by simp [hb4, hc6, hc9])])
            exact ih (i + 1) ls (by omega) (by rw [← e12, ← e13]; exact lv_sub hl [0, 1, 2, 3, 4] rfl)
      · refine tr_top e9 ?_
        refine lv_if_eq (tgt := 50) hx hb d_Mo_counted_16 (by decide) (fun _ => ?_) (fun h0 => absurd (by decide) h0)
        refine lv_aload_n hx hb d_Mo_counted_50 rfl (lv_at hl 2 rfl) ?_
        refine va_get (D := D) (ci := 6) (v := .ref m_center) (C := R_Mo) (T := T_Mo) (N := 24) hx hb hts hin_Mo hown hK hP 0 rfl rfl 3 (by decide) (hts _ wd_707) (fun _ h9 => h9) rfl d_Mo_counted_51 ?_
        refine lv_iload hx hb d_Mo_counted_54 (lv_at hl 0 rfl) ?_
        refine tr_zald (v := bI (Ce i)) hx hb hK hP 1 1 rfl rfl i hlt12 (by decide) rfl d_Mo_counted_56 ?_
        rcases bI_c (Ce i) with ⟨hb16, e9⟩ | ⟨hb16, e9⟩
        · refine tr_top e9 ?_
          refine lv_if_eq (tgt := 75) hx hb d_Mo_counted_57 (by decide) (fun h0 => absurd h0 (by decide)) (fun _ => ?_)
          refine lv_aload_n hx hb d_Mo_counted_60 rfl (lv_at hl 2 rfl) ?_
          refine va_get (D := D) (ci := 6) (v := .ref m_owner) (C := R_Mo) (T := T_Mo) (N := 24) hx hb hts hin_Mo hown hK hP 0 rfl rfl 8 (by decide) (hts _ wd_712) (fun _ h9 => h9) rfl d_Mo_counted_61 ?_
          refine lv_iload hx hb d_Mo_counted_64 (lv_at hl 0 rfl) ?_
          refine tr_iald (v := fw i) hx hb hK hP 2 0 rfl rfl i hlt12 (by decide) rfl d_Mo_counted_66 ?_
          refine lv_iload_n hx hb d_Mo_counted_67 rfl (lv_at hl 3 rfl) ?_
          refine lv_icmp_ne (tgt := 75) hx hb d_Mo_counted_68 (by decide) (fun hc18 => ?_) (fun hc18 => ?_)
          · -- 68 taken
            refine lv_iconst (v := 0) hx hb d_Mo_counted_75 (by decide) ?_
            refine lv_iadd hx hb d_Mo_counted_76 ?_
            refine tr_top (y := nI ((numB (fun b => if ou = true then !decide (fu b < 0) && decide (fu b / 2 = pl) else Ce b && decide (fw b = pl)) i) + 0)) (nI_add (numB (fun b => if ou = true then !decide (fu b < 0) && decide (fu b / 2 = pl) else Ce b && decide (fw b = pl)) i) 0) ?_
            refine lv_istore_n (lv' := [(3, .int (nI ((numB (fun b => if ou = true then !decide (fu b < 0) && decide (fu b / 2 = pl) else Ce b && decide (fw b = pl)) i) + 0))), (4, .int (nI i)), (0, .ref g0), (1, .int pl), (2, .int (bI ou))]) hx hb d_Mo_counted_77 rfl hl (by decide) rfl (fun ls hl => ?_)
            refine lv_iinc (lv' := [(4, .int ((nI i) + 1)), (3, .int (nI ((numB (fun b => if ou = true then !decide (fu b < 0) && decide (fu b / 2 = pl) else Ce b && decide (fw b = pl)) i) + 0))), (0, .ref g0), (1, .int pl), (2, .int (bI ou))]) hx hb d_Mo_counted_78 hl (k := 1) rfl rfl (by decide) rfl (fun ls hl => ?_)
            refine lv_goto (tgt := 5) hx hb d_Mo_counted_81 (by decide) ?_
            have e19 : (nI i) + 1 = nI (i + 1) := nI_1 i
            have e20 : nI ((numB (fun b => if ou = true then !decide (fu b < 0) && decide (fu b / 2 = pl) else Ce b && decide (fw b = pl)) i) + 0) = nI (numB (fun b => if ou = true then !decide (fu b < 0) && decide (fu b / 2 = pl) else Ce b && decide (fw b = pl)) (i + 1)) := congrArg nI (show numB (fun b => if ou = true then !decide (fu b < 0) && decide (fu b / 2 = pl) else Ce b && decide (fw b = pl)) i + 0 = (numB (fun b => if ou = true then !decide (fu b < 0) && decide (fu b / 2 = pl) else Ce b && decide (fw b = pl)) i + if (if ou = true then !decide (fu i < 0) && decide (fu i / 2 = pl) else Ce i && decide (fw i = pl)) = true then 1 else 0) by rw [if_neg (show ¬ (if ou = true then !decide (fu i < 0) && decide (fu i / 2 = pl) else Ce i && decide (fw i = pl)) = true by simp [hb4, hb16, hc18])])
            exact ih (i + 1) ls (by omega) (by rw [← e19, ← e20]; exact lv_sub hl [0, 1, 2, 3, 4] rfl)
          · -- 68 not taken
            refine lv_iconst (v := 1) hx hb d_Mo_counted_71 (by decide) ?_
            refine lv_goto (tgt := 76) hx hb d_Mo_counted_72 (by decide) ?_
            refine lv_iadd hx hb d_Mo_counted_76 ?_
            refine tr_top (y := nI ((numB (fun b => if ou = true then !decide (fu b < 0) && decide (fu b / 2 = pl) else Ce b && decide (fw b = pl)) i) + 1)) (nI_add (numB (fun b => if ou = true then !decide (fu b < 0) && decide (fu b / 2 = pl) else Ce b && decide (fw b = pl)) i) 1) ?_
            refine lv_istore_n (lv' := [(3, .int (nI ((numB (fun b => if ou = true then !decide (fu b < 0) && decide (fu b / 2 = pl) else Ce b && decide (fw b = pl)) i) + 1))), (4, .int (nI i)), (0, .ref g0), (1, .int pl), (2, .int (bI ou))]) hx hb d_Mo_counted_77 rfl hl (by decide) rfl (fun ls hl => ?_)
            refine lv_iinc (lv' := [(4, .int ((nI i) + 1)), (3, .int (nI ((numB (fun b => if ou = true then !decide (fu b < 0) && decide (fu b / 2 = pl) else Ce b && decide (fw b = pl)) i) + 1))), (0, .ref g0), (1, .int pl), (2, .int (bI ou))]) hx hb d_Mo_counted_78 hl (k := 1) rfl rfl (by decide) rfl (fun ls hl => ?_)
            refine lv_goto (tgt := 5) hx hb d_Mo_counted_81 (by decide) ?_
            have e21 : (nI i) + 1 = nI (i + 1) := nI_1 i
            have e22 : nI ((numB (fun b => if ou = true then !decide (fu b < 0) && decide (fu b / 2 = pl) else Ce b && decide (fw b = pl)) i) + 1) = nI (numB (fun b => if ou = true then !decide (fu b < 0) && decide (fu b / 2 = pl) else Ce b && decide (fw b = pl)) (i + 1)) := congrArg nI (show numB (fun b => if ou = true then !decide (fu b < 0) && decide (fu b / 2 = pl) else Ce b && decide (fw b = pl)) i + 1 = (numB (fun b => if ou = true then !decide (fu b < 0) && decide (fu b / 2 = pl) else Ce b && decide (fw b = pl)) i + if (if ou = true then !decide (fu i < 0) && decide (fu i / 2 = pl) else Ce i && decide (fw i = pl)) = true then 1 else 0) by rw [if_pos (show (if ou = true then !decide (fu i < 0) && decide (fu i / 2 = pl) else Ce i && decide (fw i = pl)) = true by simp [hb4, hb16, hc18])])
            exact ih (i + 1) ls (by omega) (by rw [← e21, ← e22]; exact lv_sub hl [0, 1, 2, 3, 4] rfl)
        · refine tr_top e9 ?_
          refine lv_if_eq (tgt := 75) hx hb d_Mo_counted_57 (by decide) (fun _ => ?_) (fun h0 => absurd (by decide) h0)
          refine lv_iconst (v := 0) hx hb d_Mo_counted_75 (by decide) ?_
          refine lv_iadd hx hb d_Mo_counted_76 ?_
          refine tr_top (y := nI ((numB (fun b => if ou = true then !decide (fu b < 0) && decide (fu b / 2 = pl) else Ce b && decide (fw b = pl)) i) + 0)) (nI_add (numB (fun b => if ou = true then !decide (fu b < 0) && decide (fu b / 2 = pl) else Ce b && decide (fw b = pl)) i) 0) ?_
          refine lv_istore_n (lv' := [(3, .int (nI ((numB (fun b => if ou = true then !decide (fu b < 0) && decide (fu b / 2 = pl) else Ce b && decide (fw b = pl)) i) + 0))), (4, .int (nI i)), (0, .ref g0), (1, .int pl), (2, .int (bI ou))]) hx hb d_Mo_counted_77 rfl hl (by decide) rfl (fun ls hl => ?_)
          refine lv_iinc (lv' := [(4, .int ((nI i) + 1)), (3, .int (nI ((numB (fun b => if ou = true then !decide (fu b < 0) && decide (fu b / 2 = pl) else Ce b && decide (fw b = pl)) i) + 0))), (0, .ref g0), (1, .int pl), (2, .int (bI ou))]) hx hb d_Mo_counted_78 hl (k := 1) rfl rfl (by decide) rfl (fun ls hl => ?_)
          refine lv_goto (tgt := 5) hx hb d_Mo_counted_81 (by decide) ?_
          have e24 : (nI i) + 1 = nI (i + 1) := nI_1 i
          have e25 : nI ((numB (fun b => if ou = true then !decide (fu b < 0) && decide (fu b / 2 = pl) else Ce b && decide (fw b = pl)) i) + 0) = nI (numB (fun b => if ou = true then !decide (fu b < 0) && decide (fu b / 2 = pl) else Ce b && decide (fw b = pl)) (i + 1)) := congrArg nI (show numB (fun b => if ou = true then !decide (fu b < 0) && decide (fu b / 2 = pl) else Ce b && decide (fw b = pl)) i + 0 = (numB (fun b => if ou = true then !decide (fu b < 0) && decide (fu b / 2 = pl) else Ce b && decide (fw b = pl)) i + if (if ou = true then !decide (fu i < 0) && decide (fu i / 2 = pl) else Ce i && decide (fw i = pl)) = true then 1 else 0) by rw [if_neg (show ¬ (if ou = true then !decide (fu i < 0) && decide (fu i / 2 = pl) else Ce i && decide (fw i = pl)) = true by simp [hb4, hb16])])
          exact ih (i + 1) ls (by omega) (by rw [← e24, ← e25]; exact lv_sub hl [0, 1, 2, 3, 4] rfl)
  exact loop n 0 ls (Nat.zero_add _) hl
