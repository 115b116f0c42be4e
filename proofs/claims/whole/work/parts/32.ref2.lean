theorem d_Mo_bordersSea_0 : decode b_Mo_bordersSea 0 = .ok (.iconst 0, 1) := by decide +kernel
theorem d_Mo_bordersSea_1 : decode b_Mo_bordersSea 1 = .ok (.istore_n 2, 1) := by decide +kernel
theorem d_Mo_bordersSea_2 : decode b_Mo_bordersSea 2 = .ok (.iconst 0, 1) := by decide +kernel
theorem d_Mo_bordersSea_3 : decode b_Mo_bordersSea 3 = .ok (.istore_n 3, 1) := by decide +kernel
theorem d_Mo_bordersSea_4 : decode b_Mo_bordersSea 4 = .ok (.iload_n 3, 1) := by decide +kernel
theorem d_Mo_bordersSea_5 : decode b_Mo_bordersSea 5 = .ok (.aload_n 0, 1) := by decide +kernel
theorem d_Mo_bordersSea_6 : decode b_Mo_bordersSea 6 = .ok (.getfield 72, 3) := by decide +kernel
theorem d_Mo_bordersSea_9 : decode b_Mo_bordersSea 9 = .ok (.if_icmp .ge 37, 3) := by decide +kernel
theorem d_Mo_bordersSea_12 : decode b_Mo_bordersSea 12 = .ok (.iload_n 2, 1) := by decide +kernel
theorem d_Mo_bordersSea_13 : decode b_Mo_bordersSea 13 = .ok (.ifCond .ne 21, 3) := by decide +kernel
theorem d_Mo_bordersSea_16 : decode b_Mo_bordersSea 16 = .ok (.aload_n 0, 1) := by decide +kernel
theorem d_Mo_bordersSea_17 : decode b_Mo_bordersSea 17 = .ok (.getfield 7, 3) := by decide +kernel
theorem d_Mo_bordersSea_20 : decode b_Mo_bordersSea 20 = .ok (.iload_n 3, 1) := by decide +kernel
theorem d_Mo_bordersSea_21 : decode b_Mo_bordersSea 21 = .ok (.baload, 1) := by decide +kernel
theorem d_Mo_bordersSea_22 : decode b_Mo_bordersSea 22 = .ok (.ifCond .eq 16, 3) := by decide +kernel
theorem d_Mo_bordersSea_25 : decode b_Mo_bordersSea 25 = .ok (.aload_n 0, 1) := by decide +kernel
theorem d_Mo_bordersSea_26 : decode b_Mo_bordersSea 26 = .ok (.iload_n 1, 1) := by decide +kernel
theorem d_Mo_bordersSea_27 : decode b_Mo_bordersSea 27 = .ok (.iload_n 3, 1) := by decide +kernel
theorem d_Mo_bordersSea_28 : decode b_Mo_bordersSea 28 = .ok (.invokevirtual 82, 3) := by decide +kernel
theorem d_Mo_bordersSea_31 : decode b_Mo_bordersSea 31 = .ok (.ifCond .eq 7, 3) := by decide +kernel
theorem d_Mo_bordersSea_34 : decode b_Mo_bordersSea 34 = .ok (.iconst 1, 1) := by decide +kernel
theorem d_Mo_bordersSea_35 : decode b_Mo_bordersSea 35 = .ok (.goto 4, 3) := by decide +kernel
theorem d_Mo_bordersSea_38 : decode b_Mo_bordersSea 38 = .ok (.iconst 0, 1) := by decide +kernel
theorem d_Mo_bordersSea_39 : decode b_Mo_bordersSea 39 = .ok (.istore_n 2, 1) := by decide +kernel
theorem d_Mo_bordersSea_40 : decode b_Mo_bordersSea 40 = .ok (.iinc 3 1, 3) := by decide +kernel
theorem d_Mo_bordersSea_43 : decode b_Mo_bordersSea 43 = .ok (.goto (-39), 3) := by decide +kernel
theorem d_Mo_bordersSea_46 : decode b_Mo_bordersSea 46 = .ok (.iload_n 2, 1) := by decide +kernel
theorem d_Mo_bordersSea_47 : decode b_Mo_bordersSea 47 = .ok (.ireturn, 1) := by decide +kernel

set_option maxHeartbeats 4000000 in
set_option maxRecDepth 100000 in
theorem c_Mo_bordersSea (l : Launch) (D : va_G) (cI cZ cJ cS : ClassId) (aT : Nat) (ceT : Cell) (g0 m_sea m_center m_home m_borders m_owner m_units m_kind m_toX m_toY m_results m_known m_reached m_way m_aside m_origin m_retreats m_contested m_moved m_past : Nat) (n : Nat) (co mp mt msh : Int32) (S : Nat → Bool) (Bo : Nat → Bool) (a : Nat)  (h_a : a < 12) (hn : n ≤ 12) : Met l y_Mo_bordersSea w_Mo_bordersSea ({ frames := 1, cells := 0, slots := 0, locals := 22 }) (tP D cI cZ cJ cS aT ceT [.ref g0, .int (nI a)] [(g0, .inr (6, [.int co, .int (nI n), .ref m_sea, .ref m_center, .ref m_home, .ref m_borders, .int mp, .int mt, .ref m_owner, .ref m_units, .ref m_kind, .ref m_toX, .ref m_toY, .ref m_results, .ref m_known, .ref m_reached, .ref m_way, .ref m_aside, .ref m_origin, .ref m_retreats, .ref m_contested, .ref m_moved, .int msh, .ref m_past])), (m_sea, .inl (cZ, 12, .inl (fun j => bI (S j)))), (m_borders, .inl (cZ, 144, .inl (fun j => bI (Bo j))))]) (vp_Si (fun r => r = bI (anyB (fun b => S b && Bo (12 * a + b)) n))) 0 0 (fun _ => False) := by
  refine Met.ofW (cc := b_Mo_bordersSea) (maxL := 4) (ret := (some .boolean)) (by decide) rfl ?_
  intro p e s m args below meth c s₁ B hml hv
  obtain ⟨rfl, hP, hK, hX⟩ := hv
  have hx := B.exec
  have hb := B.bytes
  have hr := B.returns
  have hts0 := atoms_spec (ws := w_Mo_bordersSea) B.pre
  have hts : ∀ w ∈ TB, w.before _ s = true := fun w h => hts0 w (List.mem_cons_of_mem _ h)
  have hown : s.vm.findClass R_Mo = some m.cls := findClass_of_methodNamed B.named
  have hlocks := B.notSynchronized
  have hXH : s.heap[aT]? = s.heap[aT]? := rfl
  have hl := lv_entry ([.ref g0, .int (nI a)]) (n := 4) (Nat.le_of_ble_eq_true rfl)
  rw [lg_entry_eq]
  generalize (lg_sl ([.ref g0, .int (nI a)]) ++ List.replicate (4 - (lg_sl ([.ref g0, .int (nI a)])).length) Slot.unset).toArray = ls at hl ⊢
  have hl : lv_has ls 4 [(0, .ref g0), (1, .int (nI a))] := hl
  refine lv_iconst (v := 0) hx hb d_Mo_bordersSea_0 (by decide) ?_
  refine lv_istore_n (lv' := [(2, .int 0), (0, .ref g0), (1, .int (nI a))]) hx hb d_Mo_bordersSea_1 rfl hl (by decide) rfl (fun ls hl => ?_)
  refine lv_iconst (v := 0) hx hb d_Mo_bordersSea_2 (by decide) ?_
  refine lv_istore_n (lv' := [(3, .int 0), (2, .int 0), (0, .ref g0), (1, .int (nI a))]) hx hb d_Mo_bordersSea_3 rfl hl (by decide) rfl (fun ls hl => ?_)
  have loop : ∀ (k i : Nat) (ls : Array Slot), i + k = n → lv_has ls 4 [(3, .int (nI i)), (2, .int (bI (anyB (fun b => S b && Bo (12 * a + b)) i))), (0, .ref g0), (1, .int (nI a))] → W p l e (headSpec w_Mo_bordersSea ({ frames := 1, cells := 0, slots := 0, locals := 22 })).room s m ([.ref g0, .int (nI a)]).toArray below meth c s.heap [] 0 0 (MQ below (vp_Si (fun r => r = bI (anyB (fun b => S b && Bo (12 * a + b)) n))) ([.ref g0, .int (nI a)]).toArray s 0 0 (fun _ => False)) (F0 m 4 ls []) := by
    intro k
    induction k with
    | zero =>
      intro i ls hi hl
      have hie : i = n := by omega
      rw [hie] at hl
      refine lv_iload_n hx hb d_Mo_bordersSea_4 rfl (lv_at hl 0 rfl) ?_
      refine lv_aload_n hx hb d_Mo_bordersSea_5 rfl (lv_at hl 2 rfl) ?_
      refine va_get (D := D) (ci := 6) (v := .int (nI n)) (C := R_Mo) (T := T_Mo) (N := 24) hx hb hts hin_Mo hown hK hP 0 rfl rfl 1 (by decide) (hts _ wd_705) (fun _ h9 => h9) rfl d_Mo_bordersSea_6 ?_
      refine lv_icmp_ge (tgt := 46) hx hb d_Mo_bordersSea_9 (by decide) (fun _ => ?_) (fun h0 => absurd (Int32.le_refl _) h0)
      refine lv_iload_n hx hb d_Mo_bordersSea_46 rfl (lv_at hl 1 rfl) ?_
      exact W.zret (v := bI (anyB (fun b => S b && Bo (12 * a + b)) n)) hx hb hr (bI_n _) (fun t ht hW => ⟨bI (anyB (fun b => S b && Bo (12 * a + b)) n), rfl, congrArg bI (by simp []), ht⟩) (fun q hq => by cases hq) d_Mo_bordersSea_47
    | succ k ih =>
      intro i ls hi hl
      have hlt : i < n := by omega
      have hlt12 : i < 12 := by omega
      refine lv_iload_n hx hb d_Mo_bordersSea_4 rfl (lv_at hl 0 rfl) ?_
      refine lv_aload_n hx hb d_Mo_bordersSea_5 rfl (lv_at hl 2 rfl) ?_
      refine va_get (D := D) (ci := 6) (v := .int (nI n)) (C := R_Mo) (T := T_Mo) (N := 24) hx hb hts hin_Mo hown hK hP 0 rfl rfl 1 (by decide) (hts _ wd_705) (fun _ h9 => h9) rfl d_Mo_bordersSea_6 ?_
      refine lv_icmp_ge (tgt := 46) hx hb d_Mo_bordersSea_9 (by decide) (fun h0 => absurd h0 (nI_ge hlt (by omega))) (fun _ => ?_)
      refine lv_iload_n hx hb d_Mo_bordersSea_12 rfl (lv_at hl 1 rfl) ?_
      rcases bI_c (anyB (fun b => S b && Bo (12 * a + b)) i) with ⟨hb4, e9⟩ | ⟨hb4, e9⟩
      · refine tr_top e9 ?_
        refine lv_if_ne (tgt := 34) hx hb d_Mo_bordersSea_13 (by decide) (fun _ => ?_) (fun h0 => absurd h0 (by decide))
        refine lv_iconst (v := 1) hx hb d_Mo_bordersSea_34 (by decide) ?_
        refine lv_goto (tgt := 39) hx hb d_Mo_bordersSea_35 (by decide) ?_
        refine lv_istore_n (lv' := [(2, .int 1), (3, .int (nI i)), (0, .ref g0), (1, .int (nI a))]) hx hb d_Mo_bordersSea_39 rfl hl (by decide) rfl (fun ls hl => ?_)
        refine lv_iinc (lv' := [(3, .int ((nI i) + 1)), (2, .int 1), (0, .ref g0), (1, .int (nI a))]) hx hb d_Mo_bordersSea_40 hl (k := 1) rfl rfl (by decide) rfl (fun ls hl => ?_)
        refine lv_goto (tgt := 4) hx hb d_Mo_bordersSea_43 (by decide) ?_
        have e6 : (nI i) + 1 = nI (i + 1) := nI_1 i
        have e7 : 1 = bI (anyB (fun b => S b && Bo (12 * a + b)) (i + 1)) := (bI_t (show (anyB (fun b => S b && Bo (12 * a + b)) i || (S i && Bo (12 * a + i))) = true by simp [hb4])).symm
        exact ih (i + 1) ls (by omega) (by rw [← e6, ← e7]; exact lv_sub hl [0, 1, 2, 3] rfl)
      · refine tr_top e9 ?_
        refine lv_if_ne (tgt := 34) hx hb d_Mo_bordersSea_13 (by decide) (fun h0 => absurd (by decide) h0) (fun _ => ?_)
        refine lv_aload_n hx hb d_Mo_bordersSea_16 rfl (lv_at hl 2 rfl) ?_
        refine va_get (D := D) (ci := 6) (v := .ref m_sea) (C := R_Mo) (T := T_Mo) (N := 24) hx hb hts hin_Mo hown hK hP 0 rfl rfl 2 (by decide) (hts _ wd_706) (fun _ h9 => h9) rfl d_Mo_bordersSea_17 ?_
        refine lv_iload_n hx hb d_Mo_bordersSea_20 rfl (lv_at hl 0 rfl) ?_
        refine tr_zald (v := bI (S i)) hx hb hK hP 1 1 rfl rfl i hlt12 (by decide) rfl d_Mo_bordersSea_21 ?_
        rcases bI_c (S i) with ⟨hb10, e9⟩ | ⟨hb10, e9⟩
        · refine tr_top e9 ?_
          refine lv_if_eq (tgt := 38) hx hb d_Mo_bordersSea_22 (by decide) (fun h0 => absurd h0 (by decide)) (fun _ => ?_)
          refine lv_aload_n hx hb d_Mo_bordersSea_25 rfl (lv_at hl 2 rfl) ?_
          refine lv_iload_n hx hb d_Mo_bordersSea_26 rfl (lv_at hl 3 rfl) ?_
          refine lv_iload_n hx hb d_Mo_bordersSea_27 rfl (lv_at hl 0 rfl) ?_
          have hPc := hP.sub (ws' := [(g0, .inr (6, [.int co, .int (nI n), .ref m_sea, .ref m_center, .ref m_home, .ref m_borders, .int mp, .int mt, .ref m_owner, .ref m_units, .ref m_kind, .ref m_toX, .ref m_toY, .ref m_results, .ref m_known, .ref m_reached, .ref m_way, .ref m_aside, .ref m_origin, .ref m_retreats, .ref m_contested, .ref m_moved, .int msh, .ref m_past])), (m_borders, .inl (cZ, 144, .inl (fun j => bI (Bo j))))]) [0, 2] rfl
          refine vp_callSi (va_Run.run (va_runV (As := [.int (nI a), .int (nI i)]) (rest := []) ⟨hx, hb, hml, hown, hts⟩ (c_Mo_border2 l D cI cZ cJ cS aT ceT  g0 m_sea m_center m_home m_borders m_owner m_units m_kind m_toX m_toY m_results m_known m_reached m_way m_aside m_origin m_retreats m_contested m_moved m_past n co mp mt msh Bo a i h_a hlt12) (cwV 2 hts (tb_4 wd_794 wd_796 wp_37 wd_8 (tb_c wd_797)) rfl rfl rfl ⟨rfl, by decide, by decide, by decide +kernel⟩ ⟨Nat.le_of_ble_eq_true rfl, Nat.le_of_ble_eq_true rfl⟩) (tP_V hK hX hXH hPc (q := 0) rfl rfl) rfl rfl hl.1 rfl (lv_room (Nat.le_of_ble_eq_true rfl)) d_Mo_bordersSea_28 ⟨Nat.le_of_ble_eq_true rfl, Nat.le_of_ble_eq_true rfl⟩)) (fun r12 hr9 => ?_)
          rw [hr9]
          rcases bI_c (Bo (12 * a + i)) with ⟨hb14, e9⟩ | ⟨hb14, e9⟩
          · refine tr_top e9 ?_
            refine lv_if_eq (tgt := 38) hx hb d_Mo_bordersSea_31 (by decide) (fun h0 => absurd h0 (by decide)) (fun _ => ?_)
            refine lv_iconst (v := 1) hx hb d_Mo_bordersSea_34 (by decide) ?_
            refine lv_goto (tgt := 39) hx hb d_Mo_bordersSea_35 (by decide) ?_
            refine lv_istore_n (lv' := [(2, .int 1), (3, .int (nI i)), (0, .ref g0), (1, .int (nI a))]) hx hb d_Mo_bordersSea_39 rfl hl (by decide) rfl (fun ls hl => ?_)
            refine lv_iinc (lv' := [(3, .int ((nI i) + 1)), (2, .int 1), (0, .ref g0), (1, .int (nI a))]) hx hb d_Mo_bordersSea_40 hl (k := 1) rfl rfl (by decide) rfl (fun ls hl => ?_)
            refine lv_goto (tgt := 4) hx hb d_Mo_bordersSea_43 (by decide) ?_
            have e16 : (nI i) + 1 = nI (i + 1) := nI_1 i
            have e17 : 1 = bI (anyB (fun b => S b && Bo (12 * a + b)) (i + 1)) := (bI_t (show (anyB (fun b => S b && Bo (12 * a + b)) i || (S i && Bo (12 * a + i))) = true by simp [hb4, hb10, hb14])).symm
            exact ih (i + 1) ls (by omega) (by rw [← e16, ← e17]; exact lv_sub hl [0, 1, 2, 3] rfl)
          · refine tr_top e9 ?_
            refine lv_if_eq (tgt := 38) hx hb d_Mo_bordersSea_31 (by decide) (fun _ => ?_) (fun h0 => absurd (by decide) h0)
            refine lv_iconst (v := 0) hx hb d_Mo_bordersSea_38 (by decide) ?_
            refine lv_istore_n (lv' := [(2, .int 0), (3, .int (nI i)), (0, .ref g0), (1, .int (nI a))]) hx hb d_Mo_bordersSea_39 rfl hl (by decide) rfl (fun ls hl => ?_)
            refine lv_iinc (lv' := [(3, .int ((nI i) + 1)), (2, .int 0), (0, .ref g0), (1, .int (nI a))]) hx hb d_Mo_bordersSea_40 hl (k := 1) rfl rfl (by decide) rfl (fun ls hl => ?_)
            refine lv_goto (tgt := 4) hx hb d_Mo_bordersSea_43 (by decide) ?_
            have e19 : (nI i) + 1 = nI (i + 1) := nI_1 i
            have e20 : 0 = bI (anyB (fun b => S b && Bo (12 * a + b)) (i + 1)) := (bI_f (show (anyB (fun b => S b && Bo (12 * a + b)) i || (S i && Bo (12 * a + i))) = false by simp [hb4, hb10, hb14])).symm
            exact ih (i + 1) ls (by omega) (by rw [← e19, ← e20]; exact lv_sub hl [0, 1, 2, 3] rfl)
        · refine tr_top e9 ?_
          refine lv_if_eq (tgt := 38) hx hb d_Mo_bordersSea_22 (by decide) (fun _ => ?_) (fun h0 => absurd (by decide) h0)
          refine lv_iconst (v := 0) hx hb d_Mo_bordersSea_38 (by decide) ?_
          refine lv_istore_n (lv' := [(2, .int 0), (3, .int (nI i)), (0, .ref g0), (1, .int (nI a))]) hx hb d_Mo_bordersSea_39 rfl hl (by decide) rfl (fun ls hl => ?_)
          refine lv_iinc (lv' := [(3, .int ((nI i) + 1)), (2, .int 0), (0, .ref g0), (1, .int (nI a))]) hx hb d_Mo_bordersSea_40 hl (k := 1) rfl rfl (by decide) rfl (fun ls hl => ?_)
          refine lv_goto (tgt := 4) hx hb d_Mo_bordersSea_43 (by decide) ?_
          have e22 : (nI i) + 1 = nI (i + 1) := nI_1 i
          have e23 : 0 = bI (anyB (fun b => S b && Bo (12 * a + b)) (i + 1)) := (bI_f (show (anyB (fun b => S b && Bo (12 * a + b)) i || (S i && Bo (12 * a + i))) = false by simp [hb4, hb10])).symm
          exact ih (i + 1) ls (by omega) (by rw [← e22, ← e23]; exact lv_sub hl [0, 1, 2, 3] rfl)
  exact loop n 0 ls (Nat.zero_add _) hl

/-- is a unit in a displaced: 1 surely, 2 surely not, 0 open -/
def dsA (fu : Nat → Int32) (Kd X K : Nat → Nat) (n a : Nat) : Nat :=
  if (!anyB (fun b => mvT fu Kd X b a && !decide (K b = 2)) n || (mvs fu Kd a && decide (K a = 1))) = true then 2 else if (anyB (fun b => mvT fu Kd X b a && decide (K b = 1)) n && (!mvs fu Kd a || decide (K a = 2))) = true then 1 else 0
theorem dsA_lt (fu : Nat → Int32) (Kd X K : Nat → Nat) (n a : Nat) : dsA fu Kd X K n a < 3 := by
  unfold dsA
  split
  · decide
  · split <;> decide

theorem d_Mo_displacedAt_0 : decode b_Mo_displacedAt 0 = .ok (.iconst 0, 1) := by decide +kernel
theorem d_Mo_displacedAt_1 : decode b_Mo_displacedAt 1 = .ok (.istore_n 2, 1) := by decide +kernel
theorem d_Mo_displacedAt_2 : decode b_Mo_displacedAt 2 = .ok (.iconst 0, 1) := by decide +kernel
theorem d_Mo_displacedAt_3 : decode b_Mo_displacedAt 3 = .ok (.istore_n 3, 1) := by decide +kernel
theorem d_Mo_displacedAt_4 : decode b_Mo_displacedAt 4 = .ok (.iconst 0, 1) := by decide +kernel
theorem d_Mo_displacedAt_5 : decode b_Mo_displacedAt 5 = .ok (.istore 4, 2) := by decide +kernel
theorem d_Mo_displacedAt_7 : decode b_Mo_displacedAt 7 = .ok (.iload 4, 2) := by decide +kernel
theorem d_Mo_displacedAt_9 : decode b_Mo_displacedAt 9 = .ok (.aload_n 0, 1) := by decide +kernel
theorem d_Mo_displacedAt_10 : decode b_Mo_displacedAt 10 = .ok (.getfield 72, 3) := by decide +kernel
theorem d_Mo_displacedAt_13 : decode b_Mo_displacedAt 13 = .ok (.if_icmp .ge 64, 3) := by decide +kernel
theorem d_Mo_displacedAt_16 : decode b_Mo_displacedAt 16 = .ok (.aload_n 0, 1) := by decide +kernel
theorem d_Mo_displacedAt_17 : decode b_Mo_displacedAt 17 = .ok (.iload 4, 2) := by decide +kernel
theorem d_Mo_displacedAt_19 : decode b_Mo_displacedAt 19 = .ok (.iload_n 1, 1) := by decide +kernel
theorem d_Mo_displacedAt_20 : decode b_Mo_displacedAt 20 = .ok (.invokevirtual 112, 3) := by decide +kernel
theorem d_Mo_displacedAt_23 : decode b_Mo_displacedAt 23 = .ok (.ifCond .ne 6, 3) := by decide +kernel
theorem d_Mo_displacedAt_26 : decode b_Mo_displacedAt 26 = .ok (.goto 45, 3) := by decide +kernel
theorem d_Mo_displacedAt_29 : decode b_Mo_displacedAt 29 = .ok (.iload_n 2, 1) := by decide +kernel
theorem d_Mo_displacedAt_30 : decode b_Mo_displacedAt 30 = .ok (.ifCond .ne 14, 3) := by decide +kernel
theorem d_Mo_displacedAt_33 : decode b_Mo_displacedAt 33 = .ok (.aload_n 0, 1) := by decide +kernel
theorem d_Mo_displacedAt_34 : decode b_Mo_displacedAt 34 = .ok (.getfield 41, 3) := by decide +kernel
theorem d_Mo_displacedAt_37 : decode b_Mo_displacedAt 37 = .ok (.iload 4, 2) := by decide +kernel
theorem d_Mo_displacedAt_39 : decode b_Mo_displacedAt 39 = .ok (.iaload, 1) := by decide +kernel
theorem d_Mo_displacedAt_40 : decode b_Mo_displacedAt 40 = .ok (.iconst 1, 1) := by decide +kernel
theorem d_Mo_displacedAt_41 : decode b_Mo_displacedAt 41 = .ok (.if_icmp .ne 7, 3) := by decide +kernel
theorem d_Mo_displacedAt_44 : decode b_Mo_displacedAt 44 = .ok (.iconst 1, 1) := by decide +kernel
theorem d_Mo_displacedAt_45 : decode b_Mo_displacedAt 45 = .ok (.goto 4, 3) := by decide +kernel
theorem d_Mo_displacedAt_48 : decode b_Mo_displacedAt 48 = .ok (.iconst 0, 1) := by decide +kernel
theorem d_Mo_displacedAt_49 : decode b_Mo_displacedAt 49 = .ok (.istore_n 2, 1) := by decide +kernel
theorem d_Mo_displacedAt_50 : decode b_Mo_displacedAt 50 = .ok (.iload_n 3, 1) := by decide +kernel
theorem d_Mo_displacedAt_51 : decode b_Mo_displacedAt 51 = .ok (.ifCond .ne 14, 3) := by decide +kernel
theorem d_Mo_displacedAt_54 : decode b_Mo_displacedAt 54 = .ok (.aload_n 0, 1) := by decide +kernel
theorem d_Mo_displacedAt_55 : decode b_Mo_displacedAt 55 = .ok (.getfield 41, 3) := by decide +kernel
theorem d_Mo_displacedAt_58 : decode b_Mo_displacedAt 58 = .ok (.iload 4, 2) := by decide +kernel
theorem d_Mo_displacedAt_60 : decode b_Mo_displacedAt 60 = .ok (.iaload, 1) := by decide +kernel
theorem d_Mo_displacedAt_61 : decode b_Mo_displacedAt 61 = .ok (.iconst 2, 1) := by decide +kernel
theorem d_Mo_displacedAt_62 : decode b_Mo_displacedAt 62 = .ok (.if_icmp .eq 7, 3) := by decide +kernel
theorem d_Mo_displacedAt_65 : decode b_Mo_displacedAt 65 = .ok (.iconst 1, 1) := by decide +kernel
theorem d_Mo_displacedAt_66 : decode b_Mo_displacedAt 66 = .ok (.goto 4, 3) := by decide +kernel
theorem d_Mo_displacedAt_69 : decode b_Mo_displacedAt 69 = .ok (.iconst 0, 1) := by decide +kernel
theorem d_Mo_displacedAt_70 : decode b_Mo_displacedAt 70 = .ok (.istore_n 3, 1) := by decide +kernel
theorem d_Mo_displacedAt_71 : decode b_Mo_displacedAt 71 = .ok (.iinc 4 1, 3) := by decide +kernel
theorem d_Mo_displacedAt_74 : decode b_Mo_displacedAt 74 = .ok (.goto (-67), 3) := by decide +kernel
theorem d_Mo_displacedAt_77 : decode b_Mo_displacedAt 77 = .ok (.iload_n 3, 1) := by decide +kernel
theorem d_Mo_displacedAt_78 : decode b_Mo_displacedAt 78 = .ok (.ifCond .eq 21, 3) := by decide +kernel
theorem d_Mo_displacedAt_81 : decode b_Mo_displacedAt 81 = .ok (.aload_n 0, 1) := by decide +kernel
theorem d_Mo_displacedAt_82 : decode b_Mo_displacedAt 82 = .ok (.iload_n 1, 1) := by decide +kernel
theorem d_Mo_displacedAt_83 : decode b_Mo_displacedAt 83 = .ok (.invokevirtual 109, 3) := by decide +kernel
theorem d_Mo_displacedAt_86 : decode b_Mo_displacedAt 86 = .ok (.ifCond .eq 15, 3) := by decide +kernel
theorem d_Mo_displacedAt_89 : decode b_Mo_displacedAt 89 = .ok (.aload_n 0, 1) := by decide +kernel
theorem d_Mo_displacedAt_90 : decode b_Mo_displacedAt 90 = .ok (.getfield 41, 3) := by decide +kernel
theorem d_Mo_displacedAt_93 : decode b_Mo_displacedAt 93 = .ok (.iload_n 1, 1) := by decide +kernel
theorem d_Mo_displacedAt_94 : decode b_Mo_displacedAt 94 = .ok (.iaload, 1) := by decide +kernel
theorem d_Mo_displacedAt_95 : decode b_Mo_displacedAt 95 = .ok (.iconst 1, 1) := by decide +kernel
theorem d_Mo_displacedAt_96 : decode b_Mo_displacedAt 96 = .ok (.if_icmp .ne 5, 3) := by decide +kernel
theorem d_Mo_displacedAt_99 : decode b_Mo_displacedAt 99 = .ok (.iconst 2, 1) := by decide +kernel
theorem d_Mo_displacedAt_100 : decode b_Mo_displacedAt 100 = .ok (.ireturn, 1) := by decide +kernel
theorem d_Mo_displacedAt_101 : decode b_Mo_displacedAt 101 = .ok (.iload_n 2, 1) := by decide +kernel
theorem d_Mo_displacedAt_102 : decode b_Mo_displacedAt 102 = .ok (.ifCond .eq 25, 3) := by decide +kernel
theorem d_Mo_displacedAt_105 : decode b_Mo_displacedAt 105 = .ok (.aload_n 0, 1) := by decide +kernel
theorem d_Mo_displacedAt_106 : decode b_Mo_displacedAt 106 = .ok (.iload_n 1, 1) := by decide +kernel
theorem d_Mo_displacedAt_107 : decode b_Mo_displacedAt 107 = .ok (.invokevirtual 109, 3) := by decide +kernel
theorem d_Mo_displacedAt_110 : decode b_Mo_displacedAt 110 = .ok (.ifCond .eq 13, 3) := by decide +kernel
theorem d_Mo_displacedAt_113 : decode b_Mo_displacedAt 113 = .ok (.aload_n 0, 1) := by decide +kernel
theorem d_Mo_displacedAt_114 : decode b_Mo_displacedAt 114 = .ok (.getfield 41, 3) := by decide +kernel
theorem d_Mo_displacedAt_117 : decode b_Mo_displacedAt 117 = .ok (.iload_n 1, 1) := by decide +kernel
theorem d_Mo_displacedAt_118 : decode b_Mo_displacedAt 118 = .ok (.iaload, 1) := by decide +kernel
theorem d_Mo_displacedAt_119 : decode b_Mo_displacedAt 119 = .ok (.iconst 2, 1) := by decide +kernel
theorem d_Mo_displacedAt_120 : decode b_Mo_displacedAt 120 = .ok (.if_icmp .ne 7, 3) := by decide +kernel
theorem d_Mo_displacedAt_123 : decode b_Mo_displacedAt 123 = .ok (.iconst 1, 1) := by decide +kernel
theorem d_Mo_displacedAt_124 : decode b_Mo_displacedAt 124 = .ok (.goto 4, 3) := by decide +kernel
theorem d_Mo_displacedAt_127 : decode b_Mo_displacedAt 127 = .ok (.iconst 0, 1) := by decide +kernel
theorem d_Mo_displacedAt_128 : decode b_Mo_displacedAt 128 = .ok (.ireturn, 1) := by decide +kernel

set_option maxHeartbeats 4000000 in
set_option maxRecDepth 100000 in
theorem c_Mo_displacedAt (l : Launch) (D : va_G) (cI cZ cJ cS : ClassId) (aT : Nat) (ceT : Cell) (g0 m_sea m_center m_home m_borders m_owner m_units m_kind m_toX m_toY m_results m_known m_reached m_way m_aside m_origin m_retreats m_contested m_moved m_past : Nat) (n : Nat) (co mp mt msh : Int32) (fu : Nat → Int32) (Kd : Nat → Nat) (X : Nat → Nat) (K : Nat → Nat) (a : Nat) (hKd : ∀ j, Kd j < 4) (hX9 : ∀ j, X j < 12) (hK9 : ∀ j, K j < 3) (h_a : a < 12) (hn : n ≤ 12) : Met l y_Mo_displacedAt w_Mo_displacedAt ({ frames := 2, cells := 0, slots := 0, locals := 43 }) (tP D cI cZ cJ cS aT ceT [.ref g0, .int (nI a)] [(g0, .inr (6, [.int co, .int (nI n), .ref m_sea, .ref m_center, .ref m_home, .ref m_borders, .int mp, .int mt, .ref m_owner, .ref m_units, .ref m_kind, .ref m_toX, .ref m_toY, .ref m_results, .ref m_known, .ref m_reached, .ref m_way, .ref m_aside, .ref m_origin, .ref m_retreats, .ref m_contested, .ref m_moved, .int msh, .ref m_past])), (m_units, .inl (cI, 12, .inl fu)), (m_kind, .inl (cI, 12, .inl (fun j => nI (Kd j)))), (m_toX, .inl (cI, 12, .inl (fun j => nI (X j)))), (m_known, .inl (cI, 12, .inl (fun j => nI (K j))))]) (vp_Si (fun r => r = nI (dsA fu Kd X K n a))) 0 0 (fun _ => False) := by
  refine Met.ofW (cc := b_Mo_displacedAt) (maxL := 5) (ret := (some .int)) (by decide) rfl ?_
  intro p e s m args below meth c s₁ B hml hv
  obtain ⟨rfl, hP, hK, hX⟩ := hv
  have hx := B.exec
  have hb := B.bytes
  have hr := B.returns
  have hts0 := atoms_spec (ws := w_Mo_displacedAt) B.pre
  have hts : ∀ w ∈ TB, w.before _ s = true := fun w h => hts0 w (List.mem_cons_of_mem _ h)
  have hown : s.vm.findClass R_Mo = some m.cls := findClass_of_methodNamed B.named
  have hlocks := B.notSynchronized
  have hXH : s.heap[aT]? = s.heap[aT]? := rfl
  have hl := lv_entry ([.ref g0, .int (nI a)]) (n := 5) (Nat.le_of_ble_eq_true rfl)
  rw [lg_entry_eq]
  generalize (lg_sl ([.ref g0, .int (nI a)]) ++ List.replicate (5 - (lg_sl ([.ref g0, .int (nI a)])).length) Slot.unset).toArray = ls at hl ⊢
  have hl : lv_has ls 5 [(0, .ref g0), (1, .int (nI a))] := hl
  refine lv_iconst (v := 0) hx hb d_Mo_displacedAt_0 (by decide) ?_
  refine lv_istore_n (lv' := [(2, .int 0), (0, .ref g0), (1, .int (nI a))]) hx hb d_Mo_displacedAt_1 rfl hl (by decide) rfl (fun ls hl => ?_)
  refine lv_iconst (v := 0) hx hb d_Mo_displacedAt_2 (by decide) ?_
  refine lv_istore_n (lv' := [(3, .int 0), (2, .int 0), (0, .ref g0), (1, .int (nI a))]) hx hb d_Mo_displacedAt_3 rfl hl (by decide) rfl (fun ls hl => ?_)
  refine lv_iconst (v := 0) hx hb d_Mo_displacedAt_4 (by decide) ?_
  refine lv_istore (lv' := [(4, .int 0), (3, .int 0), (2, .int 0), (0, .ref g0), (1, .int (nI a))]) hx hb d_Mo_displacedAt_5 hl (by decide) rfl (fun ls hl => ?_)
  have loop : ∀ (k i : Nat) (ls : Array Slot), i + k = n → lv_has ls 5 [(4, .int (nI i)), (3, .int (bI (anyB (fun b => mvT fu Kd X b a && !decide (K b = 2)) i))), (2, .int (bI (anyB (fun b => mvT fu Kd X b a && decide (K b = 1)) i))), (0, .ref g0), (1, .int (nI a))] → W p l e (headSpec w_Mo_displacedAt ({ frames := 2, cells := 0, slots := 0, locals := 43 })).room s m ([.ref g0, .int (nI a)]).toArray below meth c s.heap [] 0 0 (MQ below (vp_Si (fun r => r = nI (dsA fu Kd X K n a))) ([.ref g0, .int (nI a)]).toArray s 0 0 (fun _ => False)) (F0 m 7 ls []) := by
    intro k
    induction k with
    | zero =>
      intro i ls hi hl
      have hie : i = n := by omega
      rw [hie] at hl
      refine lv_iload hx hb d_Mo_displacedAt_7 (lv_at hl 0 rfl) ?_
      refine lv_aload_n hx hb d_Mo_displacedAt_9 rfl (lv_at hl 3 rfl) ?_
      refine va_get (D := D) (ci := 6) (v := .int (nI n)) (C := R_Mo) (T := T_Mo) (N := 24) hx hb hts hin_Mo hown hK hP 0 rfl rfl 1 (by decide) (hts _ wd_705) (fun _ h9 => h9) rfl d_Mo_displacedAt_10 ?_
      refine lv_icmp_ge (tgt := 77) hx hb d_Mo_displacedAt_13 (by decide) (fun _ => ?_) (fun h0 => absurd (Int32.le_refl _) h0)
      refine lv_iload_n hx hb d_Mo_displacedAt_77 rfl (lv_at hl 1 rfl) ?_
      rcases bI_c (anyB (fun b => mvT fu Kd X b a && !decide (K b = 2)) n) with ⟨hb3, e9⟩ | ⟨hb3, e9⟩
      · refine tr_top e9 ?_
        refine lv_if_eq (tgt := 99) hx hb d_Mo_displacedAt_78 (by decide) (fun h0 => absurd h0 (by decide)) (fun _ => ?_)
        refine lv_aload_n hx hb d_Mo_displacedAt_81 rfl (lv_at hl 3 rfl) ?_
        refine lv_iload_n hx hb d_Mo_displacedAt_82 rfl (lv_at hl 4 rfl) ?_
        have hPc := hP.sub (ws' := [(g0, .inr (6, [.int co, .int (nI n), .ref m_sea, .ref m_center, .ref m_home, .ref m_borders, .int mp, .int mt, .ref m_owner, .ref m_units, .ref m_kind, .ref m_toX, .ref m_toY, .ref m_results, .ref m_known, .ref m_reached, .ref m_way, .ref m_aside, .ref m_origin, .ref m_retreats, .ref m_contested, .ref m_moved, .int msh, .ref m_past])), (m_units, .inl (cI, 12, .inl fu)), (m_kind, .inl (cI, 12, .inl (fun j => nI (Kd j))))]) [0, 1, 2] rfl
        refine vp_callSi (va_Run.run (va_runV (As := [.int (nI a)]) (rest := []) ⟨hx, hb, hml, hown, hts⟩ (c_Mo_moves l D cI cZ cJ cS aT ceT  g0 m_sea m_center m_home m_borders m_owner m_units m_kind m_toX m_toY m_results m_known m_reached m_way m_aside m_origin m_retreats m_contested m_moved m_past n co mp mt msh fu Kd a hKd h_a) (cwV 1 hts (tb_4 wd_853 wd_855 wp_47 wd_8 (tb_c wd_856)) rfl rfl rfl ⟨rfl, by decide, by decide, by decide +kernel⟩ ⟨Nat.le_of_ble_eq_true rfl, Nat.le_of_ble_eq_true rfl⟩) (tP_V hK hX hXH hPc (q := 0) rfl rfl) rfl rfl hl.1 rfl (lv_room (Nat.le_of_ble_eq_true rfl)) d_Mo_displacedAt_83 ⟨Nat.le_of_ble_eq_true rfl, Nat.le_of_ble_eq_true rfl⟩)) (fun r5 hr9 => ?_)
        rw [hr9]
        rcases bI_c (mvs fu Kd a) with ⟨hb7, e9⟩ | ⟨hb7, e9⟩
        · refine tr_top e9 ?_
          refine lv_if_eq (tgt := 101) hx hb d_Mo_displacedAt_86 (by decide) (fun h0 => absurd h0 (by decide)) (fun _ => ?_)
          refine lv_aload_n hx hb d_Mo_displacedAt_89 rfl (lv_at hl 3 rfl) ?_
          refine va_get (D := D) (ci := 6) (v := .ref m_known) (C := R_Mo) (T := T_Mo) (N := 24) hx hb hts hin_Mo hown hK hP 0 rfl rfl 14 (by decide) (hts _ wd_718) (fun _ h9 => h9) rfl d_Mo_displacedAt_90 ?_
          refine lv_iload_n hx hb d_Mo_displacedAt_93 rfl (lv_at hl 4 rfl) ?_
          refine tr_iald (v := nI (K a)) hx hb hK hP 4 0 rfl rfl a h_a (by decide) rfl d_Mo_displacedAt_94 ?_
          refine lv_iconst (v := 1) hx hb d_Mo_displacedAt_95 (by decide) ?_
          refine lv_icmp_ne (tgt := 101) hx hb d_Mo_displacedAt_96 (by decide) (fun hc9 => ?_) (fun hc9 => ?_)
          · -- 96 taken
            have hc9 : ¬ K a = 1 := fun h9 => hc9 (congrArg nI h9)
            refine lv_iload_n hx hb d_Mo_displacedAt_101 rfl (lv_at hl 2 rfl) ?_
            rcases bI_c (anyB (fun b => mvT fu Kd X b a && decide (K b = 1)) n) with ⟨hb11, e9⟩ | ⟨hb11, e9⟩
            · refine tr_top e9 ?_
              refine lv_if_eq (tgt := 127) hx hb d_Mo_displacedAt_102 (by decide) (fun h0 => absurd h0 (by decide)) (fun _ => ?_)
              refine lv_aload_n hx hb d_Mo_displacedAt_105 rfl (lv_at hl 3 rfl) ?_
              refine lv_iload_n hx hb d_Mo_displacedAt_106 rfl (lv_at hl 4 rfl) ?_
              have hPc := hP.sub (ws' := [(g0, .inr (6, [.int co, .int (nI n), .ref m_sea, .ref m_center, .ref m_home, .ref m_borders, .int mp, .int mt, .ref m_owner, .ref m_units, .ref m_kind, .ref m_toX, .ref m_toY, .ref m_results, .ref m_known, .ref m_reached, .ref m_way, .ref m_aside, .ref m_origin, .ref m_retreats, .ref m_contested, .ref m_moved, .int msh, .ref m_past])), (m_units, .inl (cI, 12, .inl fu)), (m_kind, .inl (cI, 12, .inl (fun j => nI (Kd j))))]) [0, 1, 2] rfl
              refine vp_callSi (va_Run.run (va_runV (As := [.int (nI a)]) (rest := []) ⟨hx, hb, hml, hown, hts⟩ (c_Mo_moves l D cI cZ cJ cS aT ceT  g0 m_sea m_center m_home m_borders m_owner m_units m_kind m_toX m_toY m_results m_known m_reached m_way m_aside m_origin m_retreats m_contested m_moved m_past n co mp mt msh fu Kd a hKd h_a) (cwV 1 hts (tb_4 wd_853 wd_855 wp_47 wd_8 (tb_c wd_856)) rfl rfl rfl ⟨rfl, by decide, by decide, by decide +kernel⟩ ⟨Nat.le_of_ble_eq_true rfl, Nat.le_of_ble_eq_true rfl⟩) (tP_V hK hX hXH hPc (q := 0) rfl rfl) rfl rfl hl.1 rfl (lv_room (Nat.le_of_ble_eq_true rfl)) d_Mo_displacedAt_107 ⟨Nat.le_of_ble_eq_true rfl, Nat.le_of_ble_eq_true rfl⟩)) (fun r13 hr9 => ?_)
              rw [hr9]
              refine tr_top (bI_t hb7) ?_
              refine lv_if_eq (tgt := 123) hx hb d_Mo_displacedAt_110 (by decide) (fun h0 => absurd h0 (by decide)) (fun _ => ?_)
              refine lv_aload_n hx hb d_Mo_displacedAt_113 rfl (lv_at hl 3 rfl) ?_
              refine va_get (D := D) (ci := 6) (v := .ref m_known) (C := R_Mo) (T := T_Mo) (N := 24) hx hb hts hin_Mo hown hK hP 0 rfl rfl 14 (by decide) (hts _ wd_718) (fun _ h9 => h9) rfl d_Mo_displacedAt_114 ?_
              refine lv_iload_n hx hb d_Mo_displacedAt_117 rfl (lv_at hl 4 rfl) ?_
              refine tr_iald (v := nI (K a)) hx hb hK hP 4 0 rfl rfl a h_a (by decide) rfl d_Mo_displacedAt_118 ?_
              refine lv_iconst (v := 2) hx hb d_Mo_displacedAt_119 (by decide) ?_
              refine lv_icmp_ne (tgt := 127) hx hb d_Mo_displacedAt_120 (by decide) (fun hc16 => ?_) (fun hc16 => ?_)
              · -- 120 taken
                have hc16 : ¬ K a = 2 := fun h9 => hc16 (congrArg nI h9)
                refine lv_iconst (v := 0) hx hb d_Mo_displacedAt_127 (by decide) ?_
                exact W.iret (v := 0) hx hb hr (fun t ht hW => ⟨0, rfl, congrArg nI (show 0 = dsA fu Kd X K n a by simp [dsA, hb3, hb7, hc9, hb11, hc16]), ht⟩) (fun q hq => by cases hq) d_Mo_displacedAt_128
              · -- 120 not taken
                have hc16 : K a = 2 := (nI_lit (Nat.lt_trans (hK9 _) (by decide)) (by decide)).mp hc16
                refine lv_iconst (v := 1) hx hb d_Mo_displacedAt_123 (by decide) ?_
                refine lv_goto (tgt := 128) hx hb d_Mo_displacedAt_124 (by decide) ?_
                exact W.iret (v := 1) hx hb hr (fun t ht hW => ⟨1, rfl, congrArg nI (show 1 = dsA fu Kd X K n a by simp [dsA, hb3, hb7, hc9, hb11, hc16]), ht⟩) (fun q hq => by cases hq) d_Mo_displacedAt_128
            · refine tr_top e9 ?_
              refine lv_if_eq (tgt := 127) hx hb d_Mo_displacedAt_102 (by decide) (fun _ => ?_) (fun h0 => absurd (by decide) h0)
              refine lv_iconst (v := 0) hx hb d_Mo_displacedAt_127 (by decide) ?_
              exact W.iret (v := 0) hx hb hr (fun t ht hW => ⟨0, rfl, congrArg nI (show 0 = dsA fu Kd X K n a by simp [dsA, hb3, hb7, hc9, hb11]), ht⟩) (fun q hq => by cases hq) d_Mo_displacedAt_128
          · -- 96 not taken
            have hc9 : K a = 1 := (nI_lit (Nat.lt_trans (hK9 _) (by decide)) (by decide)).mp hc9
            refine lv_iconst (v := 2) hx hb d_Mo_displacedAt_99 (by decide) ?_
            exact W.iret (v := 2) hx hb hr (fun t ht hW => ⟨2, rfl, congrArg nI (show 2 = dsA fu Kd X K n a by simp [dsA, hb3, hb7, hc9]), ht⟩) (fun q hq => by cases hq) d_Mo_displacedAt_100
        · refine tr_top e9 ?_
          refine lv_if_eq (tgt := 101) hx hb d_Mo_displacedAt_86 (by decide) (fun _ => ?_) (fun h0 => absurd (by decide) h0)
          refine lv_iload_n hx hb d_Mo_displacedAt_101 rfl (lv_at hl 2 rfl) ?_
          rcases bI_c (anyB (fun b => mvT fu Kd X b a && decide (K b = 1)) n) with ⟨hb20, e9⟩ | ⟨hb20, e9⟩
          · refine tr_top e9 ?_
            refine lv_if_eq (tgt := 127) hx hb d_Mo_displacedAt_102 (by decide) (fun h0 => absurd h0 (by decide)) (fun _ => ?_)
            refine lv_aload_n hx hb d_Mo_displacedAt_105 rfl (lv_at hl 3 rfl) ?_
            refine lv_iload_n hx hb d_Mo_displacedAt_106 rfl (lv_at hl 4 rfl) ?_
            have hPc := hP.sub (ws' := [(g0, .inr (6, [.int co, .int (nI n), .ref m_sea, .ref m_center, .ref m_home, .ref m_borders, .int mp, .int mt, .ref m_owner, .ref m_units, .ref m_kind, .ref m_toX, .ref m_toY, .ref m_results, .ref m_known, .ref m_reached, .ref m_way, .ref m_aside, .ref m_origin, .ref m_retreats, .ref m_contested, .ref m_moved, .int msh, .ref m_past])), (m_units, .inl (cI, 12, .inl fu)), (m_kind, .inl (cI, 12, .inl (fun j => nI (Kd j))))]) [0, 1, 2] rfl
            refine vp_callSi (va_Run.run (va_runV (As := [.int (nI a)]) (rest := []) ⟨hx, hb, hml, hown, hts⟩ (c_Mo_moves l D cI cZ cJ cS aT ceT  g0 m_sea m_center m_home m_borders m_owner m_units m_kind m_toX m_toY m_results m_known m_reached m_way m_aside m_origin m_retreats m_contested m_moved m_past n co mp mt msh fu Kd a hKd h_a) (cwV 1 hts (tb_4 wd_853 wd_855 wp_47 wd_8 (tb_c wd_856)) rfl rfl rfl ⟨rfl, by decide, by decide, by decide +kernel⟩ ⟨Nat.le_of_ble_eq_true rfl, Nat.le_of_ble_eq_true rfl⟩) (tP_V hK hX hXH hPc (q := 0) rfl rfl) rfl rfl hl.1 rfl (lv_room (Nat.le_of_ble_eq_true rfl)) d_Mo_displacedAt_107 ⟨Nat.le_of_ble_eq_true rfl, Nat.le_of_ble_eq_true rfl⟩)) (fun r22 hr9 => ?_)
            rw [hr9]
            refine tr_top (bI_f hb7) ?_
            refine lv_if_eq (tgt := 123) hx hb d_Mo_displacedAt_110 (by decide) (fun _ => ?_) (fun h0 => absurd (by decide) h0)
            refine lv_iconst (v := 1) hx hb d_Mo_displacedAt_123 (by decide) ?_
            refine lv_goto (tgt := 128) hx hb d_Mo_displacedAt_124 (by decide) ?_
            exact W.iret (v := 1) hx hb hr (fun t ht hW => ⟨1, rfl, congrArg nI (show 1 = dsA fu Kd X K n a by simp [dsA, hb3, hb7, hb20]), ht⟩) (fun q hq => by cases hq) d_Mo_displacedAt_128
          · refine tr_top e9 ?_
            refine lv_if_eq (tgt := 127) hx hb d_Mo_displacedAt_102 (by decide) (fun _ => ?_) (fun h0 => absurd (by decide) h0)
            refine lv_iconst (v := 0) hx hb d_Mo_displacedAt_127 (by decide) ?_
            exact W.iret (v := 0) hx hb hr (fun t ht hW => ⟨0, rfl, congrArg nI (show 0 = dsA fu Kd X K n a by simp [dsA, hb3, hb7, hb20]), ht⟩) (fun q hq => by cases hq) d_Mo_displacedAt_128
      · refine tr_top e9 ?_
        refine lv_if_eq (tgt := 99) hx hb d_Mo_displacedAt_78 (by decide) (fun _ => ?_) (fun h0 => absurd (by decide) h0)
        refine lv_iconst (v := 2) hx hb d_Mo_displacedAt_99 (by decide) ?_
        exact W.iret (v := 2) hx hb hr (fun t ht hW => ⟨2, rfl, congrArg nI (show 2 = dsA fu Kd X K n a by simp [dsA, hb3]), ht⟩) (fun q hq => by cases hq) d_Mo_displacedAt_100
    | succ k ih =>
      intro i ls hi hl
      have hlt : i < n := by omega
      have hlt12 : i < 12 := by omega
      refine lv_iload hx hb d_Mo_displacedAt_7 (lv_at hl 0 rfl) ?_
      refine lv_aload_n hx hb d_Mo_displacedAt_9 rfl (lv_at hl 3 rfl) ?_
      refine va_get (D := D) (ci := 6) (v := .int (nI n)) (C := R_Mo) (T := T_Mo) (N := 24) hx hb hts hin_Mo hown hK hP 0 rfl rfl 1 (by decide) (hts _ wd_705) (fun _ h9 => h9) rfl d_Mo_displacedAt_10 ?_
      refine lv_icmp_ge (tgt := 77) hx hb d_Mo_displacedAt_13 (by decide) (fun h0 => absurd h0 (nI_ge hlt (by omega))) (fun _ => ?_)
      refine lv_aload_n hx hb d_Mo_displacedAt_16 rfl (lv_at hl 3 rfl) ?_
      refine lv_iload hx hb d_Mo_displacedAt_17 (lv_at hl 0 rfl) ?_
      refine lv_iload_n hx hb d_Mo_displacedAt_19 rfl (lv_at hl 4 rfl) ?_
      have hPc := hP.sub (ws' := [(g0, .inr (6, [.int co, .int (nI n), .ref m_sea, .ref m_center, .ref m_home, .ref m_borders, .int mp, .int mt, .ref m_owner, .ref m_units, .ref m_kind, .ref m_toX, .ref m_toY, .ref m_results, .ref m_known, .ref m_reached, .ref m_way, .ref m_aside, .ref m_origin, .ref m_retreats, .ref m_contested, .ref m_moved, .int msh, .ref m_past])), (m_units, .inl (cI, 12, .inl fu)), (m_kind, .inl (cI, 12, .inl (fun j => nI (Kd j)))), (m_toX, .inl (cI, 12, .inl (fun j => nI (X j))))]) [0, 1, 2, 3] rfl
      refine vp_callSi (va_Run.run (va_runV (As := [.int (nI i), .int (nI a)]) (rest := []) ⟨hx, hb, hml, hown, hts⟩ (c_Mo_movesTo l D cI cZ cJ cS aT ceT  g0 m_sea m_center m_home m_borders m_owner m_units m_kind m_toX m_toY m_results m_known m_reached m_way m_aside m_origin m_retreats m_contested m_moved m_past n co mp mt msh fu Kd X i a hKd hX9 hlt12 h_a) (cwV 2 hts (tb_4 wd_849 wd_851 wp_46 wd_8 (tb_c wd_852)) rfl rfl rfl ⟨rfl, by decide, by decide, by decide +kernel⟩ ⟨Nat.le_of_ble_eq_true rfl, Nat.le_of_ble_eq_true rfl⟩) (tP_V hK hX hXH hPc (q := 0) rfl rfl) rfl rfl hl.1 rfl (lv_room (Nat.le_of_ble_eq_true rfl)) d_Mo_displacedAt_20 ⟨Nat.le_of_ble_eq_true rfl, Nat.le_of_ble_eq_true rfl⟩)) (fun r28 hr9 => ?_)
      rw [hr9]
      rcases bI_c (mvT fu Kd X i a) with ⟨hb30, e9⟩ | ⟨hb30, e9⟩
      · refine tr_top e9 ?_
        refine lv_if_ne (tgt := 29) hx hb d_Mo_displacedAt_23 (by decide) (fun _ => ?_) (fun h0 => absurd h0 (by decide))
        refine lv_iload_n hx hb d_Mo_displacedAt_29 rfl (lv_at hl 2 rfl) ?_
        rcases bI_c (anyB (fun b => mvT fu Kd X b a && decide (K b = 1)) i) with ⟨hb33, e9⟩ | ⟨hb33, e9⟩
        · refine tr_top e9 ?_
          refine lv_if_ne (tgt := 44) hx hb d_Mo_displacedAt_30 (by decide) (fun _ => ?_) (fun h0 => absurd h0 (by decide))
          refine lv_iconst (v := 1) hx hb d_Mo_displacedAt_44 (by decide) ?_
          refine lv_goto (tgt := 49) hx hb d_Mo_displacedAt_45 (by decide) ?_
          refine lv_istore_n (lv' := [(2, .int 1), (4, .int (nI i)), (3, .int (bI (anyB (fun b => mvT fu Kd X b a && !decide (K b = 2)) i))), (0, .ref g0), (1, .int (nI a))]) hx hb d_Mo_displacedAt_49 rfl hl (by decide) rfl (fun ls hl => ?_)
          refine lv_iload_n hx hb d_Mo_displacedAt_50 rfl (lv_at hl 2 rfl) ?_
          rcases bI_c (anyB (fun b => mvT fu Kd X b a && !decide (K b = 2)) i) with ⟨hb36, e9⟩ | ⟨hb36, e9⟩
          · refine tr_top e9 ?_
            refine lv_if_ne (tgt := 65) hx hb d_Mo_displacedAt_51 (by decide) (fun _ => ?_) (fun h0 => absurd h0 (by decide))
            refine lv_iconst (v := 1) hx hb d_Mo_displacedAt_65 (by decide) ?_
            refine lv_goto (tgt := 70) hx hb d_Mo_displacedAt_66 (by decide) ?_
            refine lv_istore_n (lv' := [(3, .int 1), (2, .int 1), (4, .int (nI i)), (0, .ref g0), (1, .int (nI a))]) hx hb d_Mo_displacedAt_70 rfl hl (by decide) rfl (fun ls hl => ?_)
            refine lv_iinc (lv' := [(4, .int ((nI i) + 1)), (3, .int 1), (2, .int 1), (0, .ref g0), (1, .int (nI a))]) hx hb d_Mo_displacedAt_71 hl (k := 2) rfl rfl (by decide) rfl (fun ls hl => ?_)
            refine lv_goto (tgt := 7) hx hb d_Mo_displacedAt_74 (by decide) ?_
            have e38 : (nI i) + 1 = nI (i + 1) := nI_1 i
            have e39 : 1 = bI (anyB (fun b => mvT fu Kd X b a && !decide (K b = 2)) (i + 1)) := (bI_t (show (anyB (fun b => mvT fu Kd X b a && !decide (K b = 2)) i || (mvT fu Kd X i a && !decide (K i = 2))) = true by simp [hb30, hb33, hb36])).symm
            have e40 : 1 = bI (anyB (fun b => mvT fu Kd X b a && decide (K b = 1)) (i + 1)) := (bI_t (show (anyB (fun b => mvT fu Kd X b a && decide (K b = 1)) i || (mvT fu Kd X i a && decide (K i = 1))) = true by simp [hb30, hb33, hb36])).symm
            exact ih (i + 1) ls (by omega) (by rw [← e38, ← e39, ← e40]; exact lv_sub hl [0, 1, 2, 3, 4] rfl)
          · refine tr_top e9 ?_
            refine lv_if_ne (tgt := 65) hx hb d_Mo_displacedAt_51 (by decide) (fun h0 => absurd (by decide) h0) (fun _ => ?_)
            refine lv_aload_n hx hb d_Mo_displacedAt_54 rfl (lv_at hl 3 rfl) ?_
            refine va_get (D := D) (ci := 6) (v := .ref m_known) (C := R_Mo) (T := T_Mo) (N := 24) hx hb hts hin_Mo hown hK hP 0 rfl rfl 14 (by decide) (hts _ wd_718) (fun _ h9 => h9) rfl d_Mo_displacedAt_55 ?_
            refine lv_iload hx hb d_Mo_displacedAt_58 (lv_at hl 1 rfl) ?_
            refine tr_iald (v := nI (K i)) hx hb hK hP 4 0 rfl rfl i hlt12 (by decide) rfl d_Mo_displacedAt_60 ?_
            refine lv_iconst (v := 2) hx hb d_Mo_displacedAt_61 (by decide) ?_
            refine lv_icmp_eq (tgt := 69) hx hb d_Mo_displacedAt_62 (by decide) (fun hc42 => ?_) (fun hc42 => ?_)
            · -- 62 taken
              have hc42 : K i = 2 := (nI_lit (Nat.lt_trans (hK9 _) (by decide)) (by decide)).mp hc42
              refine lv_iconst (v := 0) hx hb d_Mo_displacedAt_69 (by decide) ?_
              refine lv_istore_n (lv' := [(3, .int 0), (2, .int 1), (4, .int (nI i)), (0, .ref g0), (1, .int (nI a))]) hx hb d_Mo_displacedAt_70 rfl hl (by decide) rfl (fun ls hl => ?_)
              refine lv_iinc (lv' := [(4, .int ((nI i) + 1)), (3, .int 0), (2, .int 1), (0, .ref g0), (1, .int (nI a))]) hx hb d_Mo_displacedAt_71 hl (k := 2) rfl rfl (by decide) rfl (fun ls hl => ?_)
              refine lv_goto (tgt := 7) hx hb d_Mo_displacedAt_74 (by decide) ?_
              have e43 : (nI i) + 1 = nI (i + 1) := nI_1 i
              have e44 : 0 = bI (anyB (fun b => mvT fu Kd X b a && !decide (K b = 2)) (i + 1)) := (bI_f (show (anyB (fun b => mvT fu Kd X b a && !decide (K b = 2)) i || (mvT fu Kd X i a && !decide (K i = 2))) = false by simp [hb30, hb33, hb36, hc42])).symm
              have e45 : 1 = bI (anyB (fun b => mvT fu Kd X b a && decide (K b = 1)) (i + 1)) := (bI_t (show (anyB (fun b => mvT fu Kd X b a && decide (K b = 1)) i || (mvT fu Kd X i a && decide (K i = 1))) = true by simp [hb30, hb33, hb36, hc42])).symm
              exact ih (i + 1) ls (by omega) (by rw [← e43, ← e44, ← e45]; exact lv_sub hl [0, 1, 2, 3, 4] rfl)
            · -- 62 not taken
              have hc42 : ¬ K i = 2 := fun h9 => hc42 (congrArg nI h9)
              refine lv_iconst (v := 1) hx hb d_Mo_displacedAt_65 (by decide) ?_
              refine lv_goto (tgt := 70) hx hb d_Mo_displacedAt_66 (by decide) ?_
              refine lv_istore_n (lv' := [(3, .int 1), (2, .int 1), (4, .int (nI i)), (0, .ref g0), (1, .int (nI a))]) hx hb d_Mo_displacedAt_70 rfl hl (by decide) rfl (fun ls hl => ?_)
              refine lv_iinc (lv' := [(4, .int ((nI i) + 1)), (3, .int 1), (2, .int 1), (0, .ref g0), (1, .int (nI a))]) hx hb d_Mo_displacedAt_71 hl (k := 2) rfl rfl (by decide) rfl (fun ls hl => ?_)
              refine lv_goto (tgt := 7) hx hb d_Mo_displacedAt_74 (by decide) ?_
              have e46 : (nI i) + 1 = nI (i + 1) := nI_1 i
              have e47 : 1 = bI (anyB (fun b => mvT fu Kd X b a && !decide (K b = 2)) (i + 1)) := (bI_t (show (anyB (fun b => mvT fu Kd X b a && !decide (K b = 2)) i || (mvT fu Kd X i a && !decide (K i = 2))) = true by simp [hb30, hb33, hb36, hc42])).symm
              have e48 : 1 = bI (anyB (fun b => mvT fu Kd X b a && decide (K b = 1)) (i + 1)) := (bI_t (show (anyB (fun b => mvT fu Kd X b a && decide (K b = 1)) i || (mvT fu Kd X i a && decide (K i = 1))) = true by simp [hb30, hb33, hb36, hc42])).symm
              exact ih (i + 1) ls (by omega) (by rw [← e46, ← e47, ← e48]; exact lv_sub hl [0, 1, 2, 3, 4] rfl)
        · refine tr_top e9 ?_
          refine lv_if_ne (tgt := 44) hx hb d_Mo_displacedAt_30 (by decide) (fun h0 => absurd (by decide) h0) (fun _ => ?_)
          refine lv_aload_n hx hb d_Mo_displacedAt_33 rfl (lv_at hl 3 rfl) ?_
          refine va_get (D := D) (ci := 6) (v := .ref m_known) (C := R_Mo) (T := T_Mo) (N := 24) hx hb hts hin_Mo hown hK hP 0 rfl rfl 14 (by decide) (hts _ wd_718) (fun _ h9 => h9) rfl d_Mo_displacedAt_34 ?_
          refine lv_iload hx hb d_Mo_displacedAt_37 (lv_at hl 0 rfl) ?_
          refine tr_iald (v := nI (K i)) hx hb hK hP 4 0 rfl rfl i hlt12 (by decide) rfl d_Mo_displacedAt_39 ?_
          refine lv_iconst (v := 1) hx hb d_Mo_displacedAt_40 (by decide) ?_
          refine lv_icmp_ne (tgt := 48) hx hb d_Mo_displacedAt_41 (by decide) (fun hc50 => ?_) (fun hc50 => ?_)
          · -- 41 taken
            have hc50 : ¬ K i = 1 := fun h9 => hc50 (congrArg nI h9)
            refine lv_iconst (v := 0) hx hb d_Mo_displacedAt_48 (by decide) ?_
            refine lv_istore_n (lv' := [(2, .int 0), (4, .int (nI i)), (3, .int (bI (anyB (fun b => mvT fu Kd X b a && !decide (K b = 2)) i))), (0, .ref g0), (1, .int (nI a))]) hx hb d_Mo_displacedAt_49 rfl hl (by decide) rfl (fun ls hl => ?_)
            refine lv_iload_n hx hb d_Mo_displacedAt_50 rfl (lv_at hl 2 rfl) ?_
            rcases bI_c (anyB (fun b => mvT fu Kd X b a && !decide (K b = 2)) i) with ⟨hb52, e9⟩ | ⟨hb52, e9⟩
            · refine tr_top e9 ?_
              refine lv_if_ne (tgt := 65) hx hb d_Mo_displacedAt_51 (by decide) (fun _ => ?_) (fun h0 => absurd h0 (by decide))
              refine lv_iconst (v := 1) hx hb d_Mo_displacedAt_65 (by decide) ?_
              refine lv_goto (tgt := 70) hx hb d_Mo_displacedAt_66 (by decide) ?_
              refine lv_istore_n (lv' := [(3, .int 1), (2, .int 0), (4, .int (nI i)), (0, .ref g0), (1, .int (nI a))]) hx hb d_Mo_displacedAt_70 rfl hl (by decide) rfl (fun ls hl => ?_)
              refine lv_iinc (lv' := [(4, .int ((nI i) + 1)), (3, .int 1), (2, .int 0), (0, .ref g0), (1, .int (nI a))]) hx hb d_Mo_displacedAt_71 hl (k := 2) rfl rfl (by decide) rfl (fun ls hl => ?_)
              refine lv_goto (tgt := 7) hx hb d_Mo_displacedAt_74 (by decide) ?_
              have e54 : (nI i) + 1 = nI (i + 1) := nI_1 i
              have e55 : 1 = bI (anyB (fun b => mvT fu Kd X b a && !decide (K b = 2)) (i + 1)) := (bI_t (show (anyB (fun b => mvT fu Kd X b a && !decide (K b = 2)) i || (mvT fu Kd X i a && !decide (K i = 2))) = true by simp [hb30, hb33, hc50, hb52])).symm
              have e56 : 0 = bI (anyB (fun b => mvT fu Kd X b a && decide (K b = 1)) (i + 1)) := (bI_f (show (anyB (fun b => mvT fu Kd X b a && decide (K b = 1)) i || (mvT fu Kd X i a && decide (K i = 1))) = false by simp [hb30, hb33, hc50, hb52])).symm
              exact ih (i + 1) ls (by omega) (by rw [← e54, ← e55, ← e56]; exact lv_sub hl [0, 1, 2, 3, 4] rfl)
            · refine tr_top e9 ?_
              refine lv_if_ne (tgt := 65) hx hb d_Mo_displacedAt_51 (by decide) (fun h0 => absurd (by decide) h0) (fun _ => ?_)
              refine lv_aload_n hx hb d_Mo_displacedAt_54 rfl (lv_at hl 3 rfl) ?_
              refine va_get (D := D) (ci := 6) (v := .ref m_known) (C := R_Mo) (T := T_Mo) (N := 24) hx hb hts hin_Mo hown hK hP 0 rfl rfl 14 (by decide) (hts _ wd_718) (fun _ h9 => h9) rfl d_Mo_displacedAt_55 ?_
              refine lv_iload hx hb d_Mo_displacedAt_58 (lv_at hl 1 rfl) ?_
              refine tr_iald (v := nI (K i)) hx hb hK hP 4 0 rfl rfl i hlt12 (by decide) rfl d_Mo_displacedAt_60 ?_
              refine lv_iconst (v := 2) hx hb d_Mo_displacedAt_61 (by decide) ?_
              refine lv_icmp_eq (tgt := 69) hx hb d_Mo_displacedAt_62 (by decide) (fun hc58 => ?_) (fun hc58 => ?_)
              · -- 62 taken
                have hc58 : K i = 2 := (nI_lit (Nat.lt_trans (hK9 _) (by decide)) (by decide)).mp hc58
                refine lv_iconst (v := 0) hx hb d_Mo_displacedAt_69 (by decide) ?_
                refine lv_istore_n (lv' := [(3, .int 0), (2, .int 0), (4, .int (nI i)), (0, .ref g0), (1, .int (nI a))]) hx hb d_Mo_displacedAt_70 rfl hl (by decide) rfl (fun ls hl => ?_)
                refine lv_iinc (lv' := [(4, .int ((nI i) + 1)), (3, .int 0), (2, .int 0), (0, .ref g0), (1, .int (nI a))]) hx hb d_Mo_displacedAt_71 hl (k := 2) rfl rfl (by decide) rfl (fun ls hl => ?_)
                refine lv_goto (tgt := 7) hx hb d_Mo_displacedAt_74 (by decide) ?_
                have e59 : (nI i) + 1 = nI (i + 1) := nI_1 i
                have e60 : 0 = bI (anyB (fun b => mvT fu Kd X b a && !decide (K b = 2)) (i + 1)) := (bI_f (show (anyB (fun b => mvT fu Kd X b a && !decide (K b = 2)) i || (mvT fu Kd X i a && !decide (K i = 2))) = false by simp [hb30, hb33, hc50, hb52, hc58])).symm
                have e61 : 0 = bI (anyB (fun b => mvT fu Kd X b a && decide (K b = 1)) (i + 1)) := (bI_f (show (anyB (fun b => mvT fu Kd X b a && decide (K b = 1)) i || (mvT fu Kd X i a && decide (K i = 1))) = false by simp [hb30, hb33, hc50, hb52, hc58])).symm
                exact ih (i + 1) ls (by omega) (by rw [← e59, ← e60, ← e61]; exact lv_sub hl [0, 1, 2, 3, 4] rfl)
              · -- 62 not taken
                have hc58 : ¬ K i = 2 := fun h9 => hc58 (congrArg nI h9)
                refine lv_iconst (v := 1) hx hb d_Mo_displacedAt_65 (by decide) ?_
                refine lv_goto (tgt := 70) hx hb d_Mo_displacedAt_66 (by decide) ?_
                refine lv_istore_n (lv' := [(3, .int 1), (2, .int 0), (4, .int (nI i)), (0, .ref g0), (1, .int (nI a))]) hx hb d_Mo_displacedAt_70 rfl hl (by decide) rfl (fun ls hl => ?_)
                refine lv_iinc (lv' := [(4, .int ((nI i) + 1)), (3, .int 1), (2, .int 0), (0, .ref g0), (1, .int (nI a))]) hx hb d_Mo_displacedAt_71 hl (k := 2) rfl rfl (by decide) rfl (fun ls hl => ?_)
                refine lv_goto (tgt := 7) hx hb d_Mo_displacedAt_74 (by decide) ?_
                have e62 : (nI i) + 1 = nI (i + 1) := nI_1 i
                have e63 : 1 = bI (anyB (fun b => mvT fu Kd X b a && !decide (K b = 2)) (i + 1)) := (bI_t (show (anyB (fun b => mvT fu Kd X b a && !decide (K b = 2)) i || (mvT fu Kd X i a && !decide (K i = 2))) = true by simp [hb30, hb33, hc50, hb52, hc58])).symm
                have e64 : 0 = bI (anyB (fun b => mvT fu Kd X b a && decide (K b = 1)) (i + 1)) := (bI_f (show (anyB (fun b => mvT fu Kd X b a && decide (K b = 1)) i || (mvT fu Kd X i a && decide (K i = 1))) = false by simp [hb30, hb33, hc50, hb52, hc58])).symm
                exact ih (i + 1) ls (by omega) (by rw [← e62, ← e63, ← e64]; exact lv_sub hl [0, 1, 2, 3, 4] rfl)
          · -- 41 not taken
            have hc50 : K i = 1 := (nI_lit (Nat.lt_trans (hK9 _) (by decide)) (by decide)).mp hc50
            refine lv_iconst (v := 1) hx hb d_Mo_displacedAt_44 (by decide) ?_
            refine lv_goto (tgt := 49) hx hb d_Mo_displacedAt_45 (by decide) ?_
            refine lv_istore_n (lv' := [(2, .int 1), (4, .int (nI i)), (3, .int (bI (anyB (fun b => mvT fu Kd X b a && !decide (K b = 2)) i))), (0, .ref g0), (1, .int (nI a))]) hx hb d_Mo_displacedAt_49 rfl hl (by decide) rfl (fun ls hl => ?_)
            refine lv_iload_n hx hb d_Mo_displacedAt_50 rfl (lv_at hl 2 rfl) ?_
            rcases bI_c (anyB (fun b => mvT fu Kd X b a && !decide (K b = 2)) i) with ⟨hb66, e9⟩ | ⟨hb66, e9⟩
            · refine tr_top e9 ?_
              refine lv_if_ne (tgt := 65) hx hb d_Mo_displacedAt_51 (by decide) (fun _ => ?_) (fun h0 => absurd h0 (by decide))
              refine lv_iconst (v := 1) hx hb d_Mo_displacedAt_65 (by decide) ?_
              refine lv_goto (tgt := 70) hx hb d_Mo_displacedAt_66 (by decide) ?_
              refine lv_istore_n (lv' := [(3, .int 1), (2, .int 1), (4, .int (nI i)), (0, .ref g0), (1, .int (nI a))]) hx hb d_Mo_displacedAt_70 rfl hl (by decide) rfl (fun ls hl => ?_)
              refine lv_iinc (lv' := [(4, .int ((nI i) + 1)), (3, .int 1), (2, .int 1), (0, .ref g0), (1, .int (nI a))]) hx hb d_Mo_displacedAt_71 hl (k := 2) rfl rfl (by decide) rfl (fun ls hl => ?_)
              refine lv_goto (tgt := 7) hx hb d_Mo_displacedAt_74 (by decide) ?_
              have e68 : (nI i) + 1 = nI (i + 1) := nI_1 i
              have e69 : 1 = bI (anyB (fun b => mvT fu Kd X b a && !decide (K b = 2)) (i + 1)) := (bI_t (show (anyB (fun b => mvT fu Kd X b a && !decide (K b = 2)) i || (mvT fu Kd X i a && !decide (K i = 2))) = true by simp [hb30, hb33, hc50, hb66])).symm
              have e70 : 1 = bI (anyB (fun b => mvT fu Kd X b a && decide (K b = 1)) (i + 1)) := (bI_t (show (anyB (fun b => mvT fu Kd X b a && decide (K b = 1)) i || (mvT fu Kd X i a && decide (K i = 1))) = true by simp [hb30, hb33, hc50, hb66])).symm
              exact ih (i + 1) ls (by omega) (by rw [← e68, ← e69, ← e70]; exact lv_sub hl [0, 1, 2, 3, 4] rfl)
            · refine tr_top e9 ?_
              refine lv_if_ne (tgt := 65) hx hb d_Mo_displacedAt_51 (by decide) (fun h0 => absurd (by decide) h0) (fun _ => ?_)
              refine lv_aload_n hx hb d_Mo_displacedAt_54 rfl (lv_at hl 3 rfl) ?_
              refine va_get (D := D) (ci := 6) (v := .ref m_known) (C := R_Mo) (T := T_Mo) (N := 24) hx hb hts hin_Mo hown hK hP 0 rfl rfl 14 (by decide) (hts _ wd_718) (fun _ h9 => h9) rfl d_Mo_displacedAt_55 ?_
              refine lv_iload hx hb d_Mo_displacedAt_58 (lv_at hl 1 rfl) ?_
              refine tr_iald (v := nI (K i)) hx hb hK hP 4 0 rfl rfl i hlt12 (by decide) rfl d_Mo_displacedAt_60 ?_
              refine lv_iconst (v := 2) hx hb d_Mo_displacedAt_61 (by decide) ?_
              refine lv_icmp_eq (tgt := 69) hx hb d_Mo_displacedAt_62 (by decide) (fun h0 => absurd ((nI_lit (Nat.lt_trans (hK9 _) (by decide)) (by decide)).mp h0) (fun h8 => absurd (hc50.symm.trans h8) (by decide))) (fun _ => ?_)
              refine lv_iconst (v := 1) hx hb d_Mo_displacedAt_65 (by decide) ?_
              refine lv_goto (tgt := 70) hx hb d_Mo_displacedAt_66 (by decide) ?_
              refine lv_istore_n (lv' := [(3, .int 1), (2, .int 1), (4, .int (nI i)), (0, .ref g0), (1, .int (nI a))]) hx hb d_Mo_displacedAt_70 rfl hl (by decide) rfl (fun ls hl => ?_)
              refine lv_iinc (lv' := [(4, .int ((nI i) + 1)), (3, .int 1), (2, .int 1), (0, .ref g0), (1, .int (nI a))]) hx hb d_Mo_displacedAt_71 hl (k := 2) rfl rfl (by decide) rfl (fun ls hl => ?_)
              refine lv_goto (tgt := 7) hx hb d_Mo_displacedAt_74 (by decide) ?_
              have e73 : (nI i) + 1 = nI (i + 1) := nI_1 i
              have e74 : 1 = bI (anyB (fun b => mvT fu Kd X b a && !decide (K b = 2)) (i + 1)) := (bI_t (show (anyB (fun b => mvT fu Kd X b a && !decide (K b = 2)) i || (mvT fu Kd X i a && !decide (K i = 2))) = true by simp [hb30, hb33, hc50, hb66])).symm
              have e75 : 1 = bI (anyB (fun b => mvT fu Kd X b a && decide (K b = 1)) (i + 1)) := (bI_t (show (anyB (fun b => mvT fu Kd X b a && decide (K b = 1)) i || (mvT fu Kd X i a && decide (K i = 1))) = true by simp [hb30, hb33, hc50, hb66])).symm
              exact ih (i + 1) ls (by omega) (by rw [← e73, ← e74, ← e75]; exact lv_sub hl [0, 1, 2, 3, 4] rfl)
      · refine tr_top e9 ?_
        refine lv_if_ne (tgt := 29) hx hb d_Mo_displacedAt_23 (by decide) (fun h0 => absurd (by decide) h0) (fun _ => ?_)
        refine lv_goto (tgt := 71) hx hb d_Mo_displacedAt_26 (by decide) ?_
        refine lv_iinc (lv' := [(4, .int ((nI i) + 1)), (3, .int (bI (anyB (fun b => mvT fu Kd X b a && !decide (K b = 2)) i))), (2, .int (bI (anyB (fun b => mvT fu Kd X b a && decide (K b = 1)) i))), (0, .ref g0), (1, .int (nI a))]) hx hb d_Mo_displacedAt_71 hl (k := 0) rfl rfl (by decide) rfl (fun ls hl => ?_)
        refine lv_goto (tgt := 7) hx hb d_Mo_displacedAt_74 (by decide) ?_
        have e77 : (nI i) + 1 = nI (i + 1) := nI_1 i
        have e78 : bI (anyB (fun b => mvT fu Kd X b a && !decide (K b = 2)) i) = bI (anyB (fun b => mvT fu Kd X b a && !decide (K b = 2)) (i + 1)) := congrArg bI (show anyB (fun b => mvT fu Kd X b a && !decide (K b = 2)) i = (anyB (fun b => mvT fu Kd X b a && !decide (K b = 2)) i || (mvT fu Kd X i a && !decide (K i = 2))) by simp [hb30])
        have e79 : bI (anyB (fun b => mvT fu Kd X b a && decide (K b = 1)) i) = bI (anyB (fun b => mvT fu Kd X b a && decide (K b = 1)) (i + 1)) := congrArg bI (show anyB (fun b => mvT fu Kd X b a && decide (K b = 1)) i = (anyB (fun b => mvT fu Kd X b a && decide (K b = 1)) i || (mvT fu Kd X i a && decide (K i = 1))) by simp [hb30])
        exact ih (i + 1) ls (by omega) (by rw [← e77, ← e78, ← e79]; exact lv_sub hl [0, 1, 2, 3, 4] rfl)
  exact loop n 0 ls (Nat.zero_add _) hl

/-- 1 and the supports of a's move that count, but those of a player's -/
def frc (fu : Nat → Int32) (Kd X Y K : Nat → Nat) (n a : Nat) (gr : Bool) (but : Int32) : Nat := 1 + numB (fun b => isF fu Kd X Y b a && !decide (fu b / 2 = but) && (decide (K b = 1) || gr && decide (K b = 0))) n

theorem d_Mo_force_0 : decode b_Mo_force 0 = .ok (.iconst 1, 1) := by decide +kernel
theorem d_Mo_force_1 : decode b_Mo_force 1 = .ok (.istore 4, 2) := by decide +kernel
theorem d_Mo_force_3 : decode b_Mo_force 3 = .ok (.iconst 0, 1) := by decide +kernel
theorem d_Mo_force_4 : decode b_Mo_force 4 = .ok (.istore 5, 2) := by decide +kernel
theorem d_Mo_force_6 : decode b_Mo_force 6 = .ok (.iload 5, 2) := by decide +kernel
theorem d_Mo_force_8 : decode b_Mo_force 8 = .ok (.aload_n 0, 1) := by decide +kernel
theorem d_Mo_force_9 : decode b_Mo_force 9 = .ok (.getfield 72, 3) := by decide +kernel
theorem d_Mo_force_12 : decode b_Mo_force 12 = .ok (.if_icmp .ge 60, 3) := by decide +kernel
theorem d_Mo_force_15 : decode b_Mo_force 15 = .ok (.aload_n 0, 1) := by decide +kernel
theorem d_Mo_force_16 : decode b_Mo_force 16 = .ok (.iload 5, 2) := by decide +kernel
theorem d_Mo_force_18 : decode b_Mo_force 18 = .ok (.iload_n 1, 1) := by decide +kernel
theorem d_Mo_force_19 : decode b_Mo_force 19 = .ok (.invokevirtual 129, 3) := by decide +kernel
theorem d_Mo_force_22 : decode b_Mo_force 22 = .ok (.ifCond .eq 44, 3) := by decide +kernel
theorem d_Mo_force_25 : decode b_Mo_force 25 = .ok (.aload_n 0, 1) := by decide +kernel
theorem d_Mo_force_26 : decode b_Mo_force 26 = .ok (.getfield 26, 3) := by decide +kernel
theorem d_Mo_force_29 : decode b_Mo_force 29 = .ok (.iload 5, 2) := by decide +kernel
theorem d_Mo_force_31 : decode b_Mo_force 31 = .ok (.iaload, 1) := by decide +kernel
theorem d_Mo_force_32 : decode b_Mo_force 32 = .ok (.iconst 2, 1) := by decide +kernel
theorem d_Mo_force_33 : decode b_Mo_force 33 = .ok (.idiv, 1) := by decide +kernel
theorem d_Mo_force_34 : decode b_Mo_force 34 = .ok (.iload_n 3, 1) := by decide +kernel
theorem d_Mo_force_35 : decode b_Mo_force 35 = .ok (.if_icmp .eq 31, 3) := by decide +kernel
theorem d_Mo_force_38 : decode b_Mo_force 38 = .ok (.aload_n 0, 1) := by decide +kernel
theorem d_Mo_force_39 : decode b_Mo_force 39 = .ok (.getfield 41, 3) := by decide +kernel
theorem d_Mo_force_42 : decode b_Mo_force 42 = .ok (.iload 5, 2) := by decide +kernel
theorem d_Mo_force_44 : decode b_Mo_force 44 = .ok (.iaload, 1) := by decide +kernel
theorem d_Mo_force_45 : decode b_Mo_force 45 = .ok (.iconst 1, 1) := by decide +kernel
theorem d_Mo_force_46 : decode b_Mo_force 46 = .ok (.if_icmp .eq 17, 3) := by decide +kernel
theorem d_Mo_force_49 : decode b_Mo_force 49 = .ok (.iload_n 2, 1) := by decide +kernel
theorem d_Mo_force_50 : decode b_Mo_force 50 = .ok (.ifCond .eq 16, 3) := by decide +kernel
theorem d_Mo_force_53 : decode b_Mo_force 53 = .ok (.aload_n 0, 1) := by decide +kernel
theorem d_Mo_force_54 : decode b_Mo_force 54 = .ok (.getfield 41, 3) := by decide +kernel
theorem d_Mo_force_57 : decode b_Mo_force 57 = .ok (.iload 5, 2) := by decide +kernel
theorem d_Mo_force_59 : decode b_Mo_force 59 = .ok (.iaload, 1) := by decide +kernel
theorem d_Mo_force_60 : decode b_Mo_force 60 = .ok (.ifCond .ne 6, 3) := by decide +kernel
theorem d_Mo_force_63 : decode b_Mo_force 63 = .ok (.iinc 4 1, 3) := by decide +kernel
theorem d_Mo_force_66 : decode b_Mo_force 66 = .ok (.iinc 5 1, 3) := by decide +kernel
theorem d_Mo_force_69 : decode b_Mo_force 69 = .ok (.goto (-63), 3) := by decide +kernel
theorem d_Mo_force_72 : decode b_Mo_force 72 = .ok (.iload 4, 2) := by decide +kernel
theorem d_Mo_force_74 : decode b_Mo_force 74 = .ok (.ireturn, 1) := by decide +kernel
theorem wd_848 : (Cond.code ({ cls := "SheetWarModel", name := "isFor", desc := "(II)Z" } : MethodName) prog_8_method_21_code (3 : Nat) (Option.some FieldType.boolean)) ∈ TB := tb_t 848 (by decide +kernel) (by decide +kernel)
theorem wd_845 : (Cond.methodLink "SheetWarModel" (129 : Nat) ({ cls := "SheetWarModel", name := "isFor", desc := "(II)Z" } : MethodName)) ∈ TB := tb_t 845 (by decide +kernel) (by decide +kernel)
theorem wd_847 : (Cond.instanceMethod ({ cls := "SheetWarModel", name := "isFor", desc := "(II)Z" } : MethodName)) ∈ TB := tb_t 847 (by decide +kernel) (by decide +kernel)
theorem wp_45 : Cond.selects "SheetWarModel" ⟨"SheetWarModel", "isFor", "(II)Z"⟩ ⟨"SheetWarModel", "isFor", "(II)Z"⟩ ∈ TB := tb_p 45 (by decide +kernel) (by decide +kernel)
set_option maxHeartbeats 4000000 in
set_option maxRecDepth 100000 in
theorem c_Mo_force (l : Launch) (D : va_G) (cI cZ cJ cS : ClassId) (aT : Nat) (ceT : Cell) (g0 m_sea m_center m_home m_borders m_owner m_units m_kind m_toX m_toY m_results m_known m_reached m_way m_aside m_origin m_retreats m_contested m_moved m_past : Nat) (n : Nat) (co mp mt msh : Int32) (fu : Nat → Int32) (Kd : Nat → Nat) (X : Nat → Nat) (Y : Nat → Nat) (K : Nat → Nat) (a : Nat) (gr : Bool) (but : Int32) (hKd : ∀ j, Kd j < 4) (hX9 : ∀ j, X j < 12) (hY9 : ∀ j, Y j < 12) (hK9 : ∀ j, K j < 3) (h_a : a < 12) (hn : n ≤ 12) : Met l y_Mo_force w_Mo_force ({ frames := 3, cells := 0, slots := 0, locals := 65 }) (tP D cI cZ cJ cS aT ceT [.ref g0, .int (nI a), .int (bI gr), .int but] [(g0, .inr (6, [.int co, .int (nI n), .ref m_sea, .ref m_center, .ref m_home, .ref m_borders, .int mp, .int mt, .ref m_owner, .ref m_units, .ref m_kind, .ref m_toX, .ref m_toY, .ref m_results, .ref m_known, .ref m_reached, .ref m_way, .ref m_aside, .ref m_origin, .ref m_retreats, .ref m_contested, .ref m_moved, .int msh, .ref m_past])), (m_units, .inl (cI, 12, .inl fu)), (m_kind, .inl (cI, 12, .inl (fun j => nI (Kd j)))), (m_toX, .inl (cI, 12, .inl (fun j => nI (X j)))), (m_toY, .inl (cI, 12, .inl (fun j => nI (Y j)))), (m_known, .inl (cI, 12, .inl (fun j => nI (K j))))]) (vp_Si (fun r => r = nI (frc fu Kd X Y K n a gr but))) 0 0 (fun _ => False) := by
  refine Met.ofW (cc := b_Mo_force) (maxL := 6) (ret := (some .int)) (by decide) rfl ?_
  intro p e s m args below meth c s₁ B hml hv
  obtain ⟨rfl, hP, hK, hX⟩ := hv
  have hx := B.exec
  have hb := B.bytes
  have hr := B.returns
  have hts0 := atoms_spec (ws := w_Mo_force) B.pre
  have hts : ∀ w ∈ TB, w.before _ s = true := fun w h => hts0 w (List.mem_cons_of_mem _ h)
  have hown : s.vm.findClass R_Mo = some m.cls := findClass_of_methodNamed B.named
  have hlocks := B.notSynchronized
  have hXH : s.heap[aT]? = s.heap[aT]? := rfl
  have hl := lv_entry ([.ref g0, .int (nI a), .int (bI gr), .int but]) (n := 6) (Nat.le_of_ble_eq_true rfl)
  rw [lg_entry_eq]
  generalize (lg_sl ([.ref g0, .int (nI a), .int (bI gr), .int but]) ++ List.replicate (6 - (lg_sl ([.ref g0, .int (nI a), .int (bI gr), .int but])).length) Slot.unset).toArray = ls at hl ⊢
  have hl : lv_has ls 6 [(0, .ref g0), (1, .int (nI a)), (2, .int (bI gr)), (3, .int but)] := hl
  refine lv_iconst (v := 1) hx hb d_Mo_force_0 (by decide) ?_
  refine lv_istore (lv' := [(4, .int 1), (0, .ref g0), (1, .int (nI a)), (2, .int (bI gr)), (3, .int but)]) hx hb d_Mo_force_1 hl (by decide) rfl (fun ls hl => ?_)
  refine lv_iconst (v := 0) hx hb d_Mo_force_3 (by decide) ?_
  refine lv_istore (lv' := [(5, .int 0), (4, .int 1), (0, .ref g0), (1, .int (nI a)), (2, .int (bI gr)), (3, .int but)]) hx hb d_Mo_force_4 hl (by decide) rfl (fun ls hl => ?_)
  have loop : ∀ (k i : Nat) (ls : Array Slot), i + k = n → lv_has ls 6 [(5, .int (nI i)), (4, .int (nI (1 + numB (fun b => isF fu Kd X Y b a && !decide (fu b / 2 = but) && (decide (K b = 1) || gr && decide (K b = 0))) i))), (0, .ref g0), (1, .int (nI a)), (2, .int (bI gr)), (3, .int but)] → W p l e (headSpec w_Mo_force ({ frames := 3, cells := 0, slots := 0, locals := 65 })).room s m ([.ref g0, .int (nI a), .int (bI gr), .int but]).toArray below meth c s.heap [] 0 0 (MQ below (vp_Si (fun r => r = nI (frc fu Kd X Y K n a gr but))) ([.ref g0, .int (nI a), .int (bI gr), .int but]).toArray s 0 0 (fun _ => False)) (F0 m 6 ls []) := by
    intro k
    induction k with
    | zero =>
      intro i ls hi hl
      have hie : i = n := by omega
      rw [hie] at hl
      refine lv_iload hx hb d_Mo_force_6 (lv_at hl 0 rfl) ?_
      refine lv_aload_n hx hb d_Mo_force_8 rfl (lv_at hl 2 rfl) ?_
      refine va_get (D := D) (ci := 6) (v := .int (nI n)) (C := R_Mo) (T := T_Mo) (N := 24) hx hb hts hin_Mo hown hK hP 0 rfl rfl 1 (by decide) (hts _ wd_705) (fun _ h9 => h9) rfl d_Mo_force_9 ?_
      refine lv_icmp_ge (tgt := 72) hx hb d_Mo_force_12 (by decide) (fun _ => ?_) (fun h0 => absurd (Int32.le_refl _) h0)
      refine lv_iload hx hb d_Mo_force_72 (lv_at hl 1 rfl) ?_
      exact W.iret (v := nI (1 + numB (fun b => isF fu Kd X Y b a && !decide (fu b / 2 = but) && (decide (K b = 1) || gr && decide (K b = 0))) n)) hx hb hr (fun t ht hW => ⟨nI (1 + numB (fun b => isF fu Kd X Y b a && !decide (fu b / 2 = but) && (decide (K b = 1) || gr && decide (K b = 0))) n), rfl, rfl, ht⟩) (fun q hq => by cases hq) d_Mo_force_74
    | succ k ih =>
      intro i ls hi hl
      have hlt : i < n := by omega
      have hlt12 : i < 12 := by omega
      refine lv_iload hx hb d_Mo_force_6 (lv_at hl 0 rfl) ?_
      refine lv_aload_n hx hb d_Mo_force_8 rfl (lv_at hl 2 rfl) ?_
      refine va_get (D := D) (ci := 6) (v := .int (nI n)) (C := R_Mo) (T := T_Mo) (N := 24) hx hb hts hin_Mo hown hK hP 0 rfl rfl 1 (by decide) (hts _ wd_705) (fun _ h9 => h9) rfl d_Mo_force_9 ?_
      refine lv_icmp_ge (tgt := 72) hx hb d_Mo_force_12 (by decide) (fun h0 => absurd h0 (nI_ge hlt (by omega))) (fun _ => ?_)
      refine lv_aload_n hx hb d_Mo_force_15 rfl (lv_at hl 2 rfl) ?_
      refine lv_iload hx hb d_Mo_force_16 (lv_at hl 0 rfl) ?_
      refine lv_iload_n hx hb d_Mo_force_18 rfl (lv_at hl 3 rfl) ?_
      have hPc := hP.sub (ws' := [(g0, .inr (6, [.int co, .int (nI n), .ref m_sea, .ref m_center, .ref m_home, .ref m_borders, .int mp, .int mt, .ref m_owner, .ref m_units, .ref m_kind, .ref m_toX, .ref m_toY, .ref m_results, .ref m_known, .ref m_reached, .ref m_way, .ref m_aside, .ref m_origin, .ref m_retreats, .ref m_contested, .ref m_moved, .int msh, .ref m_past])), (m_units, .inl (cI, 12, .inl fu)), (m_kind, .inl (cI, 12, .inl (fun j => nI (Kd j)))), (m_toX, .inl (cI, 12, .inl (fun j => nI (X j)))), (m_toY, .inl (cI, 12, .inl (fun j => nI (Y j))))]) [0, 1, 2, 3, 4] rfl
      refine vp_callSi (va_Run.run (va_runV (As := [.int (nI i), .int (nI a)]) (rest := []) ⟨hx, hb, hml, hown, hts⟩ (c_Mo_isFor l D cI cZ cJ cS aT ceT  g0 m_sea m_center m_home m_borders m_owner m_units m_kind m_toX m_toY m_results m_known m_reached m_way m_aside m_origin m_retreats m_contested m_moved m_past n co mp mt msh fu Kd X Y i a hKd hX9 hY9 hlt12 h_a) (cwV 2 hts (tb_4 wd_845 wd_847 wp_45 wd_8 (tb_c wd_848)) rfl rfl rfl ⟨rfl, by decide, by decide, by decide +kernel⟩ ⟨Nat.le_of_ble_eq_true rfl, Nat.le_of_ble_eq_true rfl⟩) (tP_V hK hX hXH hPc (q := 0) rfl rfl) rfl rfl hl.1 rfl (lv_room (Nat.le_of_ble_eq_true rfl)) d_Mo_force_19 ⟨Nat.le_of_ble_eq_true rfl, Nat.le_of_ble_eq_true rfl⟩)) (fun r3 hr9 => ?_)
      rw [hr9]
      rcases bI_c (isF fu Kd X Y i a) with ⟨hb5, e9⟩ | ⟨hb5, e9⟩
      · refine tr_top e9 ?_
        refine lv_if_eq (tgt := 66) hx hb d_Mo_force_22 (by decide) (fun h0 => absurd h0 (by decide)) (fun _ => ?_)
        refine lv_aload_n hx hb d_Mo_force_25 rfl (lv_at hl 2 rfl) ?_
        refine va_get (D := D) (ci := 6) (v := .ref m_units) (C := R_Mo) (T := T_Mo) (N := 24) hx hb hts hin_Mo hown hK hP 0 rfl rfl 9 (by decide) (hts _ wd_713) (fun _ h9 => h9) rfl d_Mo_force_26 ?_
        refine lv_iload hx hb d_Mo_force_29 (lv_at hl 0 rfl) ?_
        refine tr_iald (v := fu i) hx hb hK hP 1 0 rfl rfl i hlt12 (by decide) rfl d_Mo_force_31 ?_
        refine lv_iconst (v := 2) hx hb d_Mo_force_32 (by decide) ?_
        refine lv_idiv hx hb d_Mo_force_33 (by decide) ?_
        refine lv_iload_n hx hb d_Mo_force_34 rfl (lv_at hl 5 rfl) ?_
        refine lv_icmp_eq (tgt := 66) hx hb d_Mo_force_35 (by decide) (fun hc7 => ?_) (fun hc7 => ?_)
        · -- 35 taken
          refine lv_iinc (lv' := [(5, .int ((nI i) + 1)), (4, .int (nI (1 + numB (fun b => isF fu Kd X Y b a && !decide (fu b / 2 = but) && (decide (K b = 1) || gr && decide (K b = 0))) i))), (0, .ref g0), (1, .int (nI a)), (2, .int (bI gr)), (3, .int but)]) hx hb d_Mo_force_66 hl (k := 0) rfl rfl (by decide) rfl (fun ls hl => ?_)
          refine lv_goto (tgt := 6) hx hb d_Mo_force_69 (by decide) ?_
          have e8 : (nI i) + 1 = nI (i + 1) := nI_1 i
          have e9 : nI (1 + numB (fun b => isF fu Kd X Y b a && !decide (fu b / 2 = but) && (decide (K b = 1) || gr && decide (K b = 0))) i) = nI (1 + numB (fun b => isF fu Kd X Y b a && !decide (fu b / 2 = but) && (decide (K b = 1) || gr && decide (K b = 0))) (i + 1)) := congrArg nI (show 1 + numB (fun b => isF fu Kd X Y b a && !decide (fu b / 2 = but) && (decide (K b = 1) || gr && decide (K b = 0))) i = 1 + (numB (fun b => isF fu Kd X Y b a && !decide (fu b / 2 = but) && (decide (K b = 1) || gr && decide (K b = 0))) i + if (isF fu Kd X Y i a && !decide (fu i / 2 = but) && (decide (K i = 1) || gr && decide (K i = 0))) = true then 1 else 0) by rw [if_neg (show ¬ (isF fu Kd X Y i a && !decide (fu i / 2 = but) && (decide (K i = 1) || gr && decide (K i = 0))) = true by simp [hb5, hc7])]; omega)
          exact ih (i + 1) ls (by omega) (by rw [← e8, ← e9]; exact lv_sub hl [0, 1, 2, 3, 4, 5] rfl)
        · -- 35 not taken
          refine lv_aload_n hx hb d_Mo_force_38 rfl (lv_at hl 2 rfl) ?_
          refine va_get (D := D) (ci := 6) (v := .ref m_known) (C := R_Mo) (T := T_Mo) (N := 24) hx hb hts hin_Mo hown hK hP 0 rfl rfl 14 (by decide) (hts _ wd_718) (fun _ h9 => h9) rfl d_Mo_force_39 ?_
          refine lv_iload hx hb d_Mo_force_42 (lv_at hl 0 rfl) ?_
          refine tr_iald (v := nI (K i)) hx hb hK hP 5 0 rfl rfl i hlt12 (by decide) rfl d_Mo_force_44 ?_
          refine lv_iconst (v := 1) hx hb d_Mo_force_45 (by decide) ?_
          refine lv_icmp_eq (tgt := 63) hx hb d_Mo_force_46 (by decide) (fun hc10 => ?_) (fun hc10 => ?_)
          · -- 46 taken
            have hc10 : K i = 1 := (nI_lit (Nat.lt_trans (hK9 _) (by decide)) (by decide)).mp hc10
            refine lv_iinc (lv' := [(4, .int ((nI (1 + numB (fun b => isF fu Kd X Y b a && !decide (fu b / 2 = but) && (decide (K b = 1) || gr && decide (K b = 0))) i)) + 1)), (5, .int (nI i)), (0, .ref g0), (1, .int (nI a)), (2, .int (bI gr)), (3, .int but)]) hx hb d_Mo_force_63 hl (k := 1) rfl rfl (by decide) rfl (fun ls hl => ?_)
            refine lv_iinc (lv' := [(5, .int ((nI i) + 1)), (4, .int ((nI (1 + numB (fun b => isF fu Kd X Y b a && !decide (fu b / 2 = but) && (decide (K b = 1) || gr && decide (K b = 0))) i)) + 1)), (0, .ref g0), (1, .int (nI a)), (2, .int (bI gr)), (3, .int but)]) hx hb d_Mo_force_66 hl (k := 1) rfl rfl (by decide) rfl (fun ls hl => ?_)
            refine lv_goto (tgt := 6) hx hb d_Mo_force_69 (by decide) ?_
            have e11 : (nI i) + 1 = nI (i + 1) := nI_1 i
            have e12 : (nI (1 + numB (fun b => isF fu Kd X Y b a && !decide (fu b / 2 = but) && (decide (K b = 1) || gr && decide (K b = 0))) i)) + 1 = nI (1 + numB (fun b => isF fu Kd X Y b a && !decide (fu b / 2 = but) && (decide (K b = 1) || gr && decide (K b = 0))) (i + 1)) := (nI_1 _).trans (congrArg nI (show 1 + numB (fun b => isF fu Kd X Y b a && !decide (fu b / 2 = but) && (decide (K b = 1) || gr && decide (K b = 0))) i + 1 = 1 + (numB (fun b => isF fu Kd X Y b a && !decide (fu b / 2 = but) && (decide (K b = 1) || gr && decide (K b = 0))) i + if (isF fu Kd X Y i a && !decide (fu i / 2 = but) && (decide (K i = 1) || gr && decide (K i = 0))) = true then 1 else 0) by rw [if_pos (show (isF fu Kd X Y i a && !decide (fu i / 2 = but) && (decide (K i = 1) || gr && decide (K i = 0))) = true by simp [hb5, hc7, hc10])]; omega))
            exact ih (i + 1) ls (by omega) (by rw [← e11, ← e12]; exact lv_sub hl [0, 1, 2, 3, 4, 5] rfl)
          · -- 46 not taken
            have hc10 : ¬ K i = 1 := fun h9 => hc10 (congrArg nI h9)
            refine lv_iload_n hx hb d_Mo_force_49 rfl (lv_at hl 4 rfl) ?_
            rcases bI_c (gr) with ⟨hb14, e9⟩ | ⟨hb14, e9⟩
            · refine tr_top e9 ?_
              refine lv_if_eq (tgt := 66) hx hb d_Mo_force_50 (by decide) (fun h0 => absurd h0 (by decide)) (fun _ => ?_)
              refine lv_aload_n hx hb d_Mo_force_53 rfl (lv_at hl 2 rfl) ?_
              refine va_get (D := D) (ci := 6) (v := .ref m_known) (C := R_Mo) (T := T_Mo) (N := 24) hx hb hts hin_Mo hown hK hP 0 rfl rfl 14 (by decide) (hts _ wd_718) (fun _ h9 => h9) rfl d_Mo_force_54 ?_
              refine lv_iload hx hb d_Mo_force_57 (lv_at hl 0 rfl) ?_
              refine tr_iald (v := nI (K i)) hx hb hK hP 5 0 rfl rfl i hlt12 (by decide) rfl d_Mo_force_59 ?_
              refine lv_if_ne (tgt := 66) hx hb d_Mo_force_60 (by decide) (fun hc16 => ?_) (fun hc16 => ?_)
              · -- 60 taken
                have hc16 : ¬ K i = 0 := fun h9 => hc16 (congrArg nI h9)
                refine lv_iinc (lv' := [(5, .int ((nI i) + 1)), (4, .int (nI (1 + numB (fun b => isF fu Kd X Y b a && !decide (fu b / 2 = but) && (decide (K b = 1) || gr && decide (K b = 0))) i))), (0, .ref g0), (1, .int (nI a)), (2, .int (bI gr)), (3, .int but)]) hx hb d_Mo_force_66 hl (k := 0) rfl rfl (by decide) rfl (fun ls hl => ?_)
                refine lv_goto (tgt := 6) hx hb d_Mo_force_69 (by decide) ?_
                have e17 : (nI i) + 1 = nI (i + 1) := nI_1 i
                have e18 : nI (1 + numB (fun b => isF fu Kd X Y b a && !decide (fu b / 2 = but) && (decide (K b = 1) || gr && decide (K b = 0))) i) = nI (1 + numB (fun b => isF fu Kd X Y b a && !decide (fu b / 2 = but) && (decide (K b = 1) || gr && decide (K b = 0))) (i + 1)) := congrArg nI (show 1 + numB (fun b => isF fu Kd X Y b a && !decide (fu b / 2 = but) && (decide (K b = 1) || gr && decide (K b = 0))) i = 1 + (numB (fun b => isF fu Kd X Y b a && !decide (fu b / 2 = but) && (decide (K b = 1) || gr && decide (K b = 0))) i + if (isF fu Kd X Y i a && !decide (fu i / 2 = but) && (decide (K i = 1) || gr && decide (K i = 0))) = true then 1 else 0) by rw [if_neg (show ¬ (isF fu Kd X Y i a && !decide (fu i / 2 = but) && (decide (K i = 1) || gr && decide (K i = 0))) = true by simp [hb5, hc7, hc10, hb14, hc16])]; omega)
                exact ih (i + 1) ls (by omega) (by rw [← e17, ← e18]; exact lv_sub hl [0, 1, 2, 3, 4, 5] rfl)
              · -- 60 not taken
                have hc16 : K i = 0 := (nI_lit (Nat.lt_trans (hK9 _) (by decide)) (by decide)).mp hc16
                refine lv_iinc (lv' := [(4, .int ((nI (1 + numB (fun b => isF fu Kd X Y b a && !decide (fu b / 2 = but) && (decide (K b = 1) || gr && decide (K b = 0))) i)) + 1)), (5, .int (nI i)), (0, .ref g0), (1, .int (nI a)), (2, .int (bI gr)), (3, .int but)]) hx hb d_Mo_force_63 hl (k := 1) rfl rfl (by decide) rfl (fun ls hl => ?_)
                refine lv_iinc (lv' := [(5, .int ((nI i) + 1)), (4, .int ((nI (1 + numB (fun b => isF fu Kd X Y b a && !decide (fu b / 2 = but) && (decide (K b = 1) || gr && decide (K b = 0))) i)) + 1)), (0, .ref g0), (1, .int (nI a)), (2, .int (bI gr)), (3, .int but)]) hx hb d_Mo_force_66 hl (k := 1) rfl rfl (by decide) rfl (fun ls hl => ?_)
                refine lv_goto (tgt := 6) hx hb d_Mo_force_69 (by decide) ?_
                have e19 : (nI i) + 1 = nI (i + 1) := nI_1 i
                have e20 : (nI (1 + numB (fun b => isF fu Kd X Y b a && !decide (fu b / 2 = but) && (decide (K b = 1) || gr && decide (K b = 0))) i)) + 1 = nI (1 + numB (fun b => isF fu Kd X Y b a && !decide (fu b / 2 = but) && (decide (K b = 1) || gr && decide (K b = 0))) (i + 1)) := (nI_1 _).trans (congrArg nI (show 1 + numB (fun b => isF fu Kd X Y b a && !decide (fu b / 2 = but) && (decide (K b = 1) || gr && decide (K b = 0))) i + 1 = 1 + (numB (fun b => isF fu Kd X Y b a && !decide (fu b / 2 = but) && (decide (K b = 1) || gr && decide (K b = 0))) i + if (isF fu Kd X Y i a && !decide (fu i / 2 = but) && (decide (K i = 1) || gr && decide (K i = 0))) = true then 1 else 0) by rw [if_pos (show (isF fu Kd X Y i a && !decide (fu i / 2 = but) && (decide (K i = 1) || gr && decide (K i = 0))) = true by simp [hb5, hc7, hc10, hb14, hc16])]; omega))
                exact ih (i + 1) ls (by omega) (by rw [← e19, ← e20]; exact lv_sub hl [0, 1, 2, 3, 4, 5] rfl)
            · refine tr_top e9 ?_
              refine lv_if_eq (tgt := 66) hx hb d_Mo_force_50 (by decide) (fun _ => ?_) (fun h0 => absurd (by decide) h0)
              refine lv_iinc (lv' := [(5, .int ((nI i) + 1)), (4, .int (nI (1 + numB (fun b => isF fu Kd X Y b a && !decide (fu b / 2 = but) && (decide (K b = 1) || gr && decide (K b = 0))) i))), (0, .ref g0), (1, .int (nI a)), (2, .int (bI gr)), (3, .int but)]) hx hb d_Mo_force_66 hl (k := 0) rfl rfl (by decide) rfl (fun ls hl => ?_)
              refine lv_goto (tgt := 6) hx hb d_Mo_force_69 (by decide) ?_
              have e22 : (nI i) + 1 = nI (i + 1) := nI_1 i
              have e23 : nI (1 + numB (fun b => isF fu Kd X Y b a && !decide (fu b / 2 = but) && (decide (K b = 1) || gr && decide (K b = 0))) i) = nI (1 + numB (fun b => isF fu Kd X Y b a && !decide (fu b / 2 = but) && (decide (K b = 1) || gr && decide (K b = 0))) (i + 1)) := congrArg nI (show 1 + numB (fun b => isF fu Kd X Y b a && !decide (fu b / 2 = but) && (decide (K b = 1) || gr && decide (K b = 0))) i = 1 + (numB (fun b => isF fu Kd X Y b a && !decide (fu b / 2 = but) && (decide (K b = 1) || gr && decide (K b = 0))) i + if (isF fu Kd X Y i a && !decide (fu i / 2 = but) && (decide (K i = 1) || gr && decide (K i = 0))) = true then 1 else 0) by rw [if_neg (show ¬ (isF fu Kd X Y i a && !decide (fu i / 2 = but) && (decide (K i = 1) || gr && decide (K i = 0))) = true by simp [hb5, hc7, hc10, hb14])]; omega)
              exact ih (i + 1) ls (by omega) (by rw [← e22, ← e23]; exact lv_sub hl [0, 1, 2, 3, 4, 5] rfl)
      · refine tr_top e9 ?_
        refine lv_if_eq (tgt := 66) hx hb d_Mo_force_22 (by decide) (fun _ => ?_) (fun h0 => absurd (by decide) h0)
        refine lv_iinc (lv' := [(5, .int ((nI i) + 1)), (4, .int (nI (1 + numB (fun b => isF fu Kd X Y b a && !decide (fu b / 2 = but) && (decide (K b = 1) || gr && decide (K b = 0))) i))), (0, .ref g0), (1, .int (nI a)), (2, .int (bI gr)), (3, .int but)]) hx hb d_Mo_force_66 hl (k := 0) rfl rfl (by decide) rfl (fun ls hl => ?_)
        refine lv_goto (tgt := 6) hx hb d_Mo_force_69 (by decide) ?_
        have e25 : (nI i) + 1 = nI (i + 1) := nI_1 i
        have e26 : nI (1 + numB (fun b => isF fu Kd X Y b a && !decide (fu b / 2 = but) && (decide (K b = 1) || gr && decide (K b = 0))) i) = nI (1 + numB (fun b => isF fu Kd X Y b a && !decide (fu b / 2 = but) && (decide (K b = 1) || gr && decide (K b = 0))) (i + 1)) := congrArg nI (show 1 + numB (fun b => isF fu Kd X Y b a && !decide (fu b / 2 = but) && (decide (K b = 1) || gr && decide (K b = 0))) i = 1 + (numB (fun b => isF fu Kd X Y b a && !decide (fu b / 2 = but) && (decide (K b = 1) || gr && decide (K b = 0))) i + if (isF fu Kd X Y i a && !decide (fu i / 2 = but) && (decide (K i = 1) || gr && decide (K i = 0))) = true then 1 else 0) by rw [if_neg (show ¬ (isF fu Kd X Y i a && !decide (fu i / 2 = but) && (decide (K i = 1) || gr && decide (K i = 0))) = true by simp [hb5])]; omega)
        exact ih (i + 1) ls (by omega) (by rw [← e25, ← e26]; exact lv_sub hl [0, 1, 2, 3, 4, 5] rfl)
  exact loop n 0 ls (Nat.zero_add _) hl
