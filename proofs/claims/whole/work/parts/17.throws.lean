theorem d_Sw_area_0 : decode b_Sw_area 0 = .ok (.iload_n 1, 1) := by decide +kernel
theorem d_Sw_area_1 : decode b_Sw_area 1 = .ok (.ifCond .eq 16, 3) := by decide +kernel
theorem d_Sw_area_4 : decode b_Sw_area 4 = .ok (.iload_n 1, 1) := by decide +kernel
theorem d_Sw_area_5 : decode b_Sw_area 5 = .ok (.iconst 1, 1) := by decide +kernel
theorem d_Sw_area_6 : decode b_Sw_area 6 = .ok (.if_icmp .eq 11, 3) := by decide +kernel
theorem d_Sw_area_9 : decode b_Sw_area 9 = .ok (.new 50, 3) := by decide +kernel
theorem d_Sw_area_12 : decode b_Sw_area 12 = .ok (.dup, 1) := by decide +kernel
theorem d_Sw_area_13 : decode b_Sw_area 13 = .ok (.invokespecial 52, 3) := by decide +kernel
theorem d_Sw_area_16 : decode b_Sw_area 16 = .ok (.athrow, 1) := by decide +kernel
theorem d_Sw_area_17 : decode b_Sw_area 17 = .ok (.iload_n 3, 1) := by decide +kernel
theorem d_Sw_area_18 : decode b_Sw_area 18 = .ok (.iconst (-1), 1) := by decide +kernel
theorem d_Sw_area_19 : decode b_Sw_area 19 = .ok (.if_icmp .eq 18, 3) := by decide +kernel
theorem d_Sw_area_22 : decode b_Sw_area 22 = .ok (.iload_n 3, 1) := by decide +kernel
theorem d_Sw_area_23 : decode b_Sw_area 23 = .ok (.invokestatic 53, 3) := by decide +kernel
theorem d_Sw_area_26 : decode b_Sw_area 26 = .ok (.ifCond .ne 11, 3) := by decide +kernel
theorem d_Sw_area_29 : decode b_Sw_area 29 = .ok (.new 50, 3) := by decide +kernel
theorem d_Sw_area_32 : decode b_Sw_area 32 = .ok (.dup, 1) := by decide +kernel
theorem d_Sw_area_33 : decode b_Sw_area 33 = .ok (.invokespecial 52, 3) := by decide +kernel
theorem d_Sw_area_36 : decode b_Sw_area 36 = .ok (.athrow, 1) := by decide +kernel
theorem d_Sw_area_37 : decode b_Sw_area 37 = .ok (.iload_n 2, 1) := by decide +kernel
theorem d_Sw_area_38 : decode b_Sw_area 38 = .ok (.ifCond .eq 11, 3) := by decide +kernel
theorem d_Sw_area_41 : decode b_Sw_area 41 = .ok (.iload_n 1, 1) := by decide +kernel
theorem d_Sw_area_42 : decode b_Sw_area 42 = .ok (.iconst 1, 1) := by decide +kernel
theorem d_Sw_area_43 : decode b_Sw_area 43 = .ok (.if_icmp .ne 19, 3) := by decide +kernel
theorem d_Sw_area_46 : decode b_Sw_area 46 = .ok (.goto 8, 3) := by decide +kernel
theorem d_Sw_area_49 : decode b_Sw_area 49 = .ok (.iload_n 3, 1) := by decide +kernel
theorem d_Sw_area_50 : decode b_Sw_area 50 = .ok (.iconst (-1), 1) := by decide +kernel
theorem d_Sw_area_51 : decode b_Sw_area 51 = .ok (.if_icmp .eq 11, 3) := by decide +kernel
theorem d_Sw_area_54 : decode b_Sw_area 54 = .ok (.new 50, 3) := by decide +kernel
theorem d_Sw_area_57 : decode b_Sw_area 57 = .ok (.dup, 1) := by decide +kernel
theorem d_Sw_area_58 : decode b_Sw_area 58 = .ok (.invokespecial 52, 3) := by decide +kernel
theorem d_Sw_area_61 : decode b_Sw_area 61 = .ok (.athrow, 1) := by decide +kernel
theorem d_Sw_area_62 : decode b_Sw_area 62 = .ok (.aload_n 0, 1) := by decide +kernel
theorem d_Sw_area_63 : decode b_Sw_area 63 = .ok (.getfield 46, 3) := by decide +kernel
theorem d_Sw_area_66 : decode b_Sw_area 66 = .ok (.ifCond .ne 15, 3) := by decide +kernel
theorem d_Sw_area_69 : decode b_Sw_area 69 = .ok (.aload_n 0, 1) := by decide +kernel
theorem d_Sw_area_70 : decode b_Sw_area 70 = .ok (.getfield 13, 3) := by decide +kernel
theorem d_Sw_area_73 : decode b_Sw_area 73 = .ok (.getfield 57, 3) := by decide +kernel
theorem d_Sw_area_76 : decode b_Sw_area 76 = .ok (.bipush 12, 2) := by decide +kernel
theorem d_Sw_area_78 : decode b_Sw_area 78 = .ok (.if_icmp .lt 11, 3) := by decide +kernel
theorem d_Sw_area_81 : decode b_Sw_area 81 = .ok (.new 60, 3) := by decide +kernel
theorem d_Sw_area_84 : decode b_Sw_area 84 = .ok (.dup, 1) := by decide +kernel
theorem d_Sw_area_85 : decode b_Sw_area 85 = .ok (.invokespecial 62, 3) := by decide +kernel
theorem d_Sw_area_88 : decode b_Sw_area 88 = .ok (.athrow, 1) := by decide +kernel
theorem d_Sw_area_89 : decode b_Sw_area 89 = .ok (.aload_n 0, 1) := by decide +kernel
theorem d_Sw_area_90 : decode b_Sw_area 90 = .ok (.getfield 19, 3) := by decide +kernel
theorem d_Sw_area_93 : decode b_Sw_area 93 = .ok (.getfield 63, 3) := by decide +kernel
theorem d_Sw_area_96 : decode b_Sw_area 96 = .ok (.aload_n 0, 1) := by decide +kernel
theorem d_Sw_area_97 : decode b_Sw_area 97 = .ok (.getfield 13, 3) := by decide +kernel
theorem d_Sw_area_100 : decode b_Sw_area 100 = .ok (.getfield 57, 3) := by decide +kernel
theorem d_Sw_area_103 : decode b_Sw_area 103 = .ok (.iload_n 3, 1) := by decide +kernel
theorem d_Sw_area_104 : decode b_Sw_area 104 = .ok (.iastore, 1) := by decide +kernel
theorem d_Sw_area_105 : decode b_Sw_area 105 = .ok (.aload_n 0, 1) := by decide +kernel
theorem d_Sw_area_106 : decode b_Sw_area 106 = .ok (.getfield 13, 3) := by decide +kernel
theorem d_Sw_area_109 : decode b_Sw_area 109 = .ok (.iload_n 1, 1) := by decide +kernel
theorem d_Sw_area_110 : decode b_Sw_area 110 = .ok (.iload_n 2, 1) := by decide +kernel
theorem d_Sw_area_111 : decode b_Sw_area 111 = .ok (.iload_n 3, 1) := by decide +kernel
theorem d_Sw_area_112 : decode b_Sw_area 112 = .ok (.invokevirtual 67, 3) := by decide +kernel
theorem d_Sw_area_115 : decode b_Sw_area 115 = .ok (.ireturn, 1) := by decide +kernel
theorem wd_328 : (Cond.classLink "SheetWar" (50 : Nat) "java/lang/IllegalArgumentException") ∈ TB := tb_t 328 (by decide +kernel) (by decide +kernel)
theorem wd_329 : (Cond.instantiable "java/lang/IllegalArgumentException" (6 : Nat)) ∈ TB := tb_t 329 (by decide +kernel) (by decide +kernel)
theorem wd_12 : (Cond.initialized "java/lang/IllegalArgumentException") ∈ TB := tb_t 12 (by decide +kernel) (by decide +kernel)
set_option maxHeartbeats 4000000 in
set_option maxRecDepth 100000 in
theorem c_Sw_area_t1 (l : Launch) (D : va_G) (cI cZ cJ cS : ClassId) (aT : Nat) (ceT : Cell) (h0 hm hh he ha hp : Nat) (ph : Int32) (k ce h : Int32) (hok : ¬ okA k ce h) (hfl : l.flags = pinnedFlags ++ [noTraceFlag]) : MetT l y_Sw_area w_Sw_area ({ frames := 6, cells := 1, slots := 6, locals := 82 }) (tP D cI cZ cJ cS aT ceT [.ref h0, .int k, .int ce, .int h] [(h0, .inr (5, [.ref hm, .ref hh, .ref he, .ref ha, .ref hp, .int ph]))]) tx_iae 1 6 := by
  refine MetT.ofW (cc := b_Sw_area) (maxL := 4) (ret := (some .int)) (by decide) rfl ?_
  intro p e s m args below meth c s₁ B hml hv
  obtain ⟨rfl, hP, hK, hX⟩ := hv
  have hx := B.exec
  have hb := B.bytes
  have hr := B.returns
  have hts0 := atoms_spec (ws := w_Sw_area) B.pre
  have hts : ∀ w ∈ TB, w.before _ s = true := fun w h => hts0 w (List.mem_cons_of_mem _ h)
  have hno := B.noHandlers (hts0 _ (List.mem_cons_self ..))
  have hown : s.vm.findClass R_Sw = some m.cls := findClass_of_methodNamed B.named
  have hlocks := B.notSynchronized
  have hXH : s.heap[aT]? = s.heap[aT]? := rfl
  have hl := lv_entry ([.ref h0, .int k, .int ce, .int h]) (n := 4) (Nat.le_of_ble_eq_true rfl)
  rw [lg_entry_eq]
  generalize (lg_sl ([.ref h0, .int k, .int ce, .int h]) ++ List.replicate (4 - (lg_sl ([.ref h0, .int k, .int ce, .int h])).length) Slot.unset).toArray = ls at hl ⊢
  have hl : lv_has ls 4 [(0, .ref h0), (1, .int k), (2, .int ce), (3, .int h)] := hl
  refine lv_iload_n hx hb d_Sw_area_0 rfl (lv_at hl 1 rfl) ?_
  refine lv_if_eq (tgt := 17) hx hb d_Sw_area_1 (by decide) (fun hc1 => ?_) (fun hc1 => ?_)
  · -- 1 taken
    refine lv_iload_n hx hb d_Sw_area_17 rfl (lv_at hl 3 rfl) ?_
    refine lv_iconst (v := (-1)) hx hb d_Sw_area_18 (by decide) ?_
    refine lv_icmp_eq (tgt := 37) hx hb d_Sw_area_19 (by decide) (fun hc2 => ?_) (fun hc2 => ?_)
    · -- 19 taken
      refine lv_iload_n hx hb d_Sw_area_37 rfl (lv_at hl 2 rfl) ?_
      refine lv_if_eq (tgt := 49) hx hb d_Sw_area_38 (by decide) (fun hc3 => ?_) (fun hc3 => ?_)
      · -- 38 taken
        refine lv_iload_n hx hb d_Sw_area_49 rfl (lv_at hl 3 rfl) ?_
        refine lv_iconst (v := (-1)) hx hb d_Sw_area_50 (by decide) ?_
        refine lv_icmp_eq (tgt := 62) hx hb d_Sw_area_51 (by decide) (fun _ => ?_) (fun h0 => absurd hc2 h0)
        exact absurd (by unfold okA; revert hc1 hc2 hc3; simp only [Int32.lt_iff_toInt_lt, Int32.le_iff_toInt_le, ← Int32.toInt_inj, Int32.reduceToInt, i32_m1]; omega) hok
      · -- 38 not taken
        refine lv_iload_n hx hb d_Sw_area_41 rfl (lv_at hl 1 rfl) ?_
        refine lv_iconst (v := 1) hx hb d_Sw_area_42 (by decide) ?_
        refine lv_icmp_ne (tgt := 62) hx hb d_Sw_area_43 (by decide) (fun hc5 => ?_) (fun hc5 => ?_)
        · -- 43 taken
          exact absurd (by unfold okA; revert hc1 hc2 hc3 hc5; simp only [Int32.lt_iff_toInt_lt, Int32.le_iff_toInt_le, ← Int32.toInt_inj, Int32.reduceToInt, i32_m1]; omega) hok
        · -- 43 not taken
          refine lv_goto (tgt := 54) hx hb d_Sw_area_46 (by decide) ?_
          exact tx_throwNew (n := 6) hx hb hno hfl hlocks hown (by decide) (by decide) (tx_own1 hts hX) (hts _ wd_328) (hts _ wd_329) (hts _ wd_12) (hl.1.trans hml.symm) d_Sw_area_54 d_Sw_area_57 d_Sw_area_58 d_Sw_area_61 (Nat.le_of_ble_eq_true rfl) (Nat.le_of_ble_eq_true rfl) (Nat.le_of_ble_eq_true rfl) (Nat.le_of_ble_eq_true rfl) (Nat.le_refl _)
    · -- 19 not taken
      refine lv_iload_n hx hb d_Sw_area_22 rfl (lv_at hl 3 rfl) ?_
      have hPc := hP.sub (ws' := []) [] rfl
      refine vp_callSi (va_Run.run (va_runS (As := [.int h]) (rest := []) ⟨hx, hb, hml, hown, hts⟩ (c_Sw_isPlayer l D cI cZ cJ cS aT ceT  h ) (va_cwS 1 hts (tb_3 wd_299 wd_300 wd_1 (tb_c wd_301)) rfl rfl rfl ⟨by decide, by decide, by decide +kernel⟩ ⟨Nat.le_of_ble_eq_true rfl, Nat.le_of_ble_eq_true rfl⟩) (tP_S hK hX hXH hPc) rfl rfl hl.1 rfl (lv_room (Nat.le_of_ble_eq_true rfl)) d_Sw_area_23 ⟨Nat.le_of_ble_eq_true rfl, Nat.le_of_ble_eq_true rfl⟩)) (fun r6 hr9 => ?_)
      rcases hr9 with ⟨rfl, hq7⟩ | ⟨rfl, hq7⟩
      · -- 23: true
        refine lv_if_ne (tgt := 37) hx hb d_Sw_area_26 (by decide) (fun _ => ?_) (fun h0 => absurd h0 (by decide))
        refine lv_iload_n hx hb d_Sw_area_37 rfl (lv_at hl 2 rfl) ?_
        refine lv_if_eq (tgt := 49) hx hb d_Sw_area_38 (by decide) (fun hc9 => ?_) (fun hc9 => ?_)
        · -- 38 taken
          refine lv_iload_n hx hb d_Sw_area_49 rfl (lv_at hl 3 rfl) ?_
          refine lv_iconst (v := (-1)) hx hb d_Sw_area_50 (by decide) ?_
          refine lv_icmp_eq (tgt := 62) hx hb d_Sw_area_51 (by decide) (fun h0 => absurd h0 hc2) (fun _ => ?_)
          exact tx_throwNew (n := 6) hx hb hno hfl hlocks hown (by decide) (by decide) (tx_own1 hts hX) (hts _ wd_328) (hts _ wd_329) (hts _ wd_12) (hl.1.trans hml.symm) d_Sw_area_54 d_Sw_area_57 d_Sw_area_58 d_Sw_area_61 (Nat.le_of_ble_eq_true rfl) (Nat.le_of_ble_eq_true rfl) (Nat.le_of_ble_eq_true rfl) (Nat.le_of_ble_eq_true rfl) (Nat.le_refl _)
        · -- 38 not taken
          refine lv_iload_n hx hb d_Sw_area_41 rfl (lv_at hl 1 rfl) ?_
          refine lv_iconst (v := 1) hx hb d_Sw_area_42 (by decide) ?_
          refine lv_icmp_ne (tgt := 62) hx hb d_Sw_area_43 (by decide) (fun hc11 => ?_) (fun hc11 => ?_)
          · -- 43 taken
            exact absurd (by unfold okA; revert hc1 hc2 hq7 hc9 hc11; simp only [Int32.lt_iff_toInt_lt, Int32.le_iff_toInt_le, ← Int32.toInt_inj, Int32.reduceToInt, i32_m1]; omega) hok
          · -- 43 not taken
            refine lv_goto (tgt := 54) hx hb d_Sw_area_46 (by decide) ?_
            exact tx_throwNew (n := 6) hx hb hno hfl hlocks hown (by decide) (by decide) (tx_own1 hts hX) (hts _ wd_328) (hts _ wd_329) (hts _ wd_12) (hl.1.trans hml.symm) d_Sw_area_54 d_Sw_area_57 d_Sw_area_58 d_Sw_area_61 (Nat.le_of_ble_eq_true rfl) (Nat.le_of_ble_eq_true rfl) (Nat.le_of_ble_eq_true rfl) (Nat.le_of_ble_eq_true rfl) (Nat.le_refl _)
      · -- 23: false
        refine lv_if_ne (tgt := 37) hx hb d_Sw_area_26 (by decide) (fun h0 => absurd (by decide) h0) (fun _ => ?_)
        exact tx_throwNew (n := 6) hx hb hno hfl hlocks hown (by decide) (by decide) (tx_own1 hts hX) (hts _ wd_328) (hts _ wd_329) (hts _ wd_12) (hl.1.trans hml.symm) d_Sw_area_29 d_Sw_area_32 d_Sw_area_33 d_Sw_area_36 (Nat.le_of_ble_eq_true rfl) (Nat.le_of_ble_eq_true rfl) (Nat.le_of_ble_eq_true rfl) (Nat.le_of_ble_eq_true rfl) (Nat.le_refl _)
  · -- 1 not taken
    refine lv_iload_n hx hb d_Sw_area_4 rfl (lv_at hl 1 rfl) ?_
    refine lv_iconst (v := 1) hx hb d_Sw_area_5 (by decide) ?_
    refine lv_icmp_eq (tgt := 17) hx hb d_Sw_area_6 (by decide) (fun hc13 => ?_) (fun hc13 => ?_)
    · -- 6 taken
      refine lv_iload_n hx hb d_Sw_area_17 rfl (lv_at hl 3 rfl) ?_
      refine lv_iconst (v := (-1)) hx hb d_Sw_area_18 (by decide) ?_
      refine lv_icmp_eq (tgt := 37) hx hb d_Sw_area_19 (by decide) (fun hc14 => ?_) (fun hc14 => ?_)
      · -- 19 taken
        refine lv_iload_n hx hb d_Sw_area_37 rfl (lv_at hl 2 rfl) ?_
        refine lv_if_eq (tgt := 49) hx hb d_Sw_area_38 (by decide) (fun hc15 => ?_) (fun hc15 => ?_)
        · -- 38 taken
          refine lv_iload_n hx hb d_Sw_area_49 rfl (lv_at hl 3 rfl) ?_
          refine lv_iconst (v := (-1)) hx hb d_Sw_area_50 (by decide) ?_
          refine lv_icmp_eq (tgt := 62) hx hb d_Sw_area_51 (by decide) (fun _ => ?_) (fun h0 => absurd hc14 h0)
          exact absurd (by unfold okA; revert hc1 hc13 hc14 hc15; simp only [Int32.lt_iff_toInt_lt, Int32.le_iff_toInt_le, ← Int32.toInt_inj, Int32.reduceToInt, i32_m1]; omega) hok
        · -- 38 not taken
          refine lv_iload_n hx hb d_Sw_area_41 rfl (lv_at hl 1 rfl) ?_
          refine lv_iconst (v := 1) hx hb d_Sw_area_42 (by decide) ?_
          refine lv_icmp_ne (tgt := 62) hx hb d_Sw_area_43 (by decide) (fun h0 => absurd hc13 h0) (fun _ => ?_)
          refine lv_goto (tgt := 54) hx hb d_Sw_area_46 (by decide) ?_
          exact tx_throwNew (n := 6) hx hb hno hfl hlocks hown (by decide) (by decide) (tx_own1 hts hX) (hts _ wd_328) (hts _ wd_329) (hts _ wd_12) (hl.1.trans hml.symm) d_Sw_area_54 d_Sw_area_57 d_Sw_area_58 d_Sw_area_61 (Nat.le_of_ble_eq_true rfl) (Nat.le_of_ble_eq_true rfl) (Nat.le_of_ble_eq_true rfl) (Nat.le_of_ble_eq_true rfl) (Nat.le_refl _)
      · -- 19 not taken
        refine lv_iload_n hx hb d_Sw_area_22 rfl (lv_at hl 3 rfl) ?_
        have hPc := hP.sub (ws' := []) [] rfl
        refine vp_callSi (va_Run.run (va_runS (As := [.int h]) (rest := []) ⟨hx, hb, hml, hown, hts⟩ (c_Sw_isPlayer l D cI cZ cJ cS aT ceT  h ) (va_cwS 1 hts (tb_3 wd_299 wd_300 wd_1 (tb_c wd_301)) rfl rfl rfl ⟨by decide, by decide, by decide +kernel⟩ ⟨Nat.le_of_ble_eq_true rfl, Nat.le_of_ble_eq_true rfl⟩) (tP_S hK hX hXH hPc) rfl rfl hl.1 rfl (lv_room (Nat.le_of_ble_eq_true rfl)) d_Sw_area_23 ⟨Nat.le_of_ble_eq_true rfl, Nat.le_of_ble_eq_true rfl⟩)) (fun r18 hr9 => ?_)
        rcases hr9 with ⟨rfl, hq19⟩ | ⟨rfl, hq19⟩
        · -- 23: true
          refine lv_if_ne (tgt := 37) hx hb d_Sw_area_26 (by decide) (fun _ => ?_) (fun h0 => absurd h0 (by decide))
          refine lv_iload_n hx hb d_Sw_area_37 rfl (lv_at hl 2 rfl) ?_
          refine lv_if_eq (tgt := 49) hx hb d_Sw_area_38 (by decide) (fun hc21 => ?_) (fun hc21 => ?_)
          · -- 38 taken
            refine lv_iload_n hx hb d_Sw_area_49 rfl (lv_at hl 3 rfl) ?_
            refine lv_iconst (v := (-1)) hx hb d_Sw_area_50 (by decide) ?_
            refine lv_icmp_eq (tgt := 62) hx hb d_Sw_area_51 (by decide) (fun h0 => absurd h0 hc14) (fun _ => ?_)
            exact tx_throwNew (n := 6) hx hb hno hfl hlocks hown (by decide) (by decide) (tx_own1 hts hX) (hts _ wd_328) (hts _ wd_329) (hts _ wd_12) (hl.1.trans hml.symm) d_Sw_area_54 d_Sw_area_57 d_Sw_area_58 d_Sw_area_61 (Nat.le_of_ble_eq_true rfl) (Nat.le_of_ble_eq_true rfl) (Nat.le_of_ble_eq_true rfl) (Nat.le_of_ble_eq_true rfl) (Nat.le_refl _)
          · -- 38 not taken
            refine lv_iload_n hx hb d_Sw_area_41 rfl (lv_at hl 1 rfl) ?_
            refine lv_iconst (v := 1) hx hb d_Sw_area_42 (by decide) ?_
            refine lv_icmp_ne (tgt := 62) hx hb d_Sw_area_43 (by decide) (fun h0 => absurd hc13 h0) (fun _ => ?_)
            refine lv_goto (tgt := 54) hx hb d_Sw_area_46 (by decide) ?_
            exact tx_throwNew (n := 6) hx hb hno hfl hlocks hown (by decide) (by decide) (tx_own1 hts hX) (hts _ wd_328) (hts _ wd_329) (hts _ wd_12) (hl.1.trans hml.symm) d_Sw_area_54 d_Sw_area_57 d_Sw_area_58 d_Sw_area_61 (Nat.le_of_ble_eq_true rfl) (Nat.le_of_ble_eq_true rfl) (Nat.le_of_ble_eq_true rfl) (Nat.le_of_ble_eq_true rfl) (Nat.le_refl _)
        · -- 23: false
          refine lv_if_ne (tgt := 37) hx hb d_Sw_area_26 (by decide) (fun h0 => absurd (by decide) h0) (fun _ => ?_)
          exact tx_throwNew (n := 6) hx hb hno hfl hlocks hown (by decide) (by decide) (tx_own1 hts hX) (hts _ wd_328) (hts _ wd_329) (hts _ wd_12) (hl.1.trans hml.symm) d_Sw_area_29 d_Sw_area_32 d_Sw_area_33 d_Sw_area_36 (Nat.le_of_ble_eq_true rfl) (Nat.le_of_ble_eq_true rfl) (Nat.le_of_ble_eq_true rfl) (Nat.le_of_ble_eq_true rfl) (Nat.le_refl _)
    · -- 6 not taken
      exact tx_throwNew (n := 6) hx hb hno hfl hlocks hown (by decide) (by decide) (tx_own1 hts hX) (hts _ wd_328) (hts _ wd_329) (hts _ wd_12) (hl.1.trans hml.symm) d_Sw_area_9 d_Sw_area_12 d_Sw_area_13 d_Sw_area_16 (Nat.le_of_ble_eq_true rfl) (Nat.le_of_ble_eq_true rfl) (Nat.le_of_ble_eq_true rfl) (Nat.le_of_ble_eq_true rfl) (Nat.le_refl _)

theorem d_Sw_border_0 : decode b_Sw_border 0 = .ok (.aload_n 0, 1) := by decide +kernel
theorem d_Sw_border_1 : decode b_Sw_border 1 = .ok (.getfield 13, 3) := by decide +kernel
theorem d_Sw_border_4 : decode b_Sw_border 4 = .ok (.iload_n 1, 1) := by decide +kernel
theorem d_Sw_border_5 : decode b_Sw_border 5 = .ok (.invokevirtual 71, 3) := by decide +kernel
theorem d_Sw_border_8 : decode b_Sw_border 8 = .ok (.ifCond .eq 19, 3) := by decide +kernel
theorem d_Sw_border_11 : decode b_Sw_border 11 = .ok (.aload_n 0, 1) := by decide +kernel
theorem d_Sw_border_12 : decode b_Sw_border 12 = .ok (.getfield 13, 3) := by decide +kernel
theorem d_Sw_border_15 : decode b_Sw_border 15 = .ok (.iload_n 2, 1) := by decide +kernel
theorem d_Sw_border_16 : decode b_Sw_border 16 = .ok (.invokevirtual 71, 3) := by decide +kernel
theorem d_Sw_border_19 : decode b_Sw_border 19 = .ok (.ifCond .eq 8, 3) := by decide +kernel
theorem d_Sw_border_22 : decode b_Sw_border 22 = .ok (.iload_n 1, 1) := by decide +kernel
theorem d_Sw_border_23 : decode b_Sw_border 23 = .ok (.iload_n 2, 1) := by decide +kernel
theorem d_Sw_border_24 : decode b_Sw_border 24 = .ok (.if_icmp .ne 11, 3) := by decide +kernel
theorem d_Sw_border_27 : decode b_Sw_border 27 = .ok (.new 50, 3) := by decide +kernel
theorem d_Sw_border_30 : decode b_Sw_border 30 = .ok (.dup, 1) := by decide +kernel
theorem d_Sw_border_31 : decode b_Sw_border 31 = .ok (.invokespecial 52, 3) := by decide +kernel
theorem d_Sw_border_34 : decode b_Sw_border 34 = .ok (.athrow, 1) := by decide +kernel
theorem d_Sw_border_35 : decode b_Sw_border 35 = .ok (.aload_n 0, 1) := by decide +kernel
theorem d_Sw_border_36 : decode b_Sw_border 36 = .ok (.getfield 46, 3) := by decide +kernel
theorem d_Sw_border_39 : decode b_Sw_border 39 = .ok (.ifCond .eq 11, 3) := by decide +kernel
theorem d_Sw_border_42 : decode b_Sw_border 42 = .ok (.new 60, 3) := by decide +kernel
theorem d_Sw_border_45 : decode b_Sw_border 45 = .ok (.dup, 1) := by decide +kernel
theorem d_Sw_border_46 : decode b_Sw_border 46 = .ok (.invokespecial 62, 3) := by decide +kernel
theorem d_Sw_border_49 : decode b_Sw_border 49 = .ok (.athrow, 1) := by decide +kernel
theorem d_Sw_border_50 : decode b_Sw_border 50 = .ok (.aload_n 0, 1) := by decide +kernel
theorem d_Sw_border_51 : decode b_Sw_border 51 = .ok (.getfield 13, 3) := by decide +kernel
theorem d_Sw_border_54 : decode b_Sw_border 54 = .ok (.iload_n 1, 1) := by decide +kernel
theorem d_Sw_border_55 : decode b_Sw_border 55 = .ok (.iload_n 2, 1) := by decide +kernel
theorem d_Sw_border_56 : decode b_Sw_border 56 = .ok (.invokevirtual 74, 3) := by decide +kernel
theorem d_Sw_border_59 : decode b_Sw_border 59 = .ok (.ireturn, 1) := by decide +kernel

set_option maxHeartbeats 4000000 in
set_option maxRecDepth 100000 in
theorem c_Sw_border_t1 (l : Launch) (D : va_G) (cI cZ cJ cS : ClassId) (aT : Nat) (ceT : Cell) (h0 hm hh he ha hp : Nat) (ph : Int32) (qh qn : Nat) (n seas cen : Int32) (a b : Int32) (hno9 : ¬ ((0 ≤ a ∧ a < n) ∧ (0 ≤ b ∧ b < n) ∧ ¬ a = b)) (hfl : l.flags = pinnedFlags ++ [noTraceFlag]) : MetT l y_Sw_border w_Sw_border ({ frames := 6, cells := 1, slots := 6, locals := 82 }) (tP D cI cZ cJ cS aT ceT [.ref h0, .int a, .int b] [(h0, .inr (5, [.ref hm, .ref hh, .ref he, .ref ha, .ref hp, .int ph])), (hm, .inr (4, [.int n, .int seas, .int cen, .ref qh, .ref qn]))]) tx_iae 1 6 := by
  refine MetT.ofW (cc := b_Sw_border) (maxL := 3) (ret := (some .boolean)) (by decide) rfl ?_
  intro p e s m args below meth c s₁ B hml hv
  obtain ⟨rfl, hP, hK, hX⟩ := hv
  have hx := B.exec
  have hb := B.bytes
  have hr := B.returns
  have hts0 := atoms_spec (ws := w_Sw_border) B.pre
  have hts : ∀ w ∈ TB, w.before _ s = true := fun w h => hts0 w (List.mem_cons_of_mem _ h)
  have hno := B.noHandlers (hts0 _ (List.mem_cons_self ..))
  have hown : s.vm.findClass R_Sw = some m.cls := findClass_of_methodNamed B.named
  have hlocks := B.notSynchronized
  have hXH : s.heap[aT]? = s.heap[aT]? := rfl
  have hl := lv_entry ([.ref h0, .int a, .int b]) (n := 3) (Nat.le_of_ble_eq_true rfl)
  rw [lg_entry_eq]
  generalize (lg_sl ([.ref h0, .int a, .int b]) ++ List.replicate (3 - (lg_sl ([.ref h0, .int a, .int b])).length) Slot.unset).toArray = ls at hl ⊢
  have hl : lv_has ls 3 [(0, .ref h0), (1, .int a), (2, .int b)] := hl
  refine lv_aload_n hx hb d_Sw_border_0 rfl (lv_at hl 0 rfl) ?_
  refine va_get (D := D) (ci := 5) (v := .ref hm) (C := R_Sw) (T := T_Sw) (N := 6) hx hb hts hin_Sw hown hK hP 0 rfl rfl 0 (by decide) (hts _ wd_201) (fun _ h9 => h9) rfl d_Sw_border_1 ?_
  refine lv_iload_n hx hb d_Sw_border_4 rfl (lv_at hl 1 rfl) ?_
  have hPc := hP.sub (ws' := [(hm, .inr (4, [.int n, .int seas, .int cen, .ref qh, .ref qn]))]) [1] rfl
  refine vp_callSi (va_Run.run (va_runV (As := [.int a]) (rest := []) ⟨hx, hb, hml, hown, hts⟩ (c_Wm_has l D cI cZ cJ cS aT ceT  hm qh qn n seas cen a ) (cwV 1 hts (tb_4 wd_224 wd_225 wd_226 wd_2 (tb_c wd_227)) rfl rfl rfl ⟨rfl, by decide, by decide, by decide +kernel⟩ ⟨Nat.le_of_ble_eq_true rfl, Nat.le_of_ble_eq_true rfl⟩) (tP_V hK hX hXH hPc (q := 0) rfl rfl) rfl rfl hl.1 rfl (lv_room (Nat.le_of_ble_eq_true rfl)) d_Sw_border_5 ⟨Nat.le_of_ble_eq_true rfl, Nat.le_of_ble_eq_true rfl⟩)) (fun r1 hr9 => ?_)
  rcases hr9 with ⟨rfl, hq2⟩ | ⟨rfl, hq2⟩
  · -- 5: true
    refine lv_if_eq (tgt := 27) hx hb d_Sw_border_8 (by decide) (fun h0 => absurd h0 (by decide)) (fun _ => ?_)
    refine lv_aload_n hx hb d_Sw_border_11 rfl (lv_at hl 0 rfl) ?_
    refine va_get (D := D) (ci := 5) (v := .ref hm) (C := R_Sw) (T := T_Sw) (N := 6) hx hb hts hin_Sw hown hK hP 0 rfl rfl 0 (by decide) (hts _ wd_201) (fun _ h9 => h9) rfl d_Sw_border_12 ?_
    refine lv_iload_n hx hb d_Sw_border_15 rfl (lv_at hl 2 rfl) ?_
    have hPc := hP.sub (ws' := [(hm, .inr (4, [.int n, .int seas, .int cen, .ref qh, .ref qn]))]) [1] rfl
    refine vp_callSi (va_Run.run (va_runV (As := [.int b]) (rest := []) ⟨hx, hb, hml, hown, hts⟩ (c_Wm_has l D cI cZ cJ cS aT ceT  hm qh qn n seas cen b ) (cwV 1 hts (tb_4 wd_224 wd_225 wd_226 wd_2 (tb_c wd_227)) rfl rfl rfl ⟨rfl, by decide, by decide, by decide +kernel⟩ ⟨Nat.le_of_ble_eq_true rfl, Nat.le_of_ble_eq_true rfl⟩) (tP_V hK hX hXH hPc (q := 0) rfl rfl) rfl rfl hl.1 rfl (lv_room (Nat.le_of_ble_eq_true rfl)) d_Sw_border_16 ⟨Nat.le_of_ble_eq_true rfl, Nat.le_of_ble_eq_true rfl⟩)) (fun r4 hr9 => ?_)
    rcases hr9 with ⟨rfl, hq5⟩ | ⟨rfl, hq5⟩
    · -- 16: true
      refine lv_if_eq (tgt := 27) hx hb d_Sw_border_19 (by decide) (fun h0 => absurd h0 (by decide)) (fun _ => ?_)
      refine lv_iload_n hx hb d_Sw_border_22 rfl (lv_at hl 1 rfl) ?_
      refine lv_iload_n hx hb d_Sw_border_23 rfl (lv_at hl 2 rfl) ?_
      refine lv_icmp_ne (tgt := 35) hx hb d_Sw_border_24 (by decide) (fun hc7 => ?_) (fun hc7 => ?_)
      · -- 24 taken
        exact absurd ⟨hq2, hq5, hc7⟩ hno9
      · -- 24 not taken
        exact tx_throwNew (n := 6) hx hb hno hfl hlocks hown (by decide) (by decide) (tx_own1 hts hX) (hts _ wd_328) (hts _ wd_329) (hts _ wd_12) (hl.1.trans hml.symm) d_Sw_border_27 d_Sw_border_30 d_Sw_border_31 d_Sw_border_34 (Nat.le_of_ble_eq_true rfl) (Nat.le_of_ble_eq_true rfl) (Nat.le_of_ble_eq_true rfl) (Nat.le_of_ble_eq_true rfl) (Nat.le_refl _)
    · -- 16: false
      refine lv_if_eq (tgt := 27) hx hb d_Sw_border_19 (by decide) (fun _ => ?_) (fun h0 => absurd (by decide) h0)
      exact tx_throwNew (n := 6) hx hb hno hfl hlocks hown (by decide) (by decide) (tx_own1 hts hX) (hts _ wd_328) (hts _ wd_329) (hts _ wd_12) (hl.1.trans hml.symm) d_Sw_border_27 d_Sw_border_30 d_Sw_border_31 d_Sw_border_34 (Nat.le_of_ble_eq_true rfl) (Nat.le_of_ble_eq_true rfl) (Nat.le_of_ble_eq_true rfl) (Nat.le_of_ble_eq_true rfl) (Nat.le_refl _)
  · -- 5: false
    refine lv_if_eq (tgt := 27) hx hb d_Sw_border_8 (by decide) (fun _ => ?_) (fun h0 => absurd (by decide) h0)
    exact tx_throwNew (n := 6) hx hb hno hfl hlocks hown (by decide) (by decide) (tx_own1 hts hX) (hts _ wd_328) (hts _ wd_329) (hts _ wd_12) (hl.1.trans hml.symm) d_Sw_border_27 d_Sw_border_30 d_Sw_border_31 d_Sw_border_34 (Nat.le_of_ble_eq_true rfl) (Nat.le_of_ble_eq_true rfl) (Nat.le_of_ble_eq_true rfl) (Nat.le_of_ble_eq_true rfl) (Nat.le_refl _)

theorem d_Sw_unit_0 : decode b_Sw_unit 0 = .ok (.aload_n 0, 1) := by decide +kernel
theorem d_Sw_unit_1 : decode b_Sw_unit 1 = .ok (.getfield 13, 3) := by decide +kernel
theorem d_Sw_unit_4 : decode b_Sw_unit 4 = .ok (.iload_n 1, 1) := by decide +kernel
theorem d_Sw_unit_5 : decode b_Sw_unit 5 = .ok (.invokevirtual 71, 3) := by decide +kernel
theorem d_Sw_unit_8 : decode b_Sw_unit 8 = .ok (.ifCond .eq 19, 3) := by decide +kernel
theorem d_Sw_unit_11 : decode b_Sw_unit 11 = .ok (.iload_n 2, 1) := by decide +kernel
theorem d_Sw_unit_12 : decode b_Sw_unit 12 = .ok (.invokestatic 53, 3) := by decide +kernel
theorem d_Sw_unit_15 : decode b_Sw_unit 15 = .ok (.ifCond .eq 12, 3) := by decide +kernel
theorem d_Sw_unit_18 : decode b_Sw_unit 18 = .ok (.iload_n 3, 1) := by decide +kernel
theorem d_Sw_unit_19 : decode b_Sw_unit 19 = .ok (.ifCond .eq 16, 3) := by decide +kernel
theorem d_Sw_unit_22 : decode b_Sw_unit 22 = .ok (.iload_n 3, 1) := by decide +kernel
theorem d_Sw_unit_23 : decode b_Sw_unit 23 = .ok (.iconst 1, 1) := by decide +kernel
theorem d_Sw_unit_24 : decode b_Sw_unit 24 = .ok (.if_icmp .eq 11, 3) := by decide +kernel
theorem d_Sw_unit_27 : decode b_Sw_unit 27 = .ok (.new 50, 3) := by decide +kernel
theorem d_Sw_unit_30 : decode b_Sw_unit 30 = .ok (.dup, 1) := by decide +kernel
theorem d_Sw_unit_31 : decode b_Sw_unit 31 = .ok (.invokespecial 52, 3) := by decide +kernel
theorem d_Sw_unit_34 : decode b_Sw_unit 34 = .ok (.athrow, 1) := by decide +kernel
theorem d_Sw_unit_35 : decode b_Sw_unit 35 = .ok (.aload_n 0, 1) := by decide +kernel
theorem d_Sw_unit_36 : decode b_Sw_unit 36 = .ok (.getfield 46, 3) := by decide +kernel
theorem d_Sw_unit_39 : decode b_Sw_unit 39 = .ok (.ifCond .ne 26, 3) := by decide +kernel
theorem d_Sw_unit_42 : decode b_Sw_unit 42 = .ok (.aload_n 0, 1) := by decide +kernel
theorem d_Sw_unit_43 : decode b_Sw_unit 43 = .ok (.getfield 19, 3) := by decide +kernel
theorem d_Sw_unit_46 : decode b_Sw_unit 46 = .ok (.iload_n 1, 1) := by decide +kernel
theorem d_Sw_unit_47 : decode b_Sw_unit 47 = .ok (.invokevirtual 78, 3) := by decide +kernel
theorem d_Sw_unit_50 : decode b_Sw_unit 50 = .ok (.ifCond .ne 15, 3) := by decide +kernel
theorem d_Sw_unit_53 : decode b_Sw_unit 53 = .ok (.aload_n 0, 1) := by decide +kernel
theorem d_Sw_unit_54 : decode b_Sw_unit 54 = .ok (.getfield 13, 3) := by decide +kernel
theorem d_Sw_unit_57 : decode b_Sw_unit 57 = .ok (.iload_n 3, 1) := by decide +kernel
theorem d_Sw_unit_58 : decode b_Sw_unit 58 = .ok (.iload_n 1, 1) := by decide +kernel
theorem d_Sw_unit_59 : decode b_Sw_unit 59 = .ok (.invokevirtual 81, 3) := by decide +kernel
theorem d_Sw_unit_62 : decode b_Sw_unit 62 = .ok (.ifCond .ne 11, 3) := by decide +kernel
theorem d_Sw_unit_65 : decode b_Sw_unit 65 = .ok (.new 60, 3) := by decide +kernel
theorem d_Sw_unit_68 : decode b_Sw_unit 68 = .ok (.dup, 1) := by decide +kernel
theorem d_Sw_unit_69 : decode b_Sw_unit 69 = .ok (.invokespecial 62, 3) := by decide +kernel
theorem d_Sw_unit_72 : decode b_Sw_unit 72 = .ok (.athrow, 1) := by decide +kernel
theorem d_Sw_unit_73 : decode b_Sw_unit 73 = .ok (.aload_n 0, 1) := by decide +kernel
theorem d_Sw_unit_74 : decode b_Sw_unit 74 = .ok (.getfield 19, 3) := by decide +kernel
theorem d_Sw_unit_77 : decode b_Sw_unit 77 = .ok (.getfield 84, 3) := by decide +kernel
theorem d_Sw_unit_80 : decode b_Sw_unit 80 = .ok (.iload_n 1, 1) := by decide +kernel
theorem d_Sw_unit_81 : decode b_Sw_unit 81 = .ok (.iload_n 2, 1) := by decide +kernel
theorem d_Sw_unit_82 : decode b_Sw_unit 82 = .ok (.iload_n 3, 1) := by decide +kernel
theorem d_Sw_unit_83 : decode b_Sw_unit 83 = .ok (.invokestatic 87, 3) := by decide +kernel
theorem d_Sw_unit_86 : decode b_Sw_unit 86 = .ok (.iastore, 1) := by decide +kernel
theorem d_Sw_unit_87 : decode b_Sw_unit 87 = .ok (.return_, 1) := by decide +kernel

set_option maxHeartbeats 4000000 in
set_option maxRecDepth 100000 in
theorem c_Sw_unit_t1 (l : Launch) (D : va_G) (cI cZ cJ cS : ClassId) (aT : Nat) (ceT : Cell) (h0 hm hh he ha hp : Nat) (ph : Int32) (qh qn : Nat) (n seas cen : Int32) (a pl k : Int32) (hno9 : ¬ ((0 ≤ a ∧ a < n) ∧ (0 ≤ pl ∧ pl < 4) ∧ (k = 0 ∨ k = 1))) (hfl : l.flags = pinnedFlags ++ [noTraceFlag]) : MetT l y_Sw_unit w_Sw_unit ({ frames := 6, cells := 1, slots := 6, locals := 82 }) (tP D cI cZ cJ cS aT ceT [.ref h0, .int a, .int pl, .int k] [(h0, .inr (5, [.ref hm, .ref hh, .ref he, .ref ha, .ref hp, .int ph])), (hm, .inr (4, [.int n, .int seas, .int cen, .ref qh, .ref qn]))]) tx_iae 1 6 := by
  refine MetT.ofW (cc := b_Sw_unit) (maxL := 4) (ret := none) (by decide) rfl ?_
  intro p e s m args below meth c s₁ B hml hv
  obtain ⟨rfl, hP, hK, hX⟩ := hv
  have hx := B.exec
  have hb := B.bytes
  have hr := B.returns
  have hts0 := atoms_spec (ws := w_Sw_unit) B.pre
  have hts : ∀ w ∈ TB, w.before _ s = true := fun w h => hts0 w (List.mem_cons_of_mem _ h)
  have hno := B.noHandlers (hts0 _ (List.mem_cons_self ..))
  have hown : s.vm.findClass R_Sw = some m.cls := findClass_of_methodNamed B.named
  have hlocks := B.notSynchronized
  have hXH : s.heap[aT]? = s.heap[aT]? := rfl
  have hl := lv_entry ([.ref h0, .int a, .int pl, .int k]) (n := 4) (Nat.le_of_ble_eq_true rfl)
  rw [lg_entry_eq]
  generalize (lg_sl ([.ref h0, .int a, .int pl, .int k]) ++ List.replicate (4 - (lg_sl ([.ref h0, .int a, .int pl, .int k])).length) Slot.unset).toArray = ls at hl ⊢
  have hl : lv_has ls 4 [(0, .ref h0), (1, .int a), (2, .int pl), (3, .int k)] := hl
  refine lv_aload_n hx hb d_Sw_unit_0 rfl (lv_at hl 0 rfl) ?_
  refine va_get (D := D) (ci := 5) (v := .ref hm) (C := R_Sw) (T := T_Sw) (N := 6) hx hb hts hin_Sw hown hK hP 0 rfl rfl 0 (by decide) (hts _ wd_201) (fun _ h9 => h9) rfl d_Sw_unit_1 ?_
  refine lv_iload_n hx hb d_Sw_unit_4 rfl (lv_at hl 1 rfl) ?_
  have hPc := hP.sub (ws' := [(hm, .inr (4, [.int n, .int seas, .int cen, .ref qh, .ref qn]))]) [1] rfl
  refine vp_callSi (va_Run.run (va_runV (As := [.int a]) (rest := []) ⟨hx, hb, hml, hown, hts⟩ (c_Wm_has l D cI cZ cJ cS aT ceT  hm qh qn n seas cen a ) (cwV 1 hts (tb_4 wd_224 wd_225 wd_226 wd_2 (tb_c wd_227)) rfl rfl rfl ⟨rfl, by decide, by decide, by decide +kernel⟩ ⟨Nat.le_of_ble_eq_true rfl, Nat.le_of_ble_eq_true rfl⟩) (tP_V hK hX hXH hPc (q := 0) rfl rfl) rfl rfl hl.1 rfl (lv_room (Nat.le_of_ble_eq_true rfl)) d_Sw_unit_5 ⟨Nat.le_of_ble_eq_true rfl, Nat.le_of_ble_eq_true rfl⟩)) (fun r1 hr9 => ?_)
  rcases hr9 with ⟨rfl, hq2⟩ | ⟨rfl, hq2⟩
  · -- 5: true
    refine lv_if_eq (tgt := 27) hx hb d_Sw_unit_8 (by decide) (fun h0 => absurd h0 (by decide)) (fun _ => ?_)
    refine lv_iload_n hx hb d_Sw_unit_11 rfl (lv_at hl 2 rfl) ?_
    have hPc := hP.sub (ws' := []) [] rfl
    refine vp_callSi (va_Run.run (va_runS (As := [.int pl]) (rest := []) ⟨hx, hb, hml, hown, hts⟩ (c_Sw_isPlayer l D cI cZ cJ cS aT ceT  pl ) (va_cwS 1 hts (tb_3 wd_299 wd_300 wd_1 (tb_c wd_301)) rfl rfl rfl ⟨by decide, by decide, by decide +kernel⟩ ⟨Nat.le_of_ble_eq_true rfl, Nat.le_of_ble_eq_true rfl⟩) (tP_S hK hX hXH hPc) rfl rfl hl.1 rfl (lv_room (Nat.le_of_ble_eq_true rfl)) d_Sw_unit_12 ⟨Nat.le_of_ble_eq_true rfl, Nat.le_of_ble_eq_true rfl⟩)) (fun r4 hr9 => ?_)
    rcases hr9 with ⟨rfl, hq5⟩ | ⟨rfl, hq5⟩
    · -- 12: true
      refine lv_if_eq (tgt := 27) hx hb d_Sw_unit_15 (by decide) (fun h0 => absurd h0 (by decide)) (fun _ => ?_)
      refine lv_iload_n hx hb d_Sw_unit_18 rfl (lv_at hl 3 rfl) ?_
      refine lv_if_eq (tgt := 35) hx hb d_Sw_unit_19 (by decide) (fun hc7 => ?_) (fun hc7 => ?_)
      · -- 19 taken
        exact absurd (by revert hq2 hq5 hc7; simp only [Int32.lt_iff_toInt_lt, Int32.le_iff_toInt_le, ← Int32.toInt_inj, Int32.reduceToInt, i32_m1]; omega) hno9
      · -- 19 not taken
        refine lv_iload_n hx hb d_Sw_unit_22 rfl (lv_at hl 3 rfl) ?_
        refine lv_iconst (v := 1) hx hb d_Sw_unit_23 (by decide) ?_
        refine lv_icmp_eq (tgt := 35) hx hb d_Sw_unit_24 (by decide) (fun hc8 => ?_) (fun hc8 => ?_)
        · -- 24 taken
          exact absurd (by revert hq2 hq5 hc7 hc8; simp only [Int32.lt_iff_toInt_lt, Int32.le_iff_toInt_le, ← Int32.toInt_inj, Int32.reduceToInt, i32_m1]; omega) hno9
        · -- 24 not taken
          exact tx_throwNew (n := 6) hx hb hno hfl hlocks hown (by decide) (by decide) (tx_own1 hts hX) (hts _ wd_328) (hts _ wd_329) (hts _ wd_12) (hl.1.trans hml.symm) d_Sw_unit_27 d_Sw_unit_30 d_Sw_unit_31 d_Sw_unit_34 (Nat.le_of_ble_eq_true rfl) (Nat.le_of_ble_eq_true rfl) (Nat.le_of_ble_eq_true rfl) (Nat.le_of_ble_eq_true rfl) (Nat.le_refl _)
    · -- 12: false
      refine lv_if_eq (tgt := 27) hx hb d_Sw_unit_15 (by decide) (fun _ => ?_) (fun h0 => absurd (by decide) h0)
      exact tx_throwNew (n := 6) hx hb hno hfl hlocks hown (by decide) (by decide) (tx_own1 hts hX) (hts _ wd_328) (hts _ wd_329) (hts _ wd_12) (hl.1.trans hml.symm) d_Sw_unit_27 d_Sw_unit_30 d_Sw_unit_31 d_Sw_unit_34 (Nat.le_of_ble_eq_true rfl) (Nat.le_of_ble_eq_true rfl) (Nat.le_of_ble_eq_true rfl) (Nat.le_of_ble_eq_true rfl) (Nat.le_refl _)
  · -- 5: false
    refine lv_if_eq (tgt := 27) hx hb d_Sw_unit_8 (by decide) (fun _ => ?_) (fun h0 => absurd (by decide) h0)
    exact tx_throwNew (n := 6) hx hb hno hfl hlocks hown (by decide) (by decide) (tx_own1 hts hX) (hts _ wd_328) (hts _ wd_329) (hts _ wd_12) (hl.1.trans hml.symm) d_Sw_unit_27 d_Sw_unit_30 d_Sw_unit_31 d_Sw_unit_34 (Nat.le_of_ble_eq_true rfl) (Nat.le_of_ble_eq_true rfl) (Nat.le_of_ble_eq_true rfl) (Nat.le_of_ble_eq_true rfl) (Nat.le_refl _)

theorem d_Sw_order_0 : decode b_Sw_order 0 = .ok (.iload_n 1, 1) := by decide +kernel
theorem d_Sw_order_1 : decode b_Sw_order 1 = .ok (.invokestatic 53, 3) := by decide +kernel
theorem d_Sw_order_4 : decode b_Sw_order 4 = .ok (.ifCond .eq 23, 3) := by decide +kernel
theorem d_Sw_order_7 : decode b_Sw_order 7 = .ok (.aload_n 0, 1) := by decide +kernel
theorem d_Sw_order_8 : decode b_Sw_order 8 = .ok (.getfield 13, 3) := by decide +kernel
theorem d_Sw_order_11 : decode b_Sw_order 11 = .ok (.iload_n 2, 1) := by decide +kernel
theorem d_Sw_order_12 : decode b_Sw_order 12 = .ok (.invokevirtual 71, 3) := by decide +kernel
theorem d_Sw_order_15 : decode b_Sw_order 15 = .ok (.ifCond .eq 12, 3) := by decide +kernel
theorem d_Sw_order_18 : decode b_Sw_order 18 = .ok (.iload_n 3, 1) := by decide +kernel
theorem d_Sw_order_19 : decode b_Sw_order 19 = .ok (.ifCond .lt 8, 3) := by decide +kernel
theorem d_Sw_order_22 : decode b_Sw_order 22 = .ok (.iload_n 3, 1) := by decide +kernel
theorem d_Sw_order_23 : decode b_Sw_order 23 = .ok (.iconst 3, 1) := by decide +kernel
theorem d_Sw_order_24 : decode b_Sw_order 24 = .ok (.if_icmp .le 11, 3) := by decide +kernel
theorem d_Sw_order_27 : decode b_Sw_order 27 = .ok (.new 50, 3) := by decide +kernel
theorem d_Sw_order_30 : decode b_Sw_order 30 = .ok (.dup, 1) := by decide +kernel
theorem d_Sw_order_31 : decode b_Sw_order 31 = .ok (.invokespecial 52, 3) := by decide +kernel
theorem d_Sw_order_34 : decode b_Sw_order 34 = .ok (.athrow, 1) := by decide +kernel
theorem d_Sw_order_35 : decode b_Sw_order 35 = .ok (.iload_n 3, 1) := by decide +kernel
theorem d_Sw_order_36 : decode b_Sw_order 36 = .ok (.invokestatic 94, 3) := by decide +kernel
theorem d_Sw_order_39 : decode b_Sw_order 39 = .ok (.ifCond .eq 15, 3) := by decide +kernel
theorem d_Sw_order_42 : decode b_Sw_order 42 = .ok (.aload_n 0, 1) := by decide +kernel
theorem d_Sw_order_43 : decode b_Sw_order 43 = .ok (.getfield 13, 3) := by decide +kernel
theorem d_Sw_order_46 : decode b_Sw_order 46 = .ok (.iload 4, 2) := by decide +kernel
theorem d_Sw_order_48 : decode b_Sw_order 48 = .ok (.invokevirtual 71, 3) := by decide +kernel
theorem d_Sw_order_51 : decode b_Sw_order 51 = .ok (.ifCond .eq 22, 3) := by decide +kernel
theorem d_Sw_order_54 : decode b_Sw_order 54 = .ok (.iload_n 3, 1) := by decide +kernel
theorem d_Sw_order_55 : decode b_Sw_order 55 = .ok (.invokestatic 97, 3) := by decide +kernel
theorem d_Sw_order_58 : decode b_Sw_order 58 = .ok (.ifCond .eq 23, 3) := by decide +kernel
theorem d_Sw_order_61 : decode b_Sw_order 61 = .ok (.aload_n 0, 1) := by decide +kernel
theorem d_Sw_order_62 : decode b_Sw_order 62 = .ok (.getfield 13, 3) := by decide +kernel
theorem d_Sw_order_65 : decode b_Sw_order 65 = .ok (.iload 5, 2) := by decide +kernel
theorem d_Sw_order_67 : decode b_Sw_order 67 = .ok (.invokevirtual 71, 3) := by decide +kernel
theorem d_Sw_order_70 : decode b_Sw_order 70 = .ok (.ifCond .ne 11, 3) := by decide +kernel
theorem d_Sw_order_73 : decode b_Sw_order 73 = .ok (.new 50, 3) := by decide +kernel
theorem d_Sw_order_76 : decode b_Sw_order 76 = .ok (.dup, 1) := by decide +kernel
theorem d_Sw_order_77 : decode b_Sw_order 77 = .ok (.invokespecial 52, 3) := by decide +kernel
theorem d_Sw_order_80 : decode b_Sw_order 80 = .ok (.athrow, 1) := by decide +kernel
theorem d_Sw_order_81 : decode b_Sw_order 81 = .ok (.aload_n 0, 1) := by decide +kernel
theorem d_Sw_order_82 : decode b_Sw_order 82 = .ok (.getfield 46, 3) := by decide +kernel
theorem d_Sw_order_85 : decode b_Sw_order 85 = .ok (.iconst 1, 1) := by decide +kernel
theorem d_Sw_order_86 : decode b_Sw_order 86 = .ok (.if_icmp .eq 11, 3) := by decide +kernel
theorem d_Sw_order_89 : decode b_Sw_order 89 = .ok (.new 60, 3) := by decide +kernel
theorem d_Sw_order_92 : decode b_Sw_order 92 = .ok (.dup, 1) := by decide +kernel
theorem d_Sw_order_93 : decode b_Sw_order 93 = .ok (.invokespecial 62, 3) := by decide +kernel
theorem d_Sw_order_96 : decode b_Sw_order 96 = .ok (.athrow, 1) := by decide +kernel
theorem d_Sw_order_97 : decode b_Sw_order 97 = .ok (.aload_n 0, 1) := by decide +kernel
theorem d_Sw_order_98 : decode b_Sw_order 98 = .ok (.getfield 19, 3) := by decide +kernel
theorem d_Sw_order_101 : decode b_Sw_order 101 = .ok (.iload_n 2, 1) := by decide +kernel
theorem d_Sw_order_102 : decode b_Sw_order 102 = .ok (.invokevirtual 78, 3) := by decide +kernel
theorem d_Sw_order_105 : decode b_Sw_order 105 = .ok (.ifCond .eq 15, 3) := by decide +kernel
theorem d_Sw_order_108 : decode b_Sw_order 108 = .ok (.aload_n 0, 1) := by decide +kernel
theorem d_Sw_order_109 : decode b_Sw_order 109 = .ok (.getfield 19, 3) := by decide +kernel
theorem d_Sw_order_112 : decode b_Sw_order 112 = .ok (.iload_n 2, 1) := by decide +kernel
theorem d_Sw_order_113 : decode b_Sw_order 113 = .ok (.invokevirtual 100, 3) := by decide +kernel
theorem d_Sw_order_116 : decode b_Sw_order 116 = .ok (.iload_n 1, 1) := by decide +kernel
theorem d_Sw_order_117 : decode b_Sw_order 117 = .ok (.if_icmp .eq 5, 3) := by decide +kernel
theorem d_Sw_order_120 : decode b_Sw_order 120 = .ok (.iconst 1, 1) := by decide +kernel
theorem d_Sw_order_121 : decode b_Sw_order 121 = .ok (.ireturn, 1) := by decide +kernel
theorem d_Sw_order_122 : decode b_Sw_order 122 = .ok (.aload_n 0, 1) := by decide +kernel
theorem d_Sw_order_123 : decode b_Sw_order 123 = .ok (.iload_n 2, 1) := by decide +kernel
theorem d_Sw_order_124 : decode b_Sw_order 124 = .ok (.iload_n 3, 1) := by decide +kernel
theorem d_Sw_order_125 : decode b_Sw_order 125 = .ok (.iload 4, 2) := by decide +kernel
theorem d_Sw_order_127 : decode b_Sw_order 127 = .ok (.iload 5, 2) := by decide +kernel
theorem d_Sw_order_129 : decode b_Sw_order 129 = .ok (.invokevirtual 104, 3) := by decide +kernel
theorem d_Sw_order_132 : decode b_Sw_order 132 = .ok (.ifCond .ne 5, 3) := by decide +kernel
theorem d_Sw_order_135 : decode b_Sw_order 135 = .ok (.iconst 2, 1) := by decide +kernel
theorem d_Sw_order_136 : decode b_Sw_order 136 = .ok (.ireturn, 1) := by decide +kernel
theorem d_Sw_order_137 : decode b_Sw_order 137 = .ok (.aload_n 0, 1) := by decide +kernel
theorem d_Sw_order_138 : decode b_Sw_order 138 = .ok (.getfield 19, 3) := by decide +kernel
theorem d_Sw_order_141 : decode b_Sw_order 141 = .ok (.iload_n 2, 1) := by decide +kernel
theorem d_Sw_order_142 : decode b_Sw_order 142 = .ok (.iload_n 3, 1) := by decide +kernel
theorem d_Sw_order_143 : decode b_Sw_order 143 = .ok (.iload_n 3, 1) := by decide +kernel
theorem d_Sw_order_144 : decode b_Sw_order 144 = .ok (.invokestatic 94, 3) := by decide +kernel
theorem d_Sw_order_147 : decode b_Sw_order 147 = .ok (.ifCond .eq 8, 3) := by decide +kernel
theorem d_Sw_order_150 : decode b_Sw_order 150 = .ok (.iload 4, 2) := by decide +kernel
theorem d_Sw_order_152 : decode b_Sw_order 152 = .ok (.goto 4, 3) := by decide +kernel
theorem d_Sw_order_155 : decode b_Sw_order 155 = .ok (.iconst 0, 1) := by decide +kernel
theorem d_Sw_order_156 : decode b_Sw_order 156 = .ok (.iload_n 3, 1) := by decide +kernel
theorem d_Sw_order_157 : decode b_Sw_order 157 = .ok (.invokestatic 97, 3) := by decide +kernel
theorem d_Sw_order_160 : decode b_Sw_order 160 = .ok (.ifCond .eq 8, 3) := by decide +kernel
theorem d_Sw_order_163 : decode b_Sw_order 163 = .ok (.iload 5, 2) := by decide +kernel
theorem d_Sw_order_165 : decode b_Sw_order 165 = .ok (.goto 4, 3) := by decide +kernel
theorem d_Sw_order_168 : decode b_Sw_order 168 = .ok (.iconst 0, 1) := by decide +kernel
theorem d_Sw_order_169 : decode b_Sw_order 169 = .ok (.invokevirtual 108, 3) := by decide +kernel
theorem d_Sw_order_172 : decode b_Sw_order 172 = .ok (.iconst 0, 1) := by decide +kernel
theorem d_Sw_order_173 : decode b_Sw_order 173 = .ok (.ireturn, 1) := by decide +kernel

set_option maxHeartbeats 4000000 in
set_option maxRecDepth 100000 in
theorem c_Sw_order_t0 (l : Launch) (D : va_G) (cI cZ cJ cS : ClassId) (aT : Nat) (ceT : Cell) (h0 hm hh he ha hp : Nat) (ph : Int32) (qh qn : Nat) (seas cen : Int32) (pl a k x y : Int32)  (hfl : l.flags = pinnedFlags ++ [noTraceFlag]) : MetT l y_Sw_order w_Sw_order ({ frames := 6, cells := 1, slots := 6, locals := 82 }) (tP D cI cZ cJ cS aT ceT [.ref h0, .int pl, .int a, .int k, .int x, .int y] [(h0, .inr (5, [.ref hm, .ref hh, .ref he, .ref ha, .ref hp, .int ph])), (hm, .inr (4, [.int 0, .int seas, .int cen, .ref qh, .ref qn]))]) tx_iae 1 6 := by
  refine MetT.ofW (cc := b_Sw_order) (maxL := 6) (ret := (some .int)) (by decide) rfl ?_
  intro p e s m args below meth c s₁ B hml hv
  obtain ⟨rfl, hP, hK, hX⟩ := hv
  have hx := B.exec
  have hb := B.bytes
  have hr := B.returns
  have hts0 := atoms_spec (ws := w_Sw_order) B.pre
  have hts : ∀ w ∈ TB, w.before _ s = true := fun w h => hts0 w (List.mem_cons_of_mem _ h)
  have hno := B.noHandlers (hts0 _ (List.mem_cons_self ..))
  have hown : s.vm.findClass R_Sw = some m.cls := findClass_of_methodNamed B.named
  have hlocks := B.notSynchronized
  have hXH : s.heap[aT]? = s.heap[aT]? := rfl
  have hl := lv_entry ([.ref h0, .int pl, .int a, .int k, .int x, .int y]) (n := 6) (Nat.le_of_ble_eq_true rfl)
  rw [lg_entry_eq]
  generalize (lg_sl ([.ref h0, .int pl, .int a, .int k, .int x, .int y]) ++ List.replicate (6 - (lg_sl ([.ref h0, .int pl, .int a, .int k, .int x, .int y])).length) Slot.unset).toArray = ls at hl ⊢
  have hl : lv_has ls 6 [(0, .ref h0), (1, .int pl), (2, .int a), (3, .int k), (4, .int x), (5, .int y)] := hl
  refine lv_iload_n hx hb d_Sw_order_0 rfl (lv_at hl 1 rfl) ?_
  have hPc := hP.sub (ws' := []) [] rfl
  refine vp_callSi (va_Run.run (va_runS (As := [.int pl]) (rest := []) ⟨hx, hb, hml, hown, hts⟩ (c_Sw_isPlayer l D cI cZ cJ cS aT ceT  pl ) (va_cwS 1 hts (tb_3 wd_299 wd_300 wd_1 (tb_c wd_301)) rfl rfl rfl ⟨by decide, by decide, by decide +kernel⟩ ⟨Nat.le_of_ble_eq_true rfl, Nat.le_of_ble_eq_true rfl⟩) (tP_S hK hX hXH hPc) rfl rfl hl.1 rfl (lv_room (Nat.le_of_ble_eq_true rfl)) d_Sw_order_1 ⟨Nat.le_of_ble_eq_true rfl, Nat.le_of_ble_eq_true rfl⟩)) (fun r1 hr9 => ?_)
  rcases hr9 with ⟨rfl, hq2⟩ | ⟨rfl, hq2⟩
  · -- 1: true
    refine lv_if_eq (tgt := 27) hx hb d_Sw_order_4 (by decide) (fun h0 => absurd h0 (by decide)) (fun _ => ?_)
    refine lv_aload_n hx hb d_Sw_order_7 rfl (lv_at hl 0 rfl) ?_
    refine va_get (D := D) (ci := 5) (v := .ref hm) (C := R_Sw) (T := T_Sw) (N := 6) hx hb hts hin_Sw hown hK hP 0 rfl rfl 0 (by decide) (hts _ wd_201) (fun _ h9 => h9) rfl d_Sw_order_8 ?_
    refine lv_iload_n hx hb d_Sw_order_11 rfl (lv_at hl 2 rfl) ?_
    have hPc := hP.sub (ws' := [(hm, .inr (4, [.int 0, .int seas, .int cen, .ref qh, .ref qn]))]) [1] rfl
    refine vp_callSi (va_Run.run (va_runV (As := [.int a]) (rest := []) ⟨hx, hb, hml, hown, hts⟩ (c_Wm_has l D cI cZ cJ cS aT ceT  hm qh qn 0 seas cen a ) (cwV 1 hts (tb_4 wd_224 wd_225 wd_226 wd_2 (tb_c wd_227)) rfl rfl rfl ⟨rfl, by decide, by decide, by decide +kernel⟩ ⟨Nat.le_of_ble_eq_true rfl, Nat.le_of_ble_eq_true rfl⟩) (tP_V hK hX hXH hPc (q := 0) rfl rfl) rfl rfl hl.1 rfl (lv_room (Nat.le_of_ble_eq_true rfl)) d_Sw_order_12 ⟨Nat.le_of_ble_eq_true rfl, Nat.le_of_ble_eq_true rfl⟩)) (fun r4 hr9 => ?_)
    rcases hr9 with ⟨rfl, hq5⟩ | ⟨rfl, hq5⟩
    · exact absurd hq5 tn_no
    · -- 12: false
      refine lv_if_eq (tgt := 27) hx hb d_Sw_order_15 (by decide) (fun _ => ?_) (fun h0 => absurd (by decide) h0)
      exact tx_throwNew (n := 6) hx hb hno hfl hlocks hown (by decide) (by decide) (tx_own1 hts hX) (hts _ wd_328) (hts _ wd_329) (hts _ wd_12) (hl.1.trans hml.symm) d_Sw_order_27 d_Sw_order_30 d_Sw_order_31 d_Sw_order_34 (Nat.le_of_ble_eq_true rfl) (Nat.le_of_ble_eq_true rfl) (Nat.le_of_ble_eq_true rfl) (Nat.le_of_ble_eq_true rfl) (Nat.le_refl _)
  · -- 1: false
    refine lv_if_eq (tgt := 27) hx hb d_Sw_order_4 (by decide) (fun _ => ?_) (fun h0 => absurd (by decide) h0)
    exact tx_throwNew (n := 6) hx hb hno hfl hlocks hown (by decide) (by decide) (tx_own1 hts hX) (hts _ wd_328) (hts _ wd_329) (hts _ wd_12) (hl.1.trans hml.symm) d_Sw_order_27 d_Sw_order_30 d_Sw_order_31 d_Sw_order_34 (Nat.le_of_ble_eq_true rfl) (Nat.le_of_ble_eq_true rfl) (Nat.le_of_ble_eq_true rfl) (Nat.le_of_ble_eq_true rfl) (Nat.le_refl _)

theorem d_Sw_resolve_0 : decode b_Sw_resolve 0 = .ok (.aload_n 0, 1) := by decide +kernel
theorem d_Sw_resolve_1 : decode b_Sw_resolve 1 = .ok (.getfield 46, 3) := by decide +kernel
theorem d_Sw_resolve_4 : decode b_Sw_resolve 4 = .ok (.iconst 1, 1) := by decide +kernel
theorem d_Sw_resolve_5 : decode b_Sw_resolve 5 = .ok (.if_icmp .eq 11, 3) := by decide +kernel
theorem d_Sw_resolve_8 : decode b_Sw_resolve 8 = .ok (.new 60, 3) := by decide +kernel
theorem d_Sw_resolve_11 : decode b_Sw_resolve 11 = .ok (.dup, 1) := by decide +kernel
theorem d_Sw_resolve_12 : decode b_Sw_resolve 12 = .ok (.invokespecial 62, 3) := by decide +kernel
theorem d_Sw_resolve_15 : decode b_Sw_resolve 15 = .ok (.athrow, 1) := by decide +kernel
theorem d_Sw_resolve_16 : decode b_Sw_resolve 16 = .ok (.aload_n 0, 1) := by decide +kernel
theorem d_Sw_resolve_17 : decode b_Sw_resolve 17 = .ok (.getfield 42, 3) := by decide +kernel
theorem d_Sw_resolve_20 : decode b_Sw_resolve 20 = .ok (.aload_n 0, 1) := by decide +kernel
theorem d_Sw_resolve_21 : decode b_Sw_resolve 21 = .ok (.getfield 19, 3) := by decide +kernel
theorem d_Sw_resolve_24 : decode b_Sw_resolve 24 = .ok (.invokevirtual 112, 3) := by decide +kernel
theorem d_Sw_resolve_27 : decode b_Sw_resolve 27 = .ok (.aload_n 0, 1) := by decide +kernel
theorem d_Sw_resolve_28 : decode b_Sw_resolve 28 = .ok (.getfield 28, 3) := by decide +kernel
theorem d_Sw_resolve_31 : decode b_Sw_resolve 31 = .ok (.invokevirtual 116, 3) := by decide +kernel
theorem d_Sw_resolve_34 : decode b_Sw_resolve 34 = .ok (.aload_n 0, 1) := by decide +kernel
theorem d_Sw_resolve_35 : decode b_Sw_resolve 35 = .ok (.getfield 28, 3) := by decide +kernel
theorem d_Sw_resolve_38 : decode b_Sw_resolve 38 = .ok (.invokevirtual 119, 3) := by decide +kernel
theorem d_Sw_resolve_41 : decode b_Sw_resolve 41 = .ok (.aload_n 0, 1) := by decide +kernel
theorem d_Sw_resolve_42 : decode b_Sw_resolve 42 = .ok (.getfield 28, 3) := by decide +kernel
theorem d_Sw_resolve_45 : decode b_Sw_resolve 45 = .ok (.aload_n 0, 1) := by decide +kernel
theorem d_Sw_resolve_46 : decode b_Sw_resolve 46 = .ok (.getfield 35, 3) := by decide +kernel
theorem d_Sw_resolve_49 : decode b_Sw_resolve 49 = .ok (.invokevirtual 122, 3) := by decide +kernel
theorem d_Sw_resolve_52 : decode b_Sw_resolve 52 = .ok (.aload_n 0, 1) := by decide +kernel
theorem d_Sw_resolve_53 : decode b_Sw_resolve 53 = .ok (.getfield 35, 3) := by decide +kernel
theorem d_Sw_resolve_56 : decode b_Sw_resolve 56 = .ok (.invokevirtual 126, 3) := by decide +kernel
theorem d_Sw_resolve_59 : decode b_Sw_resolve 59 = .ok (.ifCond .eq 10, 3) := by decide +kernel
theorem d_Sw_resolve_62 : decode b_Sw_resolve 62 = .ok (.aload_n 0, 1) := by decide +kernel
theorem d_Sw_resolve_63 : decode b_Sw_resolve 63 = .ok (.invokevirtual 130, 3) := by decide +kernel
theorem d_Sw_resolve_66 : decode b_Sw_resolve 66 = .ok (.goto 8, 3) := by decide +kernel
theorem d_Sw_resolve_69 : decode b_Sw_resolve 69 = .ok (.aload_n 0, 1) := by decide +kernel
theorem d_Sw_resolve_70 : decode b_Sw_resolve 70 = .ok (.iconst 2, 1) := by decide +kernel
theorem d_Sw_resolve_71 : decode b_Sw_resolve 71 = .ok (.putfield 46, 3) := by decide +kernel
theorem d_Sw_resolve_74 : decode b_Sw_resolve 74 = .ok (.aload_n 0, 1) := by decide +kernel
theorem d_Sw_resolve_75 : decode b_Sw_resolve 75 = .ok (.getfield 28, 3) := by decide +kernel
theorem d_Sw_resolve_78 : decode b_Sw_resolve 78 = .ok (.invokevirtual 133, 3) := by decide +kernel
theorem d_Sw_resolve_81 : decode b_Sw_resolve 81 = .ok (.ireturn, 1) := by decide +kernel
theorem wd_390 : (Cond.classLink "SheetWar" (60 : Nat) "java/lang/IllegalStateException") ∈ TB := tb_t 390 (by decide +kernel) (by decide +kernel)
theorem wd_391 : (Cond.instantiable "java/lang/IllegalStateException" (6 : Nat)) ∈ TB := tb_t 391 (by decide +kernel) (by decide +kernel)
theorem wd_13 : (Cond.initialized "java/lang/IllegalStateException") ∈ TB := tb_t 13 (by decide +kernel) (by decide +kernel)
set_option maxHeartbeats 4000000 in
set_option maxRecDepth 100000 in
theorem c_Sw_resolve_t2 (l : Launch) (D : va_G) (cI cZ cJ cS : ClassId) (aT : Nat) (ceT : Cell) (h0 hm hh he ha hp : Nat) (ph : Int32) (hph : ¬ ph = 1) (hfl : l.flags = pinnedFlags ++ [noTraceFlag]) : MetT l y_Sw_resolve w_Sw_resolve ({ frames := 6, cells := 1, slots := 6, locals := 82 }) (tP D cI cZ cJ cS aT ceT [.ref h0] [(h0, .inr (5, [.ref hm, .ref hh, .ref he, .ref ha, .ref hp, .int ph]))]) tx_ise 1 6 := by
  refine MetT.ofW (cc := b_Sw_resolve) (maxL := 1) (ret := (some .int)) (by decide) rfl ?_
  intro p e s m args below meth c s₁ B hml hv
  obtain ⟨rfl, hP, hK, hX⟩ := hv
  have hx := B.exec
  have hb := B.bytes
  have hr := B.returns
  have hts0 := atoms_spec (ws := w_Sw_resolve) B.pre
  have hts : ∀ w ∈ TB, w.before _ s = true := fun w h => hts0 w (List.mem_cons_of_mem _ h)
  have hno := B.noHandlers (hts0 _ (List.mem_cons_self ..))
  have hown : s.vm.findClass R_Sw = some m.cls := findClass_of_methodNamed B.named
  have hlocks := B.notSynchronized
  have hXH : s.heap[aT]? = s.heap[aT]? := rfl
  have hl := lv_entry ([.ref h0]) (n := 1) (Nat.le_of_ble_eq_true rfl)
  rw [lg_entry_eq]
  generalize (lg_sl ([.ref h0]) ++ List.replicate (1 - (lg_sl ([.ref h0])).length) Slot.unset).toArray = ls at hl ⊢
  have hl : lv_has ls 1 [(0, .ref h0)] := hl
  refine lv_aload_n hx hb d_Sw_resolve_0 rfl (lv_at hl 0 rfl) ?_
  refine va_get (D := D) (ci := 5) (v := .int ph) (C := R_Sw) (T := T_Sw) (N := 6) hx hb hts hin_Sw hown hK hP 0 rfl rfl 5 (by decide) (hts _ wd_206) (fun _ h9 => h9) rfl d_Sw_resolve_1 ?_
  refine lv_iconst (v := 1) hx hb d_Sw_resolve_4 (by decide) ?_
  refine lv_icmp_eq (tgt := 16) hx hb d_Sw_resolve_5 (by decide) (fun hc1 => ?_) (fun hc1 => ?_)
  · -- 5 taken
    exact absurd hc1 hph
  · -- 5 not taken
    exact tx_throwNew (n := 6) hx hb hno hfl hlocks hown (by decide) (by decide) (tx_own2 hts hX) (hts _ wd_390) (hts _ wd_391) (hts _ wd_13) (hl.1.trans hml.symm) d_Sw_resolve_8 d_Sw_resolve_11 d_Sw_resolve_12 d_Sw_resolve_15 (Nat.le_of_ble_eq_true rfl) (Nat.le_of_ble_eq_true rfl) (Nat.le_of_ble_eq_true rfl) (Nat.le_of_ble_eq_true rfl) (Nat.le_refl _)

theorem d_Sw_retreat_0 : decode b_Sw_retreat 0 = .ok (.iload_n 1, 1) := by decide +kernel
theorem d_Sw_retreat_1 : decode b_Sw_retreat 1 = .ok (.invokestatic 53, 3) := by decide +kernel
theorem d_Sw_retreat_4 : decode b_Sw_retreat 4 = .ok (.ifCond .eq 25, 3) := by decide +kernel
theorem d_Sw_retreat_7 : decode b_Sw_retreat 7 = .ok (.aload_n 0, 1) := by decide +kernel
theorem d_Sw_retreat_8 : decode b_Sw_retreat 8 = .ok (.getfield 13, 3) := by decide +kernel
theorem d_Sw_retreat_11 : decode b_Sw_retreat 11 = .ok (.iload_n 2, 1) := by decide +kernel
theorem d_Sw_retreat_12 : decode b_Sw_retreat 12 = .ok (.invokevirtual 71, 3) := by decide +kernel
theorem d_Sw_retreat_15 : decode b_Sw_retreat 15 = .ok (.ifCond .eq 14, 3) := by decide +kernel
theorem d_Sw_retreat_18 : decode b_Sw_retreat 18 = .ok (.aload_n 0, 1) := by decide +kernel
theorem d_Sw_retreat_19 : decode b_Sw_retreat 19 = .ok (.getfield 13, 3) := by decide +kernel
theorem d_Sw_retreat_22 : decode b_Sw_retreat 22 = .ok (.iload_n 3, 1) := by decide +kernel
theorem d_Sw_retreat_23 : decode b_Sw_retreat 23 = .ok (.invokevirtual 71, 3) := by decide +kernel
theorem d_Sw_retreat_26 : decode b_Sw_retreat 26 = .ok (.ifCond .ne 11, 3) := by decide +kernel
theorem d_Sw_retreat_29 : decode b_Sw_retreat 29 = .ok (.new 50, 3) := by decide +kernel
theorem d_Sw_retreat_32 : decode b_Sw_retreat 32 = .ok (.dup, 1) := by decide +kernel
theorem d_Sw_retreat_33 : decode b_Sw_retreat 33 = .ok (.invokespecial 52, 3) := by decide +kernel
theorem d_Sw_retreat_36 : decode b_Sw_retreat 36 = .ok (.athrow, 1) := by decide +kernel
theorem d_Sw_retreat_37 : decode b_Sw_retreat 37 = .ok (.aload_n 0, 1) := by decide +kernel
theorem d_Sw_retreat_38 : decode b_Sw_retreat 38 = .ok (.getfield 46, 3) := by decide +kernel
theorem d_Sw_retreat_41 : decode b_Sw_retreat 41 = .ok (.iconst 2, 1) := by decide +kernel
theorem d_Sw_retreat_42 : decode b_Sw_retreat 42 = .ok (.if_icmp .eq 11, 3) := by decide +kernel
theorem d_Sw_retreat_45 : decode b_Sw_retreat 45 = .ok (.new 60, 3) := by decide +kernel
theorem d_Sw_retreat_48 : decode b_Sw_retreat 48 = .ok (.dup, 1) := by decide +kernel
theorem d_Sw_retreat_49 : decode b_Sw_retreat 49 = .ok (.invokespecial 62, 3) := by decide +kernel
theorem d_Sw_retreat_52 : decode b_Sw_retreat 52 = .ok (.athrow, 1) := by decide +kernel
theorem d_Sw_retreat_53 : decode b_Sw_retreat 53 = .ok (.aload_n 0, 1) := by decide +kernel
theorem d_Sw_retreat_54 : decode b_Sw_retreat 54 = .ok (.getfield 35, 3) := by decide +kernel
theorem d_Sw_retreat_57 : decode b_Sw_retreat 57 = .ok (.iload_n 2, 1) := by decide +kernel
theorem d_Sw_retreat_58 : decode b_Sw_retreat 58 = .ok (.invokevirtual 140, 3) := by decide +kernel
theorem d_Sw_retreat_61 : decode b_Sw_retreat 61 = .ok (.ifCond .eq 18, 3) := by decide +kernel
theorem d_Sw_retreat_64 : decode b_Sw_retreat 64 = .ok (.aload_n 0, 1) := by decide +kernel
theorem d_Sw_retreat_65 : decode b_Sw_retreat 65 = .ok (.getfield 35, 3) := by decide +kernel
theorem d_Sw_retreat_68 : decode b_Sw_retreat 68 = .ok (.getfield 141, 3) := by decide +kernel
theorem d_Sw_retreat_71 : decode b_Sw_retreat 71 = .ok (.iload_n 2, 1) := by decide +kernel
theorem d_Sw_retreat_72 : decode b_Sw_retreat 72 = .ok (.iaload, 1) := by decide +kernel
theorem d_Sw_retreat_73 : decode b_Sw_retreat 73 = .ok (.iconst 2, 1) := by decide +kernel
theorem d_Sw_retreat_74 : decode b_Sw_retreat 74 = .ok (.idiv, 1) := by decide +kernel
theorem d_Sw_retreat_75 : decode b_Sw_retreat 75 = .ok (.iload_n 1, 1) := by decide +kernel
theorem d_Sw_retreat_76 : decode b_Sw_retreat 76 = .ok (.if_icmp .eq 5, 3) := by decide +kernel
theorem d_Sw_retreat_79 : decode b_Sw_retreat 79 = .ok (.iconst 1, 1) := by decide +kernel
theorem d_Sw_retreat_80 : decode b_Sw_retreat 80 = .ok (.ireturn, 1) := by decide +kernel
theorem d_Sw_retreat_81 : decode b_Sw_retreat 81 = .ok (.aload_n 0, 1) := by decide +kernel
theorem d_Sw_retreat_82 : decode b_Sw_retreat 82 = .ok (.iload_n 2, 1) := by decide +kernel
theorem d_Sw_retreat_83 : decode b_Sw_retreat 83 = .ok (.iload_n 3, 1) := by decide +kernel
theorem d_Sw_retreat_84 : decode b_Sw_retreat 84 = .ok (.invokevirtual 142, 3) := by decide +kernel
theorem d_Sw_retreat_87 : decode b_Sw_retreat 87 = .ok (.ifCond .ne 5, 3) := by decide +kernel
theorem d_Sw_retreat_90 : decode b_Sw_retreat 90 = .ok (.iconst 2, 1) := by decide +kernel
theorem d_Sw_retreat_91 : decode b_Sw_retreat 91 = .ok (.ireturn, 1) := by decide +kernel
theorem d_Sw_retreat_92 : decode b_Sw_retreat 92 = .ok (.aload_n 0, 1) := by decide +kernel
theorem d_Sw_retreat_93 : decode b_Sw_retreat 93 = .ok (.getfield 35, 3) := by decide +kernel
theorem d_Sw_retreat_96 : decode b_Sw_retreat 96 = .ok (.getfield 145, 3) := by decide +kernel
theorem d_Sw_retreat_99 : decode b_Sw_retreat 99 = .ok (.iload_n 2, 1) := by decide +kernel
theorem d_Sw_retreat_100 : decode b_Sw_retreat 100 = .ok (.iload_n 3, 1) := by decide +kernel
theorem d_Sw_retreat_101 : decode b_Sw_retreat 101 = .ok (.iastore, 1) := by decide +kernel
theorem d_Sw_retreat_102 : decode b_Sw_retreat 102 = .ok (.iconst 0, 1) := by decide +kernel
theorem d_Sw_retreat_103 : decode b_Sw_retreat 103 = .ok (.ireturn, 1) := by decide +kernel

set_option maxHeartbeats 4000000 in
set_option maxRecDepth 100000 in
theorem c_Sw_retreat_t0 (l : Launch) (D : va_G) (cI cZ cJ cS : ClassId) (aT : Nat) (ceT : Cell) (h0 hm hh he ha hp : Nat) (ph : Int32) (qh qn : Nat) (seas cen : Int32) (pl a b : Int32)  (hfl : l.flags = pinnedFlags ++ [noTraceFlag]) : MetT l y_Sw_retreat w_Sw_retreat ({ frames := 6, cells := 1, slots := 6, locals := 82 }) (tP D cI cZ cJ cS aT ceT [.ref h0, .int pl, .int a, .int b] [(h0, .inr (5, [.ref hm, .ref hh, .ref he, .ref ha, .ref hp, .int ph])), (hm, .inr (4, [.int 0, .int seas, .int cen, .ref qh, .ref qn]))]) tx_iae 1 6 := by
  refine MetT.ofW (cc := b_Sw_retreat) (maxL := 4) (ret := (some .int)) (by decide) rfl ?_
  intro p e s m args below meth c s₁ B hml hv
  obtain ⟨rfl, hP, hK, hX⟩ := hv
  have hx := B.exec
  have hb := B.bytes
  have hr := B.returns
  have hts0 := atoms_spec (ws := w_Sw_retreat) B.pre
  have hts : ∀ w ∈ TB, w.before _ s = true := fun w h => hts0 w (List.mem_cons_of_mem _ h)
  have hno := B.noHandlers (hts0 _ (List.mem_cons_self ..))
  have hown : s.vm.findClass R_Sw = some m.cls := findClass_of_methodNamed B.named
  have hlocks := B.notSynchronized
  have hXH : s.heap[aT]? = s.heap[aT]? := rfl
  have hl := lv_entry ([.ref h0, .int pl, .int a, .int b]) (n := 4) (Nat.le_of_ble_eq_true rfl)
  rw [lg_entry_eq]
  generalize (lg_sl ([.ref h0, .int pl, .int a, .int b]) ++ List.replicate (4 - (lg_sl ([.ref h0, .int pl, .int a, .int b])).length) Slot.unset).toArray = ls at hl ⊢
  have hl : lv_has ls 4 [(0, .ref h0), (1, .int pl), (2, .int a), (3, .int b)] := hl
  refine lv_iload_n hx hb d_Sw_retreat_0 rfl (lv_at hl 1 rfl) ?_
  have hPc := hP.sub (ws' := []) [] rfl
  refine vp_callSi (va_Run.run (va_runS (As := [.int pl]) (rest := []) ⟨hx, hb, hml, hown, hts⟩ (c_Sw_isPlayer l D cI cZ cJ cS aT ceT  pl ) (va_cwS 1 hts (tb_3 wd_299 wd_300 wd_1 (tb_c wd_301)) rfl rfl rfl ⟨by decide, by decide, by decide +kernel⟩ ⟨Nat.le_of_ble_eq_true rfl, Nat.le_of_ble_eq_true rfl⟩) (tP_S hK hX hXH hPc) rfl rfl hl.1 rfl (lv_room (Nat.le_of_ble_eq_true rfl)) d_Sw_retreat_1 ⟨Nat.le_of_ble_eq_true rfl, Nat.le_of_ble_eq_true rfl⟩)) (fun r1 hr9 => ?_)
  rcases hr9 with ⟨rfl, hq2⟩ | ⟨rfl, hq2⟩
  · -- 1: true
    refine lv_if_eq (tgt := 29) hx hb d_Sw_retreat_4 (by decide) (fun h0 => absurd h0 (by decide)) (fun _ => ?_)
    refine lv_aload_n hx hb d_Sw_retreat_7 rfl (lv_at hl 0 rfl) ?_
    refine va_get (D := D) (ci := 5) (v := .ref hm) (C := R_Sw) (T := T_Sw) (N := 6) hx hb hts hin_Sw hown hK hP 0 rfl rfl 0 (by decide) (hts _ wd_201) (fun _ h9 => h9) rfl d_Sw_retreat_8 ?_
    refine lv_iload_n hx hb d_Sw_retreat_11 rfl (lv_at hl 2 rfl) ?_
    have hPc := hP.sub (ws' := [(hm, .inr (4, [.int 0, .int seas, .int cen, .ref qh, .ref qn]))]) [1] rfl
    refine vp_callSi (va_Run.run (va_runV (As := [.int a]) (rest := []) ⟨hx, hb, hml, hown, hts⟩ (c_Wm_has l D cI cZ cJ cS aT ceT  hm qh qn 0 seas cen a ) (cwV 1 hts (tb_4 wd_224 wd_225 wd_226 wd_2 (tb_c wd_227)) rfl rfl rfl ⟨rfl, by decide, by decide, by decide +kernel⟩ ⟨Nat.le_of_ble_eq_true rfl, Nat.le_of_ble_eq_true rfl⟩) (tP_V hK hX hXH hPc (q := 0) rfl rfl) rfl rfl hl.1 rfl (lv_room (Nat.le_of_ble_eq_true rfl)) d_Sw_retreat_12 ⟨Nat.le_of_ble_eq_true rfl, Nat.le_of_ble_eq_true rfl⟩)) (fun r4 hr9 => ?_)
    rcases hr9 with ⟨rfl, hq5⟩ | ⟨rfl, hq5⟩
    · exact absurd hq5 tn_no
    · -- 12: false
      refine lv_if_eq (tgt := 29) hx hb d_Sw_retreat_15 (by decide) (fun _ => ?_) (fun h0 => absurd (by decide) h0)
      exact tx_throwNew (n := 6) hx hb hno hfl hlocks hown (by decide) (by decide) (tx_own1 hts hX) (hts _ wd_328) (hts _ wd_329) (hts _ wd_12) (hl.1.trans hml.symm) d_Sw_retreat_29 d_Sw_retreat_32 d_Sw_retreat_33 d_Sw_retreat_36 (Nat.le_of_ble_eq_true rfl) (Nat.le_of_ble_eq_true rfl) (Nat.le_of_ble_eq_true rfl) (Nat.le_of_ble_eq_true rfl) (Nat.le_refl _)
  · -- 1: false
    refine lv_if_eq (tgt := 29) hx hb d_Sw_retreat_4 (by decide) (fun _ => ?_) (fun h0 => absurd (by decide) h0)
    exact tx_throwNew (n := 6) hx hb hno hfl hlocks hown (by decide) (by decide) (tx_own1 hts hX) (hts _ wd_328) (hts _ wd_329) (hts _ wd_12) (hl.1.trans hml.symm) d_Sw_retreat_29 d_Sw_retreat_32 d_Sw_retreat_33 d_Sw_retreat_36 (Nat.le_of_ble_eq_true rfl) (Nat.le_of_ble_eq_true rfl) (Nat.le_of_ble_eq_true rfl) (Nat.le_of_ble_eq_true rfl) (Nat.le_refl _)

theorem d_Sw_build_0 : decode b_Sw_build 0 = .ok (.iload_n 1, 1) := by decide +kernel
theorem d_Sw_build_1 : decode b_Sw_build 1 = .ok (.invokestatic 53, 3) := by decide +kernel
theorem d_Sw_build_4 : decode b_Sw_build 4 = .ok (.ifCond .eq 23, 3) := by decide +kernel
theorem d_Sw_build_7 : decode b_Sw_build 7 = .ok (.aload_n 0, 1) := by decide +kernel
theorem d_Sw_build_8 : decode b_Sw_build 8 = .ok (.getfield 13, 3) := by decide +kernel
theorem d_Sw_build_11 : decode b_Sw_build 11 = .ok (.iload_n 2, 1) := by decide +kernel
theorem d_Sw_build_12 : decode b_Sw_build 12 = .ok (.invokevirtual 71, 3) := by decide +kernel
theorem d_Sw_build_15 : decode b_Sw_build 15 = .ok (.ifCond .eq 12, 3) := by decide +kernel
theorem d_Sw_build_18 : decode b_Sw_build 18 = .ok (.iload_n 3, 1) := by decide +kernel
theorem d_Sw_build_19 : decode b_Sw_build 19 = .ok (.ifCond .lt 8, 3) := by decide +kernel
theorem d_Sw_build_22 : decode b_Sw_build 22 = .ok (.iload_n 3, 1) := by decide +kernel
theorem d_Sw_build_23 : decode b_Sw_build 23 = .ok (.iconst 2, 1) := by decide +kernel
theorem d_Sw_build_24 : decode b_Sw_build 24 = .ok (.if_icmp .le 11, 3) := by decide +kernel
theorem d_Sw_build_27 : decode b_Sw_build 27 = .ok (.new 50, 3) := by decide +kernel
theorem d_Sw_build_30 : decode b_Sw_build 30 = .ok (.dup, 1) := by decide +kernel
theorem d_Sw_build_31 : decode b_Sw_build 31 = .ok (.invokespecial 52, 3) := by decide +kernel
theorem d_Sw_build_34 : decode b_Sw_build 34 = .ok (.athrow, 1) := by decide +kernel
theorem d_Sw_build_35 : decode b_Sw_build 35 = .ok (.aload_n 0, 1) := by decide +kernel
theorem d_Sw_build_36 : decode b_Sw_build 36 = .ok (.getfield 46, 3) := by decide +kernel
theorem d_Sw_build_39 : decode b_Sw_build 39 = .ok (.iconst 3, 1) := by decide +kernel
theorem d_Sw_build_40 : decode b_Sw_build 40 = .ok (.if_icmp .eq 11, 3) := by decide +kernel
theorem d_Sw_build_43 : decode b_Sw_build 43 = .ok (.new 60, 3) := by decide +kernel
theorem d_Sw_build_46 : decode b_Sw_build 46 = .ok (.dup, 1) := by decide +kernel
theorem d_Sw_build_47 : decode b_Sw_build 47 = .ok (.invokespecial 62, 3) := by decide +kernel
theorem d_Sw_build_50 : decode b_Sw_build 50 = .ok (.athrow, 1) := by decide +kernel
theorem d_Sw_build_51 : decode b_Sw_build 51 = .ok (.iload_n 3, 1) := by decide +kernel
theorem d_Sw_build_52 : decode b_Sw_build 52 = .ok (.iconst 2, 1) := by decide +kernel
theorem d_Sw_build_53 : decode b_Sw_build 53 = .ok (.if_icmp .ne 12, 3) := by decide +kernel
theorem d_Sw_build_56 : decode b_Sw_build 56 = .ok (.aload_n 0, 1) := by decide +kernel
theorem d_Sw_build_57 : decode b_Sw_build 57 = .ok (.iload_n 1, 1) := by decide +kernel
theorem d_Sw_build_58 : decode b_Sw_build 58 = .ok (.iload_n 2, 1) := by decide +kernel
theorem d_Sw_build_59 : decode b_Sw_build 59 = .ok (.invokevirtual 148, 3) := by decide +kernel
theorem d_Sw_build_62 : decode b_Sw_build 62 = .ok (.goto 10, 3) := by decide +kernel
theorem d_Sw_build_65 : decode b_Sw_build 65 = .ok (.aload_n 0, 1) := by decide +kernel
theorem d_Sw_build_66 : decode b_Sw_build 66 = .ok (.iload_n 1, 1) := by decide +kernel
theorem d_Sw_build_67 : decode b_Sw_build 67 = .ok (.iload_n 2, 1) := by decide +kernel
theorem d_Sw_build_68 : decode b_Sw_build 68 = .ok (.iload_n 3, 1) := by decide +kernel
theorem d_Sw_build_69 : decode b_Sw_build 69 = .ok (.invokevirtual 151, 3) := by decide +kernel
theorem d_Sw_build_72 : decode b_Sw_build 72 = .ok (.ireturn, 1) := by decide +kernel

set_option maxHeartbeats 4000000 in
set_option maxRecDepth 100000 in
theorem c_Sw_build_t0 (l : Launch) (D : va_G) (cI cZ cJ cS : ClassId) (aT : Nat) (ceT : Cell) (h0 hm hh he ha hp : Nat) (ph : Int32) (qh qn : Nat) (seas cen : Int32) (pl a b : Int32)  (hfl : l.flags = pinnedFlags ++ [noTraceFlag]) : MetT l y_Sw_build w_Sw_build ({ frames := 6, cells := 1, slots := 6, locals := 82 }) (tP D cI cZ cJ cS aT ceT [.ref h0, .int pl, .int a, .int b] [(h0, .inr (5, [.ref hm, .ref hh, .ref he, .ref ha, .ref hp, .int ph])), (hm, .inr (4, [.int 0, .int seas, .int cen, .ref qh, .ref qn]))]) tx_iae 1 6 := by
  refine MetT.ofW (cc := b_Sw_build) (maxL := 4) (ret := (some .int)) (by decide) rfl ?_
  intro p e s m args below meth c s₁ B hml hv
  obtain ⟨rfl, hP, hK, hX⟩ := hv
  have hx := B.exec
  have hb := B.bytes
  have hr := B.returns
  have hts0 := atoms_spec (ws := w_Sw_build) B.pre
  have hts : ∀ w ∈ TB, w.before _ s = true := fun w h => hts0 w (List.mem_cons_of_mem _ h)
  have hno := B.noHandlers (hts0 _ (List.mem_cons_self ..))
  have hown : s.vm.findClass R_Sw = some m.cls := findClass_of_methodNamed B.named
  have hlocks := B.notSynchronized
  have hXH : s.heap[aT]? = s.heap[aT]? := rfl
  have hl := lv_entry ([.ref h0, .int pl, .int a, .int b]) (n := 4) (Nat.le_of_ble_eq_true rfl)
  rw [lg_entry_eq]
  generalize (lg_sl ([.ref h0, .int pl, .int a, .int b]) ++ List.replicate (4 - (lg_sl ([.ref h0, .int pl, .int a, .int b])).length) Slot.unset).toArray = ls at hl ⊢
  have hl : lv_has ls 4 [(0, .ref h0), (1, .int pl), (2, .int a), (3, .int b)] := hl
  refine lv_iload_n hx hb d_Sw_build_0 rfl (lv_at hl 1 rfl) ?_
  have hPc := hP.sub (ws' := []) [] rfl
  refine vp_callSi (va_Run.run (va_runS (As := [.int pl]) (rest := []) ⟨hx, hb, hml, hown, hts⟩ (c_Sw_isPlayer l D cI cZ cJ cS aT ceT  pl ) (va_cwS 1 hts (tb_3 wd_299 wd_300 wd_1 (tb_c wd_301)) rfl rfl rfl ⟨by decide, by decide, by decide +kernel⟩ ⟨Nat.le_of_ble_eq_true rfl, Nat.le_of_ble_eq_true rfl⟩) (tP_S hK hX hXH hPc) rfl rfl hl.1 rfl (lv_room (Nat.le_of_ble_eq_true rfl)) d_Sw_build_1 ⟨Nat.le_of_ble_eq_true rfl, Nat.le_of_ble_eq_true rfl⟩)) (fun r1 hr9 => ?_)
  rcases hr9 with ⟨rfl, hq2⟩ | ⟨rfl, hq2⟩
  · -- 1: true
    refine lv_if_eq (tgt := 27) hx hb d_Sw_build_4 (by decide) (fun h0 => absurd h0 (by decide)) (fun _ => ?_)
    refine lv_aload_n hx hb d_Sw_build_7 rfl (lv_at hl 0 rfl) ?_
    refine va_get (D := D) (ci := 5) (v := .ref hm) (C := R_Sw) (T := T_Sw) (N := 6) hx hb hts hin_Sw hown hK hP 0 rfl rfl 0 (by decide) (hts _ wd_201) (fun _ h9 => h9) rfl d_Sw_build_8 ?_
    refine lv_iload_n hx hb d_Sw_build_11 rfl (lv_at hl 2 rfl) ?_
    have hPc := hP.sub (ws' := [(hm, .inr (4, [.int 0, .int seas, .int cen, .ref qh, .ref qn]))]) [1] rfl
    refine vp_callSi (va_Run.run (va_runV (As := [.int a]) (rest := []) ⟨hx, hb, hml, hown, hts⟩ (c_Wm_has l D cI cZ cJ cS aT ceT  hm qh qn 0 seas cen a ) (cwV 1 hts (tb_4 wd_224 wd_225 wd_226 wd_2 (tb_c wd_227)) rfl rfl rfl ⟨rfl, by decide, by decide, by decide +kernel⟩ ⟨Nat.le_of_ble_eq_true rfl, Nat.le_of_ble_eq_true rfl⟩) (tP_V hK hX hXH hPc (q := 0) rfl rfl) rfl rfl hl.1 rfl (lv_room (Nat.le_of_ble_eq_true rfl)) d_Sw_build_12 ⟨Nat.le_of_ble_eq_true rfl, Nat.le_of_ble_eq_true rfl⟩)) (fun r4 hr9 => ?_)
    rcases hr9 with ⟨rfl, hq5⟩ | ⟨rfl, hq5⟩
    · exact absurd hq5 tn_no
    · -- 12: false
      refine lv_if_eq (tgt := 27) hx hb d_Sw_build_15 (by decide) (fun _ => ?_) (fun h0 => absurd (by decide) h0)
      exact tx_throwNew (n := 6) hx hb hno hfl hlocks hown (by decide) (by decide) (tx_own1 hts hX) (hts _ wd_328) (hts _ wd_329) (hts _ wd_12) (hl.1.trans hml.symm) d_Sw_build_27 d_Sw_build_30 d_Sw_build_31 d_Sw_build_34 (Nat.le_of_ble_eq_true rfl) (Nat.le_of_ble_eq_true rfl) (Nat.le_of_ble_eq_true rfl) (Nat.le_of_ble_eq_true rfl) (Nat.le_refl _)
  · -- 1: false
    refine lv_if_eq (tgt := 27) hx hb d_Sw_build_4 (by decide) (fun _ => ?_) (fun h0 => absurd (by decide) h0)
    exact tx_throwNew (n := 6) hx hb hno hfl hlocks hown (by decide) (by decide) (tx_own1 hts hX) (hts _ wd_328) (hts _ wd_329) (hts _ wd_12) (hl.1.trans hml.symm) d_Sw_build_27 d_Sw_build_30 d_Sw_build_31 d_Sw_build_34 (Nat.le_of_ble_eq_true rfl) (Nat.le_of_ble_eq_true rfl) (Nat.le_of_ble_eq_true rfl) (Nat.le_of_ble_eq_true rfl) (Nat.le_refl _)

theorem d_Sw_finish_0 : decode b_Sw_finish 0 = .ok (.aload_n 0, 1) := by decide +kernel
theorem d_Sw_finish_1 : decode b_Sw_finish 1 = .ok (.getfield 46, 3) := by decide +kernel
theorem d_Sw_finish_4 : decode b_Sw_finish 4 = .ok (.iconst 2, 1) := by decide +kernel
theorem d_Sw_finish_5 : decode b_Sw_finish 5 = .ok (.if_icmp .ne 21, 3) := by decide +kernel
theorem d_Sw_finish_8 : decode b_Sw_finish 8 = .ok (.aload_n 0, 1) := by decide +kernel
theorem d_Sw_finish_9 : decode b_Sw_finish 9 = .ok (.getfield 35, 3) := by decide +kernel
theorem d_Sw_finish_12 : decode b_Sw_finish 12 = .ok (.aload_n 0, 1) := by decide +kernel
theorem d_Sw_finish_13 : decode b_Sw_finish 13 = .ok (.getfield 19, 3) := by decide +kernel
theorem d_Sw_finish_16 : decode b_Sw_finish 16 = .ok (.invokevirtual 155, 3) := by decide +kernel
theorem d_Sw_finish_19 : decode b_Sw_finish 19 = .ok (.aload_n 0, 1) := by decide +kernel
theorem d_Sw_finish_20 : decode b_Sw_finish 20 = .ok (.invokevirtual 130, 3) := by decide +kernel
theorem d_Sw_finish_23 : decode b_Sw_finish 23 = .ok (.goto 30, 3) := by decide +kernel
theorem d_Sw_finish_26 : decode b_Sw_finish 26 = .ok (.aload_n 0, 1) := by decide +kernel
theorem d_Sw_finish_27 : decode b_Sw_finish 27 = .ok (.getfield 46, 3) := by decide +kernel
theorem d_Sw_finish_30 : decode b_Sw_finish 30 = .ok (.iconst 3, 1) := by decide +kernel
theorem d_Sw_finish_31 : decode b_Sw_finish 31 = .ok (.if_icmp .ne 14, 3) := by decide +kernel
theorem d_Sw_finish_34 : decode b_Sw_finish 34 = .ok (.aload_n 0, 1) := by decide +kernel
theorem d_Sw_finish_35 : decode b_Sw_finish 35 = .ok (.invokevirtual 158, 3) := by decide +kernel
theorem d_Sw_finish_38 : decode b_Sw_finish 38 = .ok (.aload_n 0, 1) := by decide +kernel
theorem d_Sw_finish_39 : decode b_Sw_finish 39 = .ok (.invokevirtual 91, 3) := by decide +kernel
theorem d_Sw_finish_42 : decode b_Sw_finish 42 = .ok (.goto 11, 3) := by decide +kernel
theorem d_Sw_finish_45 : decode b_Sw_finish 45 = .ok (.new 60, 3) := by decide +kernel
theorem d_Sw_finish_48 : decode b_Sw_finish 48 = .ok (.dup, 1) := by decide +kernel
theorem d_Sw_finish_49 : decode b_Sw_finish 49 = .ok (.invokespecial 62, 3) := by decide +kernel
theorem d_Sw_finish_52 : decode b_Sw_finish 52 = .ok (.athrow, 1) := by decide +kernel
theorem d_Sw_finish_53 : decode b_Sw_finish 53 = .ok (.aload_n 0, 1) := by decide +kernel
theorem d_Sw_finish_54 : decode b_Sw_finish 54 = .ok (.getfield 46, 3) := by decide +kernel
theorem d_Sw_finish_57 : decode b_Sw_finish 57 = .ok (.ireturn, 1) := by decide +kernel

set_option maxHeartbeats 4000000 in
set_option maxRecDepth 100000 in
theorem c_Sw_finish_t2 (l : Launch) (D : va_G) (cI cZ cJ cS : ClassId) (aT : Nat) (ceT : Cell) (h0 hm hh he ha hp : Nat) (ph : Int32) (hph : ¬ ph = 2 ∧ ¬ ph = 3) (hfl : l.flags = pinnedFlags ++ [noTraceFlag]) : MetT l y_Sw_finish w_Sw_finish ({ frames := 6, cells := 1, slots := 6, locals := 82 }) (tP D cI cZ cJ cS aT ceT [.ref h0] [(h0, .inr (5, [.ref hm, .ref hh, .ref he, .ref ha, .ref hp, .int ph]))]) tx_ise 1 6 := by
  refine MetT.ofW (cc := b_Sw_finish) (maxL := 1) (ret := (some .int)) (by decide) rfl ?_
  intro p e s m args below meth c s₁ B hml hv
  obtain ⟨rfl, hP, hK, hX⟩ := hv
  have hx := B.exec
  have hb := B.bytes
  have hr := B.returns
  have hts0 := atoms_spec (ws := w_Sw_finish) B.pre
  have hts : ∀ w ∈ TB, w.before _ s = true := fun w h => hts0 w (List.mem_cons_of_mem _ h)
  have hno := B.noHandlers (hts0 _ (List.mem_cons_self ..))
  have hown : s.vm.findClass R_Sw = some m.cls := findClass_of_methodNamed B.named
  have hlocks := B.notSynchronized
  have hXH : s.heap[aT]? = s.heap[aT]? := rfl
  have hl := lv_entry ([.ref h0]) (n := 1) (Nat.le_of_ble_eq_true rfl)
  rw [lg_entry_eq]
  generalize (lg_sl ([.ref h0]) ++ List.replicate (1 - (lg_sl ([.ref h0])).length) Slot.unset).toArray = ls at hl ⊢
  have hl : lv_has ls 1 [(0, .ref h0)] := hl
  refine lv_aload_n hx hb d_Sw_finish_0 rfl (lv_at hl 0 rfl) ?_
  refine va_get (D := D) (ci := 5) (v := .int ph) (C := R_Sw) (T := T_Sw) (N := 6) hx hb hts hin_Sw hown hK hP 0 rfl rfl 5 (by decide) (hts _ wd_206) (fun _ h9 => h9) rfl d_Sw_finish_1 ?_
  refine lv_iconst (v := 2) hx hb d_Sw_finish_4 (by decide) ?_
  refine lv_icmp_ne (tgt := 26) hx hb d_Sw_finish_5 (by decide) (fun hc1 => ?_) (fun hc1 => ?_)
  · -- 5 taken
    refine lv_aload_n hx hb d_Sw_finish_26 rfl (lv_at hl 0 rfl) ?_
    refine va_get (D := D) (ci := 5) (v := .int ph) (C := R_Sw) (T := T_Sw) (N := 6) hx hb hts hin_Sw hown hK hP 0 rfl rfl 5 (by decide) (hts _ wd_206) (fun _ h9 => h9) rfl d_Sw_finish_27 ?_
    refine lv_iconst (v := 3) hx hb d_Sw_finish_30 (by decide) ?_
    refine lv_icmp_ne (tgt := 45) hx hb d_Sw_finish_31 (by decide) (fun hc2 => ?_) (fun hc2 => ?_)
    · -- 31 taken
      exact tx_throwNew (n := 6) hx hb hno hfl hlocks hown (by decide) (by decide) (tx_own2 hts hX) (hts _ wd_390) (hts _ wd_391) (hts _ wd_13) (hl.1.trans hml.symm) d_Sw_finish_45 d_Sw_finish_48 d_Sw_finish_49 d_Sw_finish_52 (Nat.le_of_ble_eq_true rfl) (Nat.le_of_ble_eq_true rfl) (Nat.le_of_ble_eq_true rfl) (Nat.le_of_ble_eq_true rfl) (Nat.le_refl _)
    · -- 31 not taken
      exact absurd (by simpa using hc2) hph.2
  · -- 5 not taken
    exact absurd (by simpa using hc1) hph.1
