theorem d_Wm_has_0 : decode b_Wm_has 0 = .ok (.iload_n 1, 1) := by decide +kernel
theorem d_Wm_has_1 : decode b_Wm_has 1 = .ok (.ifCond .lt 15, 3) := by decide +kernel
theorem d_Wm_has_4 : decode b_Wm_has 4 = .ok (.iload_n 1, 1) := by decide +kernel
theorem d_Wm_has_5 : decode b_Wm_has 5 = .ok (.aload_n 0, 1) := by decide +kernel
theorem d_Wm_has_6 : decode b_Wm_has 6 = .ok (.getfield 18, 3) := by decide +kernel
theorem d_Wm_has_9 : decode b_Wm_has 9 = .ok (.if_icmp .ge 7, 3) := by decide +kernel
theorem d_Wm_has_12 : decode b_Wm_has 12 = .ok (.iconst 1, 1) := by decide +kernel
theorem d_Wm_has_13 : decode b_Wm_has 13 = .ok (.goto 4, 3) := by decide +kernel
theorem d_Wm_has_16 : decode b_Wm_has 16 = .ok (.iconst 0, 1) := by decide +kernel
theorem d_Wm_has_17 : decode b_Wm_has 17 = .ok (.ireturn, 1) := by decide +kernel
theorem wd_31 : (Cond.fieldLink "SheetWar$WarMap" (18 : Nat) "SheetWar$WarMap" "size" "I") ∈ TB := tb_t 31 (by decide +kernel) (by decide +kernel)
set_option maxHeartbeats 4000000 in
set_option maxRecDepth 100000 in
theorem c_Wm_has (l : Launch) (D : va_G) (cI cZ cJ cS : ClassId) (aT : Nat) (ceT : Cell) (h0 qh qn : Nat) (n seas cen : Int32) (a : Int32)  : Met l y_Wm_has w_Wm_has ({ frames := 0, cells := 0, slots := 0, locals := 0 }) (tP D cI cZ cJ cS aT ceT [.ref h0, .int a] [(h0, .inr (4, [.int n, .int seas, .int cen, .ref qh, .ref qn]))]) (vp_Si (fun r => (r = 1 ∧ (0 ≤ a ∧ a < n)) ∨ (r = 0 ∧ ¬ (0 ≤ a ∧ a < n)))) 0 0 (fun _ => False) := by
  refine Met.ofW (cc := b_Wm_has) (maxL := 2) (ret := (some .boolean)) (by decide) rfl ?_
  intro p e s m args below meth c s₁ B hml hv
  obtain ⟨rfl, hP, hK, hX⟩ := hv
  have hx := B.exec
  have hb := B.bytes
  have hr := B.returns
  have hts0 := atoms_spec (ws := w_Wm_has) B.pre
  have hts : ∀ w ∈ TB, w.before _ s = true := fun w h => hts0 w (List.mem_cons_of_mem _ h)
  have hown : s.vm.findClass R_Wm = some m.cls := findClass_of_methodNamed B.named
  have hlocks := B.notSynchronized
  have hXH : s.heap[aT]? = s.heap[aT]? := rfl
  have hl := lv_entry ([.ref h0, .int a]) (n := 2) (Nat.le_of_ble_eq_true rfl)
  rw [lg_entry_eq]
  generalize (lg_sl ([.ref h0, .int a]) ++ List.replicate (2 - (lg_sl ([.ref h0, .int a])).length) Slot.unset).toArray = ls at hl ⊢
  have hl : lv_has ls 2 [(0, .ref h0), (1, .int a)] := hl
  refine lv_iload_n hx hb d_Wm_has_0 rfl (lv_at hl 1 rfl) ?_
  refine lv_if_lt (tgt := 16) hx hb d_Wm_has_1 (by decide) (fun hc1 => ?_) (fun hc1 => ?_)
  · -- 1 taken
    refine lv_iconst (v := 0) hx hb d_Wm_has_16 (by decide) ?_
    exact W.zret (v := 0) hx hb hr (by decide) (fun t ht hW => ⟨0, rfl, Or.inr ⟨rfl, by revert hc1; simp only [Int32.lt_iff_toInt_lt, Int32.le_iff_toInt_le, ← Int32.toInt_inj, Int32.reduceToInt, i32_m1]; omega⟩, ht⟩) (fun q hq => by cases hq) d_Wm_has_17
  · -- 1 not taken
    refine lv_iload_n hx hb d_Wm_has_4 rfl (lv_at hl 1 rfl) ?_
    refine lv_aload_n hx hb d_Wm_has_5 rfl (lv_at hl 0 rfl) ?_
    refine va_get (D := D) (ci := 4) (v := .int n) (C := R_Wm) (T := T_Wm) (N := 5) hx hb hts hin_Wm hown hK hP 0 rfl rfl 0 (by decide) (hts _ wd_31) (fun _ h9 => h9) rfl d_Wm_has_6 ?_
    refine lv_icmp_ge (tgt := 16) hx hb d_Wm_has_9 (by decide) (fun hc2 => ?_) (fun hc2 => ?_)
    · -- 9 taken
      refine lv_iconst (v := 0) hx hb d_Wm_has_16 (by decide) ?_
      exact W.zret (v := 0) hx hb hr (by decide) (fun t ht hW => ⟨0, rfl, Or.inr ⟨rfl, by revert hc1 hc2; simp only [Int32.lt_iff_toInt_lt, Int32.le_iff_toInt_le, ← Int32.toInt_inj, Int32.reduceToInt, i32_m1]; omega⟩, ht⟩) (fun q hq => by cases hq) d_Wm_has_17
    · -- 9 not taken
      refine lv_iconst (v := 1) hx hb d_Wm_has_12 (by decide) ?_
      refine lv_goto (tgt := 17) hx hb d_Wm_has_13 (by decide) ?_
      exact W.zret (v := 1) hx hb hr (by decide) (fun t ht hW => ⟨1, rfl, Or.inl ⟨rfl, by revert hc1 hc2; simp only [Int32.lt_iff_toInt_lt, Int32.le_iff_toInt_le, ← Int32.toInt_inj, Int32.reduceToInt, i32_m1]; omega⟩, ht⟩) (fun q hq => by cases hq) d_Wm_has_17

theorem d_Sw_isPlayer_0 : decode b_Sw_isPlayer 0 = .ok (.iload_n 0, 1) := by decide +kernel
theorem d_Sw_isPlayer_1 : decode b_Sw_isPlayer 1 = .ok (.ifCond .lt 12, 3) := by decide +kernel
theorem d_Sw_isPlayer_4 : decode b_Sw_isPlayer 4 = .ok (.iload_n 0, 1) := by decide +kernel
theorem d_Sw_isPlayer_5 : decode b_Sw_isPlayer 5 = .ok (.iconst 4, 1) := by decide +kernel
theorem d_Sw_isPlayer_6 : decode b_Sw_isPlayer 6 = .ok (.if_icmp .ge 7, 3) := by decide +kernel
theorem d_Sw_isPlayer_9 : decode b_Sw_isPlayer 9 = .ok (.iconst 1, 1) := by decide +kernel
theorem d_Sw_isPlayer_10 : decode b_Sw_isPlayer 10 = .ok (.goto 4, 3) := by decide +kernel
theorem d_Sw_isPlayer_13 : decode b_Sw_isPlayer 13 = .ok (.iconst 0, 1) := by decide +kernel
theorem d_Sw_isPlayer_14 : decode b_Sw_isPlayer 14 = .ok (.ireturn, 1) := by decide +kernel

set_option maxHeartbeats 4000000 in
set_option maxRecDepth 100000 in
theorem c_Sw_isPlayer (l : Launch) (D : va_G) (cI cZ cJ cS : ClassId) (aT : Nat) (ceT : Cell) (a : Int32)  : Met l y_Sw_isPlayer w_Sw_isPlayer ({ frames := 0, cells := 0, slots := 0, locals := 0 }) (tP D cI cZ cJ cS aT ceT [.int a] []) (vp_Si (fun r => (r = 1 ∧ (0 ≤ a ∧ a < 4)) ∨ (r = 0 ∧ ¬ (0 ≤ a ∧ a < 4)))) 0 0 (fun _ => False) := by
  refine Met.ofW (cc := b_Sw_isPlayer) (maxL := 1) (ret := (some .boolean)) (by decide) rfl ?_
  intro p e s m args below meth c s₁ B hml hv
  obtain ⟨rfl, hP, hK, hX⟩ := hv
  have hx := B.exec
  have hb := B.bytes
  have hr := B.returns
  have hts0 := atoms_spec (ws := w_Sw_isPlayer) B.pre
  have hts : ∀ w ∈ TB, w.before _ s = true := fun w h => hts0 w (List.mem_cons_of_mem _ h)
  have hown : s.vm.findClass R_Sw = some m.cls := findClass_of_methodNamed B.named
  have hlocks := B.notSynchronized
  have hXH : s.heap[aT]? = s.heap[aT]? := rfl
  have hl := lv_entry ([.int a]) (n := 1) (Nat.le_of_ble_eq_true rfl)
  rw [lg_entry_eq]
  generalize (lg_sl ([.int a]) ++ List.replicate (1 - (lg_sl ([.int a])).length) Slot.unset).toArray = ls at hl ⊢
  have hl : lv_has ls 1 [(0, .int a)] := hl
  refine lv_iload_n hx hb d_Sw_isPlayer_0 rfl (lv_at hl 0 rfl) ?_
  refine lv_if_lt (tgt := 13) hx hb d_Sw_isPlayer_1 (by decide) (fun hc1 => ?_) (fun hc1 => ?_)
  · -- 1 taken
    refine lv_iconst (v := 0) hx hb d_Sw_isPlayer_13 (by decide) ?_
    exact W.zret (v := 0) hx hb hr (by decide) (fun t ht hW => ⟨0, rfl, Or.inr ⟨rfl, by revert hc1; simp only [Int32.lt_iff_toInt_lt, Int32.le_iff_toInt_le, ← Int32.toInt_inj, Int32.reduceToInt, i32_m1]; omega⟩, ht⟩) (fun q hq => by cases hq) d_Sw_isPlayer_14
  · -- 1 not taken
    refine lv_iload_n hx hb d_Sw_isPlayer_4 rfl (lv_at hl 0 rfl) ?_
    refine lv_iconst (v := 4) hx hb d_Sw_isPlayer_5 (by decide) ?_
    refine lv_icmp_ge (tgt := 13) hx hb d_Sw_isPlayer_6 (by decide) (fun hc2 => ?_) (fun hc2 => ?_)
    · -- 6 taken
      refine lv_iconst (v := 0) hx hb d_Sw_isPlayer_13 (by decide) ?_
      exact W.zret (v := 0) hx hb hr (by decide) (fun t ht hW => ⟨0, rfl, Or.inr ⟨rfl, by revert hc1 hc2; simp only [Int32.lt_iff_toInt_lt, Int32.le_iff_toInt_le, ← Int32.toInt_inj, Int32.reduceToInt, i32_m1]; omega⟩, ht⟩) (fun q hq => by cases hq) d_Sw_isPlayer_14
    · -- 6 not taken
      refine lv_iconst (v := 1) hx hb d_Sw_isPlayer_9 (by decide) ?_
      refine lv_goto (tgt := 14) hx hb d_Sw_isPlayer_10 (by decide) ?_
      exact W.zret (v := 1) hx hb hr (by decide) (fun t ht hW => ⟨1, rfl, Or.inl ⟨rfl, by revert hc1 hc2; simp only [Int32.lt_iff_toInt_lt, Int32.le_iff_toInt_le, ← Int32.toInt_inj, Int32.reduceToInt, i32_m1]; omega⟩, ht⟩) (fun q hq => by cases hq) d_Sw_isPlayer_14
