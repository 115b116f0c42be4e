theorem nI_nn {a : Nat} (h : a < 2 ^ 31) : ¬ nI a < 0 := fun h9 => absurd ((nI_ltI (a := a) (b := 0) h (by decide)).mp h9) (Nat.not_lt_zero _)
def pkU : Nat → (Nat → Int32) → Nat → Int32 → Nat → Int32
  | 0, f, a, v => upd f a v
  | _, f, _, _ => f
def okN : Nat → (Nat → Nat) → Nat → Nat → Nat → Nat
  | 0, f, a, v => upN f a v
  | _, f, _, _ => f


set_option maxHeartbeats 4000000 in
set_option maxRecDepth 100000 in
theorem c_Wm_hasY (l : Launch) (D : va_G) (cI cZ cJ cS : ClassId) (aT : Nat) (ceT : Cell) (h0 qh qn n : Nat) (S Ce : Nat → Bool) (a : Nat) (hn : n ≤ 12) (h_a : a < n) : Met l y_Wm_has w_Wm_has ({ frames := 0, cells := 0, slots := 0, locals := 0 }) (tP D cI cZ cJ cS aT ceT [.ref h0, .int (nI a)] [(h0, .inr (4, [.int (nI n), .int (mI S), .int (mI Ce), .ref qh, .ref qn]))]) (vp_Si (fun r => r = 1)) 0 0 (fun _ => False) := by
  refine Met.ofW (cc := b_Wm_has) (maxL := 2) (ret := (some .boolean)) (by decide) rfl ?_
  intro p e s m args below meth c s₁ B hml hv
  obtain ⟨rfl, hP, hK, hX⟩ := hv
  have hx := B.exec
  have hb := B.bytes
  have hr := B.returns
  have hts0 := atoms_spec (ws := w_Wm_has) B.pre
  have hts : ∀ w ∈ TB, w.before _ s = true := fun w h => hts0 w (List.mem_cons_of_mem _ h)
  have hown : s.vm.findClass R_Wm = some m.cls := findClass_of_methodNamed B.named
  have hlocks := B.notSynchronized
  have hXH : s.heap[aT]? = s.heap[aT]? := rfl
  have hl := lv_entry ([.ref h0, .int (nI a)]) (n := 2) (Nat.le_of_ble_eq_true rfl)
  rw [lg_entry_eq]
  generalize (lg_sl ([.ref h0, .int (nI a)]) ++ List.replicate (2 - (lg_sl ([.ref h0, .int (nI a)])).length) Slot.unset).toArray = ls at hl ⊢
  have hl : lv_has ls 2 [(0, .ref h0), (1, .int (nI a))] := hl
  refine lv_iload_n hx hb d_Wm_has_0 rfl (lv_at hl 1 rfl) ?_
  refine lv_if_lt (tgt := 16) hx hb d_Wm_has_1 (by decide) (fun hc1 => ?_) (fun hc1 => ?_)
  · -- 1 taken
    refine lv_iconst (v := 0) hx hb d_Wm_has_16 (by decide) ?_
    exact W.zret (v := 0) hx hb hr (by decide) (fun t ht hW => ⟨0, rfl, absurd hc1 (nI_nn (by omega)), ht⟩) (fun q hq => by cases hq) d_Wm_has_17
  · -- 1 not taken
    refine lv_iload_n hx hb d_Wm_has_4 rfl (lv_at hl 1 rfl) ?_
    refine lv_aload_n hx hb d_Wm_has_5 rfl (lv_at hl 0 rfl) ?_
    refine va_get (D := D) (ci := 4) (v := .int (nI n)) (C := R_Wm) (T := T_Wm) (N := 5) hx hb hts hin_Wm hown hK hP 0 rfl rfl 0 (by decide) (hts _ wd_31) (fun _ h9 => h9) rfl d_Wm_has_6 ?_
    refine lv_icmp_ge (tgt := 16) hx hb d_Wm_has_9 (by decide) (fun hc2 => ?_) (fun hc2 => ?_)
    · -- 9 taken
      have hc2 : n ≤ a := (nI_leI (by omega) (by omega)).mp hc2
      refine lv_iconst (v := 0) hx hb d_Wm_has_16 (by decide) ?_
      exact W.zret (v := 0) hx hb hr (by decide) (fun t ht hW => ⟨0, rfl, absurd hc2 (by omega), ht⟩) (fun q hq => by cases hq) d_Wm_has_17
    · -- 9 not taken
      have hc2 : a < n := Nat.lt_of_not_le (fun h9 => hc2 ((nI_leI (by omega) (by omega)).mpr h9))
      refine lv_iconst (v := 1) hx hb d_Wm_has_12 (by decide) ?_
      refine lv_goto (tgt := 17) hx hb d_Wm_has_13 (by decide) ?_
      exact W.zret (v := 1) hx hb hr (by decide) (fun t ht hW => ⟨1, rfl, rfl, ht⟩) (fun q hq => by cases hq) d_Wm_has_17


set_option maxHeartbeats 4000000 in
set_option maxRecDepth 100000 in
theorem c_Sw_isPlayerY (l : Launch) (D : va_G) (cI cZ cJ cS : ClassId) (aT : Nat) (ceT : Cell) (a : Nat) (h_a : a < 4) : Met l y_Sw_isPlayer w_Sw_isPlayer ({ frames := 0, cells := 0, slots := 0, locals := 0 }) (tP D cI cZ cJ cS aT ceT [.int (nI a)] []) (vp_Si (fun r => r = 1)) 0 0 (fun _ => False) := by
  refine Met.ofW (cc := b_Sw_isPlayer) (maxL := 1) (ret := (some .boolean)) (by decide) rfl ?_
  intro p e s m args below meth c s₁ B hml hv
  obtain ⟨rfl, hP, hK, hX⟩ := hv
  have hx := B.exec
  have hb := B.bytes
  have hr := B.returns
  have hts0 := atoms_spec (ws := w_Sw_isPlayer) B.pre
  have hts : ∀ w ∈ TB, w.before _ s = true := fun w h => hts0 w (List.mem_cons_of_mem _ h)
  have hown : s.vm.findClass R_Sw = some m.cls := findClass_of_methodNamed B.named
  have hlocks := B.notSynchronized
  have hXH : s.heap[aT]? = s.heap[aT]? := rfl
  have hl := lv_entry ([.int (nI a)]) (n := 1) (Nat.le_of_ble_eq_true rfl)
  rw [lg_entry_eq]
  generalize (lg_sl ([.int (nI a)]) ++ List.replicate (1 - (lg_sl ([.int (nI a)])).length) Slot.unset).toArray = ls at hl ⊢
  have hl : lv_has ls 1 [(0, .int (nI a))] := hl
  refine lv_iload_n hx hb d_Sw_isPlayer_0 rfl (lv_at hl 0 rfl) ?_
  refine lv_if_lt (tgt := 13) hx hb d_Sw_isPlayer_1 (by decide) (fun hc1 => ?_) (fun hc1 => ?_)
  · -- 1 taken
    refine lv_iconst (v := 0) hx hb d_Sw_isPlayer_13 (by decide) ?_
    exact W.zret (v := 0) hx hb hr (by decide) (fun t ht hW => ⟨0, rfl, absurd hc1 (nI_nn (by omega)), ht⟩) (fun q hq => by cases hq) d_Sw_isPlayer_14
  · -- 1 not taken
    refine lv_iload_n hx hb d_Sw_isPlayer_4 rfl (lv_at hl 0 rfl) ?_
    refine lv_iconst (v := 4) hx hb d_Sw_isPlayer_5 (by decide) ?_
    refine lv_icmp_ge (tgt := 13) hx hb d_Sw_isPlayer_6 (by decide) (fun hc2 => ?_) (fun hc2 => ?_)
    · -- 6 taken
      have hc2 : 4 ≤ a := (nI_leI (by decide) (by omega)).mp hc2
      refine lv_iconst (v := 0) hx hb d_Sw_isPlayer_13 (by decide) ?_
      exact W.zret (v := 0) hx hb hr (by decide) (fun t ht hW => ⟨0, rfl, absurd hc2 (by omega), ht⟩) (fun q hq => by cases hq) d_Sw_isPlayer_14
    · -- 6 not taken
      have hc2 : a < 4 := Nat.lt_of_not_le (fun h9 => hc2 ((nI_leI (by decide) (by omega)).mpr h9))
      refine lv_iconst (v := 1) hx hb d_Sw_isPlayer_9 (by decide) ?_
      refine lv_goto (tgt := 14) hx hb d_Sw_isPlayer_10 (by decide) ?_
      exact W.zret (v := 1) hx hb hr (by decide) (fun t ht hW => ⟨1, rfl, rfl, ht⟩) (fun q hq => by cases hq) d_Sw_isPlayer_14

theorem d_Sw_unitOf_0 : decode b_Sw_unitOf 0 = .ok (.iconst 2, 1) := by decide +kernel
theorem d_Sw_unitOf_1 : decode b_Sw_unitOf 1 = .ok (.iload_n 0, 1) := by decide +kernel
theorem d_Sw_unitOf_2 : decode b_Sw_unitOf 2 = .ok (.imul, 1) := by decide +kernel
theorem d_Sw_unitOf_3 : decode b_Sw_unitOf 3 = .ok (.iload_n 1, 1) := by decide +kernel
theorem d_Sw_unitOf_4 : decode b_Sw_unitOf 4 = .ok (.iadd, 1) := by decide +kernel
theorem d_Sw_unitOf_5 : decode b_Sw_unitOf 5 = .ok (.ireturn, 1) := by decide +kernel

set_option maxHeartbeats 4000000 in
set_option maxRecDepth 100000 in
theorem c_Sw_unitOf (l : Launch) (D : va_G) (cI cZ cJ cS : ClassId) (aT : Nat) (ceT : Cell) (p9 k : Nat)  : Met l y_Sw_unitOf w_Sw_unitOf ({ frames := 0, cells := 0, slots := 0, locals := 0 }) (tP D cI cZ cJ cS aT ceT [.int (nI p9), .int (nI k)] []) (vp_Si (fun r => r = nI (2 * p9 + k))) 0 0 (fun _ => False) := by
  refine Met.ofW (cc := b_Sw_unitOf) (maxL := 2) (ret := (some .int)) (by decide) rfl ?_
  intro p e s m args below meth c s₁ B hml hv
  obtain ⟨rfl, hP, hK, hX⟩ := hv
  have hx := B.exec
  have hb := B.bytes
  have hr := B.returns
  have hts0 := atoms_spec (ws := w_Sw_unitOf) B.pre
  have hts : ∀ w ∈ TB, w.before _ s = true := fun w h => hts0 w (List.mem_cons_of_mem _ h)
  have hown : s.vm.findClass R_Sw = some m.cls := findClass_of_methodNamed B.named
  have hlocks := B.notSynchronized
  have hXH : s.heap[aT]? = s.heap[aT]? := rfl
  have hl := lv_entry ([.int (nI p9), .int (nI k)]) (n := 2) (Nat.le_of_ble_eq_true rfl)
  rw [lg_entry_eq]
  generalize (lg_sl ([.int (nI p9), .int (nI k)]) ++ List.replicate (2 - (lg_sl ([.int (nI p9), .int (nI k)])).length) Slot.unset).toArray = ls at hl ⊢
  have hl : lv_has ls 2 [(0, .int (nI p9)), (1, .int (nI k))] := hl
  refine lv_iconst (v := 2) hx hb d_Sw_unitOf_0 (by decide) ?_
  refine lv_iload_n hx hb d_Sw_unitOf_1 rfl (lv_at hl 0 rfl) ?_
  refine lv_imul hx hb d_Sw_unitOf_2 ?_
  refine tr_top (y := nI (2 * p9)) (pk_mul 2 p9) ?_
  refine lv_iload_n hx hb d_Sw_unitOf_3 rfl (lv_at hl 1 rfl) ?_
  refine lv_iadd hx hb d_Sw_unitOf_4 ?_
  refine tr_top (y := nI ((2 * p9) + k)) (nI_add (2 * p9) k) ?_
  exact W.iret (v := nI ((2 * p9) + k)) hx hb hr (fun t ht hW => ⟨nI ((2 * p9) + k), rfl, rfl, ht⟩) (fun q hq => by cases hq) d_Sw_unitOf_5

theorem d_Sw_hasX_0 : decode b_Sw_hasX 0 = .ok (.iload_n 0, 1) := by decide +kernel
theorem d_Sw_hasX_1 : decode b_Sw_hasX 1 = .ok (.ifCond .eq 7, 3) := by decide +kernel
theorem d_Sw_hasX_4 : decode b_Sw_hasX 4 = .ok (.iconst 1, 1) := by decide +kernel
theorem d_Sw_hasX_5 : decode b_Sw_hasX 5 = .ok (.goto 4, 3) := by decide +kernel
theorem d_Sw_hasX_8 : decode b_Sw_hasX 8 = .ok (.iconst 0, 1) := by decide +kernel
theorem d_Sw_hasX_9 : decode b_Sw_hasX 9 = .ok (.ireturn, 1) := by decide +kernel

set_option maxHeartbeats 4000000 in
set_option maxRecDepth 100000 in
theorem c_Sw_hasX0 (l : Launch) (D : va_G) (cI cZ cJ cS : ClassId) (aT : Nat) (ceT : Cell)   : Met l y_Sw_hasX w_Sw_hasX ({ frames := 0, cells := 0, slots := 0, locals := 0 }) (tP D cI cZ cJ cS aT ceT [.int 0] []) (vp_Si (fun r => r = 0)) 0 0 (fun _ => False) := by
  refine Met.ofW (cc := b_Sw_hasX) (maxL := 1) (ret := (some .boolean)) (by decide) rfl ?_
  intro p e s m args below meth c s₁ B hml hv
  obtain ⟨rfl, hP, hK, hX⟩ := hv
  have hx := B.exec
  have hb := B.bytes
  have hr := B.returns
  have hts0 := atoms_spec (ws := w_Sw_hasX) B.pre
  have hts : ∀ w ∈ TB, w.before _ s = true := fun w h => hts0 w (List.mem_cons_of_mem _ h)
  have hown : s.vm.findClass R_Sw = some m.cls := findClass_of_methodNamed B.named
  have hlocks := B.notSynchronized
  have hXH : s.heap[aT]? = s.heap[aT]? := rfl
  have hl := lv_entry ([.int 0]) (n := 1) (Nat.le_of_ble_eq_true rfl)
  rw [lg_entry_eq]
  generalize (lg_sl ([.int 0]) ++ List.replicate (1 - (lg_sl ([.int 0])).length) Slot.unset).toArray = ls at hl ⊢
  have hl : lv_has ls 1 [(0, .int 0)] := hl
  refine lv_iload_n hx hb d_Sw_hasX_0 rfl (lv_at hl 0 rfl) ?_
  refine lv_if_eq (tgt := 8) hx hb d_Sw_hasX_1 (by decide) (fun _ => ?_) (fun h0 => absurd (by decide) h0)
  refine lv_iconst (v := 0) hx hb d_Sw_hasX_8 (by decide) ?_
  exact W.zret (v := 0) hx hb hr (by decide) (fun t ht hW => ⟨0, rfl, rfl, ht⟩) (fun q hq => by cases hq) d_Sw_hasX_9


set_option maxHeartbeats 4000000 in
set_option maxRecDepth 100000 in
theorem c_Sw_hasX1 (l : Launch) (D : va_G) (cI cZ cJ cS : ClassId) (aT : Nat) (ceT : Cell)   : Met l y_Sw_hasX w_Sw_hasX ({ frames := 0, cells := 0, slots := 0, locals := 0 }) (tP D cI cZ cJ cS aT ceT [.int 1] []) (vp_Si (fun r => r = 1)) 0 0 (fun _ => False) := by
  refine Met.ofW (cc := b_Sw_hasX) (maxL := 1) (ret := (some .boolean)) (by decide) rfl ?_
  intro p e s m args below meth c s₁ B hml hv
  obtain ⟨rfl, hP, hK, hX⟩ := hv
  have hx := B.exec
  have hb := B.bytes
  have hr := B.returns
  have hts0 := atoms_spec (ws := w_Sw_hasX) B.pre
  have hts : ∀ w ∈ TB, w.before _ s = true := fun w h => hts0 w (List.mem_cons_of_mem _ h)
  have hown : s.vm.findClass R_Sw = some m.cls := findClass_of_methodNamed B.named
  have hlocks := B.notSynchronized
  have hXH : s.heap[aT]? = s.heap[aT]? := rfl
  have hl := lv_entry ([.int 1]) (n := 1) (Nat.le_of_ble_eq_true rfl)
  rw [lg_entry_eq]
  generalize (lg_sl ([.int 1]) ++ List.replicate (1 - (lg_sl ([.int 1])).length) Slot.unset).toArray = ls at hl ⊢
  have hl : lv_has ls 1 [(0, .int 1)] := hl
  refine lv_iload_n hx hb d_Sw_hasX_0 rfl (lv_at hl 0 rfl) ?_
  refine lv_if_eq (tgt := 8) hx hb d_Sw_hasX_1 (by decide) (fun h0 => absurd h0 (by decide)) (fun _ => ?_)
  refine lv_iconst (v := 1) hx hb d_Sw_hasX_4 (by decide) ?_
  refine lv_goto (tgt := 9) hx hb d_Sw_hasX_5 (by decide) ?_
  exact W.zret (v := 1) hx hb hr (by decide) (fun t ht hW => ⟨1, rfl, rfl, ht⟩) (fun q hq => by cases hq) d_Sw_hasX_9


set_option maxHeartbeats 4000000 in
set_option maxRecDepth 100000 in
theorem c_Sw_hasX2 (l : Launch) (D : va_G) (cI cZ cJ cS : ClassId) (aT : Nat) (ceT : Cell)   : Met l y_Sw_hasX w_Sw_hasX ({ frames := 0, cells := 0, slots := 0, locals := 0 }) (tP D cI cZ cJ cS aT ceT [.int 2] []) (vp_Si (fun r => r = 1)) 0 0 (fun _ => False) := by
  refine Met.ofW (cc := b_Sw_hasX) (maxL := 1) (ret := (some .boolean)) (by decide) rfl ?_
  intro p e s m args below meth c s₁ B hml hv
  obtain ⟨rfl, hP, hK, hX⟩ := hv
  have hx := B.exec
  have hb := B.bytes
  have hr := B.returns
  have hts0 := atoms_spec (ws := w_Sw_hasX) B.pre
  have hts : ∀ w ∈ TB, w.before _ s = true := fun w h => hts0 w (List.mem_cons_of_mem _ h)
  have hown : s.vm.findClass R_Sw = some m.cls := findClass_of_methodNamed B.named
  have hlocks := B.notSynchronized
  have hXH : s.heap[aT]? = s.heap[aT]? := rfl
  have hl := lv_entry ([.int 2]) (n := 1) (Nat.le_of_ble_eq_true rfl)
  rw [lg_entry_eq]
  generalize (lg_sl ([.int 2]) ++ List.replicate (1 - (lg_sl ([.int 2])).length) Slot.unset).toArray = ls at hl ⊢
  have hl : lv_has ls 1 [(0, .int 2)] := hl
  refine lv_iload_n hx hb d_Sw_hasX_0 rfl (lv_at hl 0 rfl) ?_
  refine lv_if_eq (tgt := 8) hx hb d_Sw_hasX_1 (by decide) (fun h0 => absurd h0 (by decide)) (fun _ => ?_)
  refine lv_iconst (v := 1) hx hb d_Sw_hasX_4 (by decide) ?_
  refine lv_goto (tgt := 9) hx hb d_Sw_hasX_5 (by decide) ?_
  exact W.zret (v := 1) hx hb hr (by decide) (fun t ht hW => ⟨1, rfl, rfl, ht⟩) (fun q hq => by cases hq) d_Sw_hasX_9


set_option maxHeartbeats 4000000 in
set_option maxRecDepth 100000 in
theorem c_Sw_hasX3 (l : Launch) (D : va_G) (cI cZ cJ cS : ClassId) (aT : Nat) (ceT : Cell)   : Met l y_Sw_hasX w_Sw_hasX ({ frames := 0, cells := 0, slots := 0, locals := 0 }) (tP D cI cZ cJ cS aT ceT [.int 3] []) (vp_Si (fun r => r = 1)) 0 0 (fun _ => False) := by
  refine Met.ofW (cc := b_Sw_hasX) (maxL := 1) (ret := (some .boolean)) (by decide) rfl ?_
  intro p e s m args below meth c s₁ B hml hv
  obtain ⟨rfl, hP, hK, hX⟩ := hv
  have hx := B.exec
  have hb := B.bytes
  have hr := B.returns
  have hts0 := atoms_spec (ws := w_Sw_hasX) B.pre
  have hts : ∀ w ∈ TB, w.before _ s = true := fun w h => hts0 w (List.mem_cons_of_mem _ h)
  have hown : s.vm.findClass R_Sw = some m.cls := findClass_of_methodNamed B.named
  have hlocks := B.notSynchronized
  have hXH : s.heap[aT]? = s.heap[aT]? := rfl
  have hl := lv_entry ([.int 3]) (n := 1) (Nat.le_of_ble_eq_true rfl)
  rw [lg_entry_eq]
  generalize (lg_sl ([.int 3]) ++ List.replicate (1 - (lg_sl ([.int 3])).length) Slot.unset).toArray = ls at hl ⊢
  have hl : lv_has ls 1 [(0, .int 3)] := hl
  refine lv_iload_n hx hb d_Sw_hasX_0 rfl (lv_at hl 0 rfl) ?_
  refine lv_if_eq (tgt := 8) hx hb d_Sw_hasX_1 (by decide) (fun h0 => absurd h0 (by decide)) (fun _ => ?_)
  refine lv_iconst (v := 1) hx hb d_Sw_hasX_4 (by decide) ?_
  refine lv_goto (tgt := 9) hx hb d_Sw_hasX_5 (by decide) ?_
  exact W.zret (v := 1) hx hb hr (by decide) (fun t ht hW => ⟨1, rfl, rfl, ht⟩) (fun q hq => by cases hq) d_Sw_hasX_9

theorem d_Sw_hasY_0 : decode b_Sw_hasY 0 = .ok (.iload_n 0, 1) := by decide +kernel
theorem d_Sw_hasY_1 : decode b_Sw_hasY 1 = .ok (.iconst 2, 1) := by decide +kernel
theorem d_Sw_hasY_2 : decode b_Sw_hasY 2 = .ok (.if_icmp .eq 8, 3) := by decide +kernel
theorem d_Sw_hasY_5 : decode b_Sw_hasY 5 = .ok (.iload_n 0, 1) := by decide +kernel
theorem d_Sw_hasY_6 : decode b_Sw_hasY 6 = .ok (.iconst 3, 1) := by decide +kernel
theorem d_Sw_hasY_7 : decode b_Sw_hasY 7 = .ok (.if_icmp .ne 7, 3) := by decide +kernel
theorem d_Sw_hasY_10 : decode b_Sw_hasY 10 = .ok (.iconst 1, 1) := by decide +kernel
theorem d_Sw_hasY_11 : decode b_Sw_hasY 11 = .ok (.goto 4, 3) := by decide +kernel
theorem d_Sw_hasY_14 : decode b_Sw_hasY 14 = .ok (.iconst 0, 1) := by decide +kernel
theorem d_Sw_hasY_15 : decode b_Sw_hasY 15 = .ok (.ireturn, 1) := by decide +kernel

set_option maxHeartbeats 4000000 in
set_option maxRecDepth 100000 in
theorem c_Sw_hasY0 (l : Launch) (D : va_G) (cI cZ cJ cS : ClassId) (aT : Nat) (ceT : Cell)   : Met l y_Sw_hasY w_Sw_hasY ({ frames := 0, cells := 0, slots := 0, locals := 0 }) (tP D cI cZ cJ cS aT ceT [.int 0] []) (vp_Si (fun r => r = 0)) 0 0 (fun _ => False) := by
  refine Met.ofW (cc := b_Sw_hasY) (maxL := 1) (ret := (some .boolean)) (by decide) rfl ?_
  intro p e s m args below meth c s₁ B hml hv
  obtain ⟨rfl, hP, hK, hX⟩ := hv
  have hx := B.exec
  have hb := B.bytes
  have hr := B.returns
  have hts0 := atoms_spec (ws := w_Sw_hasY) B.pre
  have hts : ∀ w ∈ TB, w.before _ s = true := fun w h => hts0 w (List.mem_cons_of_mem _ h)
  have hown : s.vm.findClass R_Sw = some m.cls := findClass_of_methodNamed B.named
  have hlocks := B.notSynchronized
  have hXH : s.heap[aT]? = s.heap[aT]? := rfl
  have hl := lv_entry ([.int 0]) (n := 1) (Nat.le_of_ble_eq_true rfl)
  rw [lg_entry_eq]
  generalize (lg_sl ([.int 0]) ++ List.replicate (1 - (lg_sl ([.int 0])).length) Slot.unset).toArray = ls at hl ⊢
  have hl : lv_has ls 1 [(0, .int 0)] := hl
  refine lv_iload_n hx hb d_Sw_hasY_0 rfl (lv_at hl 0 rfl) ?_
  refine lv_iconst (v := 2) hx hb d_Sw_hasY_1 (by decide) ?_
  refine lv_icmp_eq (tgt := 10) hx hb d_Sw_hasY_2 (by decide) (fun h0 => absurd h0 (by decide)) (fun _ => ?_)
  refine lv_iload_n hx hb d_Sw_hasY_5 rfl (lv_at hl 0 rfl) ?_
  refine lv_iconst (v := 3) hx hb d_Sw_hasY_6 (by decide) ?_
  refine lv_icmp_ne (tgt := 14) hx hb d_Sw_hasY_7 (by decide) (fun _ => ?_) (fun h0 => absurd h0 (by decide))
  refine lv_iconst (v := 0) hx hb d_Sw_hasY_14 (by decide) ?_
  exact W.zret (v := 0) hx hb hr (by decide) (fun t ht hW => ⟨0, rfl, rfl, ht⟩) (fun q hq => by cases hq) d_Sw_hasY_15


set_option maxHeartbeats 4000000 in
set_option maxRecDepth 100000 in
theorem c_Sw_hasY1 (l : Launch) (D : va_G) (cI cZ cJ cS : ClassId) (aT : Nat) (ceT : Cell)   : Met l y_Sw_hasY w_Sw_hasY ({ frames := 0, cells := 0, slots := 0, locals := 0 }) (tP D cI cZ cJ cS aT ceT [.int 1] []) (vp_Si (fun r => r = 0)) 0 0 (fun _ => False) := by
  refine Met.ofW (cc := b_Sw_hasY) (maxL := 1) (ret := (some .boolean)) (by decide) rfl ?_
  intro p e s m args below meth c s₁ B hml hv
  obtain ⟨rfl, hP, hK, hX⟩ := hv
  have hx := B.exec
  have hb := B.bytes
  have hr := B.returns
  have hts0 := atoms_spec (ws := w_Sw_hasY) B.pre
  have hts : ∀ w ∈ TB, w.before _ s = true := fun w h => hts0 w (List.mem_cons_of_mem _ h)
  have hown : s.vm.findClass R_Sw = some m.cls := findClass_of_methodNamed B.named
  have hlocks := B.notSynchronized
  have hXH : s.heap[aT]? = s.heap[aT]? := rfl
  have hl := lv_entry ([.int 1]) (n := 1) (Nat.le_of_ble_eq_true rfl)
  rw [lg_entry_eq]
  generalize (lg_sl ([.int 1]) ++ List.replicate (1 - (lg_sl ([.int 1])).length) Slot.unset).toArray = ls at hl ⊢
  have hl : lv_has ls 1 [(0, .int 1)] := hl
  refine lv_iload_n hx hb d_Sw_hasY_0 rfl (lv_at hl 0 rfl) ?_
  refine lv_iconst (v := 2) hx hb d_Sw_hasY_1 (by decide) ?_
  refine lv_icmp_eq (tgt := 10) hx hb d_Sw_hasY_2 (by decide) (fun h0 => absurd h0 (by decide)) (fun _ => ?_)
  refine lv_iload_n hx hb d_Sw_hasY_5 rfl (lv_at hl 0 rfl) ?_
  refine lv_iconst (v := 3) hx hb d_Sw_hasY_6 (by decide) ?_
  refine lv_icmp_ne (tgt := 14) hx hb d_Sw_hasY_7 (by decide) (fun _ => ?_) (fun h0 => absurd h0 (by decide))
  refine lv_iconst (v := 0) hx hb d_Sw_hasY_14 (by decide) ?_
  exact W.zret (v := 0) hx hb hr (by decide) (fun t ht hW => ⟨0, rfl, rfl, ht⟩) (fun q hq => by cases hq) d_Sw_hasY_15


set_option maxHeartbeats 4000000 in
set_option maxRecDepth 100000 in
theorem c_Sw_hasY2 (l : Launch) (D : va_G) (cI cZ cJ cS : ClassId) (aT : Nat) (ceT : Cell)   : Met l y_Sw_hasY w_Sw_hasY ({ frames := 0, cells := 0, slots := 0, locals := 0 }) (tP D cI cZ cJ cS aT ceT [.int 2] []) (vp_Si (fun r => r = 1)) 0 0 (fun _ => False) := by
  refine Met.ofW (cc := b_Sw_hasY) (maxL := 1) (ret := (some .boolean)) (by decide) rfl ?_
  intro p e s m args below meth c s₁ B hml hv
  obtain ⟨rfl, hP, hK, hX⟩ := hv
  have hx := B.exec
  have hb := B.bytes
  have hr := B.returns
  have hts0 := atoms_spec (ws := w_Sw_hasY) B.pre
  have hts : ∀ w ∈ TB, w.before _ s = true := fun w h => hts0 w (List.mem_cons_of_mem _ h)
  have hown : s.vm.findClass R_Sw = some m.cls := findClass_of_methodNamed B.named
  have hlocks := B.notSynchronized
  have hXH : s.heap[aT]? = s.heap[aT]? := rfl
  have hl := lv_entry ([.int 2]) (n := 1) (Nat.le_of_ble_eq_true rfl)
  rw [lg_entry_eq]
  generalize (lg_sl ([.int 2]) ++ List.replicate (1 - (lg_sl ([.int 2])).length) Slot.unset).toArray = ls at hl ⊢
  have hl : lv_has ls 1 [(0, .int 2)] := hl
  refine lv_iload_n hx hb d_Sw_hasY_0 rfl (lv_at hl 0 rfl) ?_
  refine lv_iconst (v := 2) hx hb d_Sw_hasY_1 (by decide) ?_
  refine lv_icmp_eq (tgt := 10) hx hb d_Sw_hasY_2 (by decide) (fun _ => ?_) (fun h0 => absurd (by decide) h0)
  refine lv_iconst (v := 1) hx hb d_Sw_hasY_10 (by decide) ?_
  refine lv_goto (tgt := 15) hx hb d_Sw_hasY_11 (by decide) ?_
  exact W.zret (v := 1) hx hb hr (by decide) (fun t ht hW => ⟨1, rfl, rfl, ht⟩) (fun q hq => by cases hq) d_Sw_hasY_15


set_option maxHeartbeats 4000000 in
set_option maxRecDepth 100000 in
theorem c_Sw_hasY3 (l : Launch) (D : va_G) (cI cZ cJ cS : ClassId) (aT : Nat) (ceT : Cell)   : Met l y_Sw_hasY w_Sw_hasY ({ frames := 0, cells := 0, slots := 0, locals := 0 }) (tP D cI cZ cJ cS aT ceT [.int 3] []) (vp_Si (fun r => r = 1)) 0 0 (fun _ => False) := by
  refine Met.ofW (cc := b_Sw_hasY) (maxL := 1) (ret := (some .boolean)) (by decide) rfl ?_
  intro p e s m args below meth c s₁ B hml hv
  obtain ⟨rfl, hP, hK, hX⟩ := hv
  have hx := B.exec
  have hb := B.bytes
  have hr := B.returns
  have hts0 := atoms_spec (ws := w_Sw_hasY) B.pre
  have hts : ∀ w ∈ TB, w.before _ s = true := fun w h => hts0 w (List.mem_cons_of_mem _ h)
  have hown : s.vm.findClass R_Sw = some m.cls := findClass_of_methodNamed B.named
  have hlocks := B.notSynchronized
  have hXH : s.heap[aT]? = s.heap[aT]? := rfl
  have hl := lv_entry ([.int 3]) (n := 1) (Nat.le_of_ble_eq_true rfl)
  rw [lg_entry_eq]
  generalize (lg_sl ([.int 3]) ++ List.replicate (1 - (lg_sl ([.int 3])).length) Slot.unset).toArray = ls at hl ⊢
  have hl : lv_has ls 1 [(0, .int 3)] := hl
  refine lv_iload_n hx hb d_Sw_hasY_0 rfl (lv_at hl 0 rfl) ?_
  refine lv_iconst (v := 2) hx hb d_Sw_hasY_1 (by decide) ?_
  refine lv_icmp_eq (tgt := 10) hx hb d_Sw_hasY_2 (by decide) (fun h0 => absurd h0 (by decide)) (fun _ => ?_)
  refine lv_iload_n hx hb d_Sw_hasY_5 rfl (lv_at hl 0 rfl) ?_
  refine lv_iconst (v := 3) hx hb d_Sw_hasY_6 (by decide) ?_
  refine lv_icmp_ne (tgt := 14) hx hb d_Sw_hasY_7 (by decide) (fun h0 => absurd (by decide) h0) (fun _ => ?_)
  refine lv_iconst (v := 1) hx hb d_Sw_hasY_10 (by decide) ?_
  refine lv_goto (tgt := 15) hx hb d_Sw_hasY_11 (by decide) ?_
  exact W.zret (v := 1) hx hb hr (by decide) (fun t ht hW => ⟨1, rfl, rfl, ht⟩) (fun q hq => by cases hq) d_Sw_hasY_15

theorem d_Sh_write_0 : decode b_Sh_write 0 = .ok (.aload_n 0, 1) := by decide +kernel
theorem d_Sh_write_1 : decode b_Sh_write 1 = .ok (.getfield 15, 3) := by decide +kernel
theorem d_Sh_write_4 : decode b_Sh_write 4 = .ok (.iload_n 1, 1) := by decide +kernel
theorem d_Sh_write_5 : decode b_Sh_write 5 = .ok (.iload_n 2, 1) := by decide +kernel
theorem d_Sh_write_6 : decode b_Sh_write 6 = .ok (.iastore, 1) := by decide +kernel
theorem d_Sh_write_7 : decode b_Sh_write 7 = .ok (.aload_n 0, 1) := by decide +kernel
theorem d_Sh_write_8 : decode b_Sh_write 8 = .ok (.getfield 18, 3) := by decide +kernel
theorem d_Sh_write_11 : decode b_Sh_write 11 = .ok (.iload_n 1, 1) := by decide +kernel
theorem d_Sh_write_12 : decode b_Sh_write 12 = .ok (.iload_n 3, 1) := by decide +kernel
theorem d_Sh_write_13 : decode b_Sh_write 13 = .ok (.iastore, 1) := by decide +kernel
theorem d_Sh_write_14 : decode b_Sh_write 14 = .ok (.aload_n 0, 1) := by decide +kernel
theorem d_Sh_write_15 : decode b_Sh_write 15 = .ok (.getfield 21, 3) := by decide +kernel
theorem d_Sh_write_18 : decode b_Sh_write 18 = .ok (.iload_n 1, 1) := by decide +kernel
theorem d_Sh_write_19 : decode b_Sh_write 19 = .ok (.iload 4, 2) := by decide +kernel
theorem d_Sh_write_21 : decode b_Sh_write 21 = .ok (.iastore, 1) := by decide +kernel
theorem d_Sh_write_22 : decode b_Sh_write 22 = .ok (.return_, 1) := by decide +kernel

set_option maxHeartbeats 4000000 in
set_option maxRecDepth 100000 in
theorem c_Sh_write (l : Launch) (D : va_G) (cI cZ cJ cS : ClassId) (aT : Nat) (ceT : Cell) (sz : Nat) (h0 : Nat) (tn : Int32) (qu qo qx qy qr qw : Nat) (Oo X Y : Nat → Nat) (a k x y : Nat) (h_a : a < 12) : Met l y_Sh_write w_Sh_write ({ frames := 0, cells := 0, slots := 0, locals := 0 }) (tH D cI cZ cJ cS aT ceT [.ref h0, .int (nI a), .int (nI k), .int (nI x), .int (nI y)] sz [(h0, .inr (3, [.int tn, .ref qu, .ref qo, .ref qx, .ref qy, .ref qr, .ref qw])), (qo, .inl (cI, 12, .inl (fun j => nI (Oo j)))), (qx, .inl (cI, 12, .inl (fun j => nI (X j)))), (qy, .inl (cI, 12, .inl (fun j => nI (Y j))))]) (va_Qv (fun _ : Unit => True) (fun _ t => tB D (va_A [(h0, .inr (3, [.int tn, .ref qu, .ref qo, .ref qx, .ref qy, .ref qr, .ref qw])), (qo, .inl (cI, 12, .inl (fun j => nI (Oo j)))), (qx, .inl (cI, 12, .inl (fun j => nI (X j)))), (qy, .inl (cI, 12, .inl (fun j => nI (Y j))))] sz) [(h0, .inr (3, [.int tn, .ref qu, .ref qo, .ref qx, .ref qy, .ref qr, .ref qw])), (qo, .inl (cI, 12, .inl (fun j => nI (upN Oo a k j)))), (qx, .inl (cI, 12, .inl (fun j => nI (upN X a x j)))), (qy, .inl (cI, 12, .inl (fun j => nI (upN Y a y j))))] t) (va_A [(h0, .inr (3, [.int tn, .ref qu, .ref qo, .ref qx, .ref qy, .ref qr, .ref qw])), (qo, .inl (cI, 12, .inl (fun j => nI (Oo j)))), (qx, .inl (cI, 12, .inl (fun j => nI (X j)))), (qy, .inl (cI, 12, .inl (fun j => nI (Y j))))] sz)) 0 0 (va_A [(h0, .inr (3, [.int tn, .ref qu, .ref qo, .ref qx, .ref qy, .ref qr, .ref qw])), (qo, .inl (cI, 12, .inl (fun j => nI (Oo j)))), (qx, .inl (cI, 12, .inl (fun j => nI (X j)))), (qy, .inl (cI, 12, .inl (fun j => nI (Y j))))] sz) := by
  refine Met.ofW (cc := b_Sh_write) (maxL := 5) (ret := none) (by decide) rfl ?_
  intro p e s m args below meth c s₁ B hml hv
  obtain ⟨rfl, hsz, hP, hK, hD0, hX⟩ := hv
  have hx := B.exec
  have hb := B.bytes
  have hr := B.returns
  have hts0 := atoms_spec (ws := w_Sh_write) B.pre
  have hts : ∀ w ∈ TB, w.before _ s = true := fun w h => hts0 w (List.mem_cons_of_mem _ h)
  have hown : s.vm.findClass R_Sh = some m.cls := findClass_of_methodNamed B.named
  have hlocks := B.notSynchronized
  subst hsz
  have hXl := tx_lt hX
  have hXn := tx_far hP hX
  have hD := hD0.self (sz := s.heap.size)
  generalize hAe : va_A [(h0, .inr (3, [.int tn, .ref qu, .ref qo, .ref qx, .ref qy, .ref qr, .ref qw])), (qo, .inl (cI, 12, .inl (fun j => nI (Oo j)))), (qx, .inl (cI, 12, .inl (fun j => nI (X j)))), (qy, .inl (cI, 12, .inl (fun j => nI (Y j))))] s.heap.size = A at hD hXn ⊢
  have hA : ∀ q : Nat, s.heap.size ≤ q → A q := fun q h => by rw [← hAe]; exact Or.inr h
  have hS : va_S A s.heap s.heap [] := va_S.rf
  have hXH : s.heap[aT]? = s.heap[aT]? := rfl
  have hl := lv_entry ([.ref h0, .int (nI a), .int (nI k), .int (nI x), .int (nI y)]) (n := 5) (Nat.le_of_ble_eq_true rfl)
  rw [lg_entry_eq]
  generalize (lg_sl ([.ref h0, .int (nI a), .int (nI k), .int (nI x), .int (nI y)]) ++ List.replicate (5 - (lg_sl ([.ref h0, .int (nI a), .int (nI k), .int (nI x), .int (nI y)])).length) Slot.unset).toArray = ls at hl ⊢
  have hl : lv_has ls 5 [(0, .ref h0), (1, .int (nI a)), (2, .int (nI k)), (3, .int (nI x)), (4, .int (nI y))] := hl
  refine lv_aload_n hx hb d_Sh_write_0 rfl (lv_at hl 0 rfl) ?_
  refine va_get (D := D) (ci := 3) (v := .ref qo) (C := R_Sh) (T := T_Sh) (N := 7) hx hb hts hin_Sh hown hK hP 0 rfl rfl 2 (by decide) (hts _ wd_68) (fun _ h9 => h9) rfl d_Sh_write_1 ?_
  refine lv_iload_n hx hb d_Sh_write_4 rfl (lv_at hl 1 rfl) ?_
  refine lv_iload_n hx hb d_Sh_write_5 rfl (lv_at hl 2 rfl) ?_
  refine tr_iast (g := fun j => nI (upN Oo a k j)) hx hb hK hP hD hS 1 0 rfl rfl a h_a (by decide) (upN_I Oo a k) d_Sh_write_6 (fun H locs hP hD hS => ?_)
  have hP : va_P D vwCl [(h0, .inr (3, [.int tn, .ref qu, .ref qo, .ref qx, .ref qy, .ref qr, .ref qw])), (qo, .inl (cI, 12, .inl (fun j => nI (upN Oo a k j)))), (qx, .inl (cI, 12, .inl (fun j => nI (X j)))), (qy, .inl (cI, 12, .inl (fun j => nI (Y j))))] H := hP
  have hD : va_D A [(h0, .inr (3, [.int tn, .ref qu, .ref qo, .ref qx, .ref qy, .ref qr, .ref qw])), (qo, .inl (cI, 12, .inl (fun j => nI (upN Oo a k j)))), (qx, .inl (cI, 12, .inl (fun j => nI (X j)))), (qy, .inl (cI, 12, .inl (fun j => nI (Y j))))] := hD
  refine lv_aload_n hx hb d_Sh_write_7 rfl (lv_at hl 0 rfl) ?_
  refine va_get (D := D) (ci := 3) (v := .ref qx) (C := R_Sh) (T := T_Sh) (N := 7) hx hb hts hin_Sh hown hK hP 0 rfl rfl 3 (by decide) (hts _ wd_71) (fun _ h9 => h9) rfl d_Sh_write_8 ?_
  refine lv_iload_n hx hb d_Sh_write_11 rfl (lv_at hl 1 rfl) ?_
  refine lv_iload_n hx hb d_Sh_write_12 rfl (lv_at hl 3 rfl) ?_
  refine tr_iast (g := fun j => nI (upN X a x j)) hx hb hK hP hD hS 2 0 rfl rfl a h_a (by decide) (upN_I X a x) d_Sh_write_13 (fun H locs hP hD hS => ?_)
  have hP : va_P D vwCl [(h0, .inr (3, [.int tn, .ref qu, .ref qo, .ref qx, .ref qy, .ref qr, .ref qw])), (qo, .inl (cI, 12, .inl (fun j => nI (upN Oo a k j)))), (qx, .inl (cI, 12, .inl (fun j => nI (upN X a x j)))), (qy, .inl (cI, 12, .inl (fun j => nI (Y j))))] H := hP
  have hD : va_D A [(h0, .inr (3, [.int tn, .ref qu, .ref qo, .ref qx, .ref qy, .ref qr, .ref qw])), (qo, .inl (cI, 12, .inl (fun j => nI (upN Oo a k j)))), (qx, .inl (cI, 12, .inl (fun j => nI (upN X a x j)))), (qy, .inl (cI, 12, .inl (fun j => nI (Y j))))] := hD
  refine lv_aload_n hx hb d_Sh_write_14 rfl (lv_at hl 0 rfl) ?_
  refine va_get (D := D) (ci := 3) (v := .ref qy) (C := R_Sh) (T := T_Sh) (N := 7) hx hb hts hin_Sh hown hK hP 0 rfl rfl 4 (by decide) (hts _ wd_74) (fun _ h9 => h9) rfl d_Sh_write_15 ?_
  refine lv_iload_n hx hb d_Sh_write_18 rfl (lv_at hl 1 rfl) ?_
  refine lv_iload hx hb d_Sh_write_19 (lv_at hl 4 rfl) ?_
  refine tr_iast (g := fun j => nI (upN Y a y j)) hx hb hK hP hD hS 3 0 rfl rfl a h_a (by decide) (upN_I Y a y) d_Sh_write_21 (fun H locs hP hD hS => ?_)
  have hP : va_P D vwCl [(h0, .inr (3, [.int tn, .ref qu, .ref qo, .ref qx, .ref qy, .ref qr, .ref qw])), (qo, .inl (cI, 12, .inl (fun j => nI (upN Oo a k j)))), (qx, .inl (cI, 12, .inl (fun j => nI (upN X a x j)))), (qy, .inl (cI, 12, .inl (fun j => nI (upN Y a y j))))] H := hP
  have hD : va_D A [(h0, .inr (3, [.int tn, .ref qu, .ref qo, .ref qx, .ref qy, .ref qr, .ref qw])), (qo, .inl (cI, 12, .inl (fun j => nI (upN Oo a k j)))), (qx, .inl (cI, 12, .inl (fun j => nI (upN X a x j)))), (qy, .inl (cI, 12, .inl (fun j => nI (upN Y a y j))))] := hD
  have hP9 := hP.sub (ws' := [(h0, .inr (3, [.int tn, .ref qu, .ref qo, .ref qx, .ref qy, .ref qr, .ref qw])), (qo, .inl (cI, 12, .inl (fun j => nI (upN Oo a k j)))), (qx, .inl (cI, 12, .inl (fun j => nI (upN X a x j)))), (qy, .inl (cI, 12, .inl (fun j => nI (upN Y a y j))))]) [0, 1, 2, 3] rfl
  have hD9 := hD.sub (ws' := [(h0, .inr (3, [.int tn, .ref qu, .ref qo, .ref qx, .ref qy, .ref qr, .ref qw])), (qo, .inl (cI, 12, .inl (fun j => nI (upN Oo a k j)))), (qx, .inl (cI, 12, .inl (fun j => nI (upN X a x j)))), (qy, .inl (cI, 12, .inl (fun j => nI (upN Y a y j))))]) [0, 1, 2, 3] (by decide) rfl
  exact W.vret hx hb hr (fun t ht hW => ⟨⟨(), rfl, trivial, by rw [ht]; exact hP9, hD9⟩, hS.F ht⟩) hS.2.2 d_Sh_write_22

def knd (x : Int32) : Int32 := x - x / 2 * 2
def goC (N : Nat → Nat → Bool) (S : Nat → Bool) (u : Int32) (a b : Nat) : Bool := N a b && ((S a || S b) == decide (u - u / 2 * 2 = 1))
def pmC (N : Nat → Nat → Bool) (S : Nat → Bool) (fu : Nat → Int32) (a x : Nat) : Bool := goC N S (fu a) a x || (decide (fu a - fu a / 2 * 2 = 0) && !decide (x = a) && !S x)
def pvC (S : Nat → Bool) (fu : Nat → Int32) (a x y : Nat) : Bool := decide (fu a - fu a / 2 * 2 = 1) && S a && (!decide (fu x = -1) && decide (fu x - fu x / 2 * 2 = 0)) && !decide (y = x) && !S y
def psuC (N : Nat → Nat → Bool) (S : Nat → Bool) (fu : Nat → Int32) (a x y : Nat) : Bool := !decide (x = a) && !decide (y = a) && !decide (fu x = -1) && goC N S (fu a) a y
def rfC (N : Nat → Nat → Bool) (S Co : Nat → Bool) (fu ga go : Nat → Int32) (a b : Nat) : Bool := goC N S (ga a) a b && !(!decide (fu b = -1)) && !Co b && !decide (go a = nI b)

theorem d_Sw_isPossibleMove_0 : decode b_Sw_isPossibleMove 0 = .ok (.aload_n 0, 1) := by decide +kernel
theorem d_Sw_isPossibleMove_1 : decode b_Sw_isPossibleMove 1 = .ok (.getfield 19, 3) := by decide +kernel
theorem d_Sw_isPossibleMove_4 : decode b_Sw_isPossibleMove 4 = .ok (.iload_n 1, 1) := by decide +kernel
theorem d_Sw_isPossibleMove_5 : decode b_Sw_isPossibleMove 5 = .ok (.invokevirtual 189, 3) := by decide +kernel
theorem d_Sw_isPossibleMove_8 : decode b_Sw_isPossibleMove 8 = .ok (.istore_n 3, 1) := by decide +kernel
theorem d_Sw_isPossibleMove_9 : decode b_Sw_isPossibleMove 9 = .ok (.aload_n 0, 1) := by decide +kernel
theorem d_Sw_isPossibleMove_10 : decode b_Sw_isPossibleMove 10 = .ok (.getfield 13, 3) := by decide +kernel
theorem d_Sw_isPossibleMove_13 : decode b_Sw_isPossibleMove 13 = .ok (.iload_n 3, 1) := by decide +kernel
theorem d_Sw_isPossibleMove_14 : decode b_Sw_isPossibleMove 14 = .ok (.iload_n 1, 1) := by decide +kernel
theorem d_Sw_isPossibleMove_15 : decode b_Sw_isPossibleMove 15 = .ok (.iload_n 2, 1) := by decide +kernel
theorem d_Sw_isPossibleMove_16 : decode b_Sw_isPossibleMove 16 = .ok (.invokevirtual 192, 3) := by decide +kernel
theorem d_Sw_isPossibleMove_19 : decode b_Sw_isPossibleMove 19 = .ok (.ifCond .ne 23, 3) := by decide +kernel
theorem d_Sw_isPossibleMove_22 : decode b_Sw_isPossibleMove 22 = .ok (.iload_n 3, 1) := by decide +kernel
theorem d_Sw_isPossibleMove_23 : decode b_Sw_isPossibleMove 23 = .ok (.ifCond .ne 23, 3) := by decide +kernel
theorem d_Sw_isPossibleMove_26 : decode b_Sw_isPossibleMove 26 = .ok (.iload_n 2, 1) := by decide +kernel
theorem d_Sw_isPossibleMove_27 : decode b_Sw_isPossibleMove 27 = .ok (.iload_n 1, 1) := by decide +kernel
theorem d_Sw_isPossibleMove_28 : decode b_Sw_isPossibleMove 28 = .ok (.if_icmp .eq 18, 3) := by decide +kernel
theorem d_Sw_isPossibleMove_31 : decode b_Sw_isPossibleMove 31 = .ok (.aload_n 0, 1) := by decide +kernel
theorem d_Sw_isPossibleMove_32 : decode b_Sw_isPossibleMove 32 = .ok (.getfield 13, 3) := by decide +kernel
theorem d_Sw_isPossibleMove_35 : decode b_Sw_isPossibleMove 35 = .ok (.iload_n 2, 1) := by decide +kernel
theorem d_Sw_isPossibleMove_36 : decode b_Sw_isPossibleMove 36 = .ok (.invokevirtual 199, 3) := by decide +kernel
theorem d_Sw_isPossibleMove_39 : decode b_Sw_isPossibleMove 39 = .ok (.ifCond .ne 7, 3) := by decide +kernel
theorem d_Sw_isPossibleMove_42 : decode b_Sw_isPossibleMove 42 = .ok (.iconst 1, 1) := by decide +kernel
theorem d_Sw_isPossibleMove_43 : decode b_Sw_isPossibleMove 43 = .ok (.goto 4, 3) := by decide +kernel
theorem d_Sw_isPossibleMove_46 : decode b_Sw_isPossibleMove 46 = .ok (.iconst 0, 1) := by decide +kernel
theorem d_Sw_isPossibleMove_47 : decode b_Sw_isPossibleMove 47 = .ok (.ireturn, 1) := by decide +kernel
theorem wd_474 : (Cond.methodLink "SheetWar" (189 : Nat) ({ cls := "SheetWar$Sheet", name := "kindAt", desc := "(I)I" } : MethodName)) ∈ TB := tb_t 474 (by decide +kernel) (by decide +kernel)
theorem wd_275 : (Cond.methodLink "SheetWar" (192 : Nat) ({ cls := "SheetWar$WarMap", name := "canGo", desc := "(III)Z" } : MethodName)) ∈ TB := tb_t 275 (by decide +kernel) (by decide +kernel)
theorem wd_478 : (Cond.methodLink "SheetWar" (199 : Nat) ({ cls := "SheetWar$WarMap", name := "isSea", desc := "(I)Z" } : MethodName)) ∈ TB := tb_t 478 (by decide +kernel) (by decide +kernel)
set_option maxHeartbeats 4000000 in
set_option maxRecDepth 100000 in
theorem c_Sw_possMove (l : Launch) (D : va_G) (cI cZ cJ cS : ClassId) (aT : Nat) (ceT : Cell) (h0 hm hh he ha hp : Nat) (ph : Int32) (qh qn n : Nat) (S Ce : Nat → Bool) (N : Nat → Nat → Bool) (tn : Int32) (qu qo qx qy qr qw : Nat) (fu : Nat → Int32) (a : Nat) (x : Nat)  (h_a : a < 12) (h_x : x < 12) : Met l y_Sw_isPossibleMove w_Sw_isPossibleMove ({ frames := 3, cells := 0, slots := 0, locals := 66 }) (tP D cI cZ cJ cS aT ceT [.ref h0, .int (nI a), .int (nI x)] [(h0, .inr (5, [.ref hm, .ref hh, .ref he, .ref ha, .ref hp, .int ph])), (hm, .inr (4, [.int (nI n), .int (mI S), .int (mI Ce), .ref qh, .ref qn])), (qn, .inl (cI, 12, .inl (fun j => mI (N j)))), (hh, .inr (3, [.int tn, .ref qu, .ref qo, .ref qx, .ref qy, .ref qr, .ref qw])), (qu, .inl (cI, 12, .inl fu))]) (vp_Si (fun r => r = bI (pmC N S fu a x))) 0 0 (fun _ => False) := by
  refine Met.ofW (cc := b_Sw_isPossibleMove) (maxL := 4) (ret := (some .boolean)) (by decide) rfl ?_
  intro p e s m args below meth c s₁ B hml hv
  obtain ⟨rfl, hP, hK, hX⟩ := hv
  have hx := B.exec
  have hb := B.bytes
  have hr := B.returns
  have hts0 := atoms_spec (ws := w_Sw_isPossibleMove) B.pre
  have hts : ∀ w ∈ TB, w.before _ s = true := fun w h => hts0 w (List.mem_cons_of_mem _ h)
  have hown : s.vm.findClass R_Sw = some m.cls := findClass_of_methodNamed B.named
  have hlocks := B.notSynchronized
  have hXH : s.heap[aT]? = s.heap[aT]? := rfl
  have hl := lv_entry ([.ref h0, .int (nI a), .int (nI x)]) (n := 4) (Nat.le_of_ble_eq_true rfl)
  rw [lg_entry_eq]
  generalize (lg_sl ([.ref h0, .int (nI a), .int (nI x)]) ++ List.replicate (4 - (lg_sl ([.ref h0, .int (nI a), .int (nI x)])).length) Slot.unset).toArray = ls at hl ⊢
  have hl : lv_has ls 4 [(0, .ref h0), (1, .int (nI a)), (2, .int (nI x))] := hl
  refine lv_aload_n hx hb d_Sw_isPossibleMove_0 rfl (lv_at hl 0 rfl) ?_
  refine va_get (D := D) (ci := 5) (v := .ref hh) (C := R_Sw) (T := T_Sw) (N := 6) hx hb hts hin_Sw hown hK hP 0 rfl rfl 1 (by decide) (hts _ wd_202) (fun _ h9 => h9) rfl d_Sw_isPossibleMove_1 ?_
  refine lv_iload_n hx hb d_Sw_isPossibleMove_4 rfl (lv_at hl 1 rfl) ?_
  have hPc := hP.sub (ws' := [(hh, .inr (3, [.int tn, .ref qu, .ref qo, .ref qx, .ref qy, .ref qr, .ref qw])), (qu, .inl (cI, 12, .inl fu))]) [3, 4] rfl
  refine vp_callSi (va_Run.run (va_runV (As := [.int (nI a)]) (rest := []) ⟨hx, hb, hml, hown, hts⟩ (c_Sh_kindAtP l D cI cZ cJ cS aT ceT  hh tn qu qo qx qy qr qw fu a h_a) (cwV 1 hts (tb_4 wd_474 wd_475 wd_476 wd_3 (tb_c wd_477)) rfl rfl rfl ⟨rfl, by decide, by decide, by decide +kernel⟩ ⟨Nat.le_of_ble_eq_true rfl, Nat.le_of_ble_eq_true rfl⟩) (tP_V hK hX hXH hPc (q := 0) rfl rfl) rfl rfl hl.1 rfl (lv_room (Nat.le_of_ble_eq_true rfl)) d_Sw_isPossibleMove_5 ⟨Nat.le_of_ble_eq_true rfl, Nat.le_of_ble_eq_true rfl⟩)) (fun r1 hr9 => ?_)
  rw [hr9]
  refine lv_istore_n (lv' := [(3, .int (fu a - fu a / 2 * 2)), (0, .ref h0), (1, .int (nI a)), (2, .int (nI x))]) hx hb d_Sw_isPossibleMove_8 rfl hl (by decide) rfl (fun ls hl => ?_)
  refine lv_aload_n hx hb d_Sw_isPossibleMove_9 rfl (lv_at hl 1 rfl) ?_
  refine va_get (D := D) (ci := 5) (v := .ref hm) (C := R_Sw) (T := T_Sw) (N := 6) hx hb hts hin_Sw hown hK hP 0 rfl rfl 0 (by decide) (hts _ wd_201) (fun _ h9 => h9) rfl d_Sw_isPossibleMove_10 ?_
  refine lv_iload_n hx hb d_Sw_isPossibleMove_13 rfl (lv_at hl 0 rfl) ?_
  refine lv_iload_n hx hb d_Sw_isPossibleMove_14 rfl (lv_at hl 2 rfl) ?_
  refine lv_iload_n hx hb d_Sw_isPossibleMove_15 rfl (lv_at hl 3 rfl) ?_
  have hPc := hP.sub (ws' := [(hm, .inr (4, [.int (nI n), .int (mI S), .int (mI Ce), .ref qh, .ref qn])), (qn, .inl (cI, 12, .inl (fun j => mI (N j))))]) [1, 2] rfl
  refine vp_callSi (va_Run.run (va_runV (As := [.int (fu a - fu a / 2 * 2), .int (nI a), .int (nI x)]) (rest := []) ⟨hx, hb, hml, hown, hts⟩ (c_Wm_canGo l D cI cZ cJ cS aT ceT  hm qh qn n S Ce N (fu a - fu a / 2 * 2) a x h_a h_x) (cwV 3 hts (tb_4 wd_275 wd_276 wd_277 wd_2 (tb_c wd_278)) rfl rfl rfl ⟨rfl, by decide, by decide, by decide +kernel⟩ ⟨Nat.le_of_ble_eq_true rfl, Nat.le_of_ble_eq_true rfl⟩) (tP_V hK hX hXH hPc (q := 0) rfl rfl) rfl rfl hl.1 rfl (lv_room (Nat.le_of_ble_eq_true rfl)) d_Sw_isPossibleMove_16 ⟨Nat.le_of_ble_eq_true rfl, Nat.le_of_ble_eq_true rfl⟩)) (fun r2 hr9 => ?_)
  rw [hr9]
  rcases bI_c (N a x && ((S a || S x) == decide ((fu a - fu a / 2 * 2) = 1))) with ⟨hb4, e9⟩ | ⟨hb4, e9⟩
  · refine tr_top e9 ?_
    refine lv_if_ne (tgt := 42) hx hb d_Sw_isPossibleMove_19 (by decide) (fun _ => ?_) (fun h0 => absurd h0 (by decide))
    refine lv_iconst (v := 1) hx hb d_Sw_isPossibleMove_42 (by decide) ?_
    refine lv_goto (tgt := 47) hx hb d_Sw_isPossibleMove_43 (by decide) ?_
    exact W.zret (v := 1) hx hb hr (by decide) (fun t ht hW => ⟨1, rfl, (bI_t (by simp only [pmC, goC, hb4] <;> simp [hb4])).symm, ht⟩) (fun q hq => by cases hq) d_Sw_isPossibleMove_47
  · refine tr_top e9 ?_
    refine lv_if_ne (tgt := 42) hx hb d_Sw_isPossibleMove_19 (by decide) (fun h0 => absurd (by decide) h0) (fun _ => ?_)
    refine lv_iload_n hx hb d_Sw_isPossibleMove_22 rfl (lv_at hl 0 rfl) ?_
    refine lv_if_ne (tgt := 46) hx hb d_Sw_isPossibleMove_23 (by decide) (fun hc7 => ?_) (fun hc7 => ?_)
    · -- 23 taken
      refine lv_iconst (v := 0) hx hb d_Sw_isPossibleMove_46 (by decide) ?_
      exact W.zret (v := 0) hx hb hr (by decide) (fun t ht hW => ⟨0, rfl, (bI_f (by simp only [pmC, goC, hb4] <;> simp [hb4, hc7])).symm, ht⟩) (fun q hq => by cases hq) d_Sw_isPossibleMove_47
    · -- 23 not taken
      refine lv_iload_n hx hb d_Sw_isPossibleMove_26 rfl (lv_at hl 3 rfl) ?_
      refine lv_iload_n hx hb d_Sw_isPossibleMove_27 rfl (lv_at hl 2 rfl) ?_
      refine lv_icmp_eq (tgt := 46) hx hb d_Sw_isPossibleMove_28 (by decide) (fun hc8 => ?_) (fun hc8 => ?_)
      · -- 28 taken
        have hc8 : x = a := (nI_lit (Nat.lt_trans h_x (by decide)) (Nat.lt_trans h_a (by decide))).mp hc8
        refine lv_iconst (v := 0) hx hb d_Sw_isPossibleMove_46 (by decide) ?_
        exact W.zret (v := 0) hx hb hr (by decide) (fun t ht hW => ⟨0, rfl, (bI_f (by simp only [pmC, goC, hb4] <;> simp [hb4, hc7, hc8])).symm, ht⟩) (fun q hq => by cases hq) d_Sw_isPossibleMove_47
      · -- 28 not taken
        have hc8 : ¬ x = a := fun h9 => hc8 (congrArg nI h9)
        refine lv_aload_n hx hb d_Sw_isPossibleMove_31 rfl (lv_at hl 1 rfl) ?_
        refine va_get (D := D) (ci := 5) (v := .ref hm) (C := R_Sw) (T := T_Sw) (N := 6) hx hb hts hin_Sw hown hK hP 0 rfl rfl 0 (by decide) (hts _ wd_201) (fun _ h9 => h9) rfl d_Sw_isPossibleMove_32 ?_
        refine lv_iload_n hx hb d_Sw_isPossibleMove_35 rfl (lv_at hl 3 rfl) ?_
        have hPc := hP.sub (ws' := [(hm, .inr (4, [.int (nI n), .int (mI S), .int (mI Ce), .ref qh, .ref qn]))]) [1] rfl
        refine vp_callSi (va_Run.run (va_runV (As := [.int (nI x)]) (rest := []) ⟨hx, hb, hml, hown, hts⟩ (c_Wm_isSea l D cI cZ cJ cS aT ceT  hm qh qn n S Ce x h_x) (cwV 1 hts (tb_4 wd_478 wd_280 wd_281 wd_2 (tb_c wd_282)) rfl rfl rfl ⟨rfl, by decide, by decide, by decide +kernel⟩ ⟨Nat.le_of_ble_eq_true rfl, Nat.le_of_ble_eq_true rfl⟩) (tP_V hK hX hXH hPc (q := 0) rfl rfl) rfl rfl hl.1 rfl (lv_room (Nat.le_of_ble_eq_true rfl)) d_Sw_isPossibleMove_36 ⟨Nat.le_of_ble_eq_true rfl, Nat.le_of_ble_eq_true rfl⟩)) (fun r9 hr9 => ?_)
        rw [hr9]
        rcases bI_c (S x) with ⟨hb11, e9⟩ | ⟨hb11, e9⟩
        · refine tr_top e9 ?_
          refine lv_if_ne (tgt := 46) hx hb d_Sw_isPossibleMove_39 (by decide) (fun _ => ?_) (fun h0 => absurd h0 (by decide))
          refine lv_iconst (v := 0) hx hb d_Sw_isPossibleMove_46 (by decide) ?_
          exact W.zret (v := 0) hx hb hr (by decide) (fun t ht hW => ⟨0, rfl, (bI_f (by simp only [pmC, goC, hb4, hb11] <;> simp [hb4, hc7, hc8, hb11])).symm, ht⟩) (fun q hq => by cases hq) d_Sw_isPossibleMove_47
        · refine tr_top e9 ?_
          refine lv_if_ne (tgt := 46) hx hb d_Sw_isPossibleMove_39 (by decide) (fun h0 => absurd (by decide) h0) (fun _ => ?_)
          refine lv_iconst (v := 1) hx hb d_Sw_isPossibleMove_42 (by decide) ?_
          refine lv_goto (tgt := 47) hx hb d_Sw_isPossibleMove_43 (by decide) ?_
          exact W.zret (v := 1) hx hb hr (by decide) (fun t ht hW => ⟨1, rfl, (bI_t (by simp only [pmC, goC, hb4, hb11] <;> simp [hb4, hc7, hc8, hb11])).symm, ht⟩) (fun q hq => by cases hq) d_Sw_isPossibleMove_47

theorem d_Sw_isPossibleConvoy_0 : decode b_Sw_isPossibleConvoy 0 = .ok (.aload_n 0, 1) := by decide +kernel
theorem d_Sw_isPossibleConvoy_1 : decode b_Sw_isPossibleConvoy 1 = .ok (.getfield 19, 3) := by decide +kernel
theorem d_Sw_isPossibleConvoy_4 : decode b_Sw_isPossibleConvoy 4 = .ok (.iload_n 1, 1) := by decide +kernel
theorem d_Sw_isPossibleConvoy_5 : decode b_Sw_isPossibleConvoy 5 = .ok (.invokevirtual 189, 3) := by decide +kernel
theorem d_Sw_isPossibleConvoy_8 : decode b_Sw_isPossibleConvoy 8 = .ok (.iconst 1, 1) := by decide +kernel
theorem d_Sw_isPossibleConvoy_9 : decode b_Sw_isPossibleConvoy 9 = .ok (.if_icmp .ne 18, 3) := by decide +kernel
theorem d_Sw_isPossibleConvoy_12 : decode b_Sw_isPossibleConvoy 12 = .ok (.aload_n 0, 1) := by decide +kernel
theorem d_Sw_isPossibleConvoy_13 : decode b_Sw_isPossibleConvoy 13 = .ok (.getfield 13, 3) := by decide +kernel
theorem d_Sw_isPossibleConvoy_16 : decode b_Sw_isPossibleConvoy 16 = .ok (.iload_n 1, 1) := by decide +kernel
theorem d_Sw_isPossibleConvoy_17 : decode b_Sw_isPossibleConvoy 17 = .ok (.invokevirtual 199, 3) := by decide +kernel
theorem d_Sw_isPossibleConvoy_20 : decode b_Sw_isPossibleConvoy 20 = .ok (.ifCond .eq 7, 3) := by decide +kernel
theorem d_Sw_isPossibleConvoy_23 : decode b_Sw_isPossibleConvoy 23 = .ok (.iconst 1, 1) := by decide +kernel
theorem d_Sw_isPossibleConvoy_24 : decode b_Sw_isPossibleConvoy 24 = .ok (.goto 4, 3) := by decide +kernel
theorem d_Sw_isPossibleConvoy_27 : decode b_Sw_isPossibleConvoy 27 = .ok (.iconst 0, 1) := by decide +kernel
theorem d_Sw_isPossibleConvoy_28 : decode b_Sw_isPossibleConvoy 28 = .ok (.istore 4, 2) := by decide +kernel
theorem d_Sw_isPossibleConvoy_30 : decode b_Sw_isPossibleConvoy 30 = .ok (.aload_n 0, 1) := by decide +kernel
theorem d_Sw_isPossibleConvoy_31 : decode b_Sw_isPossibleConvoy 31 = .ok (.getfield 19, 3) := by decide +kernel
theorem d_Sw_isPossibleConvoy_34 : decode b_Sw_isPossibleConvoy 34 = .ok (.iload_n 2, 1) := by decide +kernel
theorem d_Sw_isPossibleConvoy_35 : decode b_Sw_isPossibleConvoy 35 = .ok (.invokevirtual 78, 3) := by decide +kernel
theorem d_Sw_isPossibleConvoy_38 : decode b_Sw_isPossibleConvoy 38 = .ok (.ifCond .eq 18, 3) := by decide +kernel
theorem d_Sw_isPossibleConvoy_41 : decode b_Sw_isPossibleConvoy 41 = .ok (.aload_n 0, 1) := by decide +kernel
theorem d_Sw_isPossibleConvoy_42 : decode b_Sw_isPossibleConvoy 42 = .ok (.getfield 19, 3) := by decide +kernel
theorem d_Sw_isPossibleConvoy_45 : decode b_Sw_isPossibleConvoy 45 = .ok (.iload_n 2, 1) := by decide +kernel
theorem d_Sw_isPossibleConvoy_46 : decode b_Sw_isPossibleConvoy 46 = .ok (.invokevirtual 189, 3) := by decide +kernel
theorem d_Sw_isPossibleConvoy_49 : decode b_Sw_isPossibleConvoy 49 = .ok (.ifCond .ne 7, 3) := by decide +kernel
theorem d_Sw_isPossibleConvoy_52 : decode b_Sw_isPossibleConvoy 52 = .ok (.iconst 1, 1) := by decide +kernel
theorem d_Sw_isPossibleConvoy_53 : decode b_Sw_isPossibleConvoy 53 = .ok (.goto 4, 3) := by decide +kernel
theorem d_Sw_isPossibleConvoy_56 : decode b_Sw_isPossibleConvoy 56 = .ok (.iconst 0, 1) := by decide +kernel
theorem d_Sw_isPossibleConvoy_57 : decode b_Sw_isPossibleConvoy 57 = .ok (.istore 5, 2) := by decide +kernel
theorem d_Sw_isPossibleConvoy_59 : decode b_Sw_isPossibleConvoy 59 = .ok (.iload 4, 2) := by decide +kernel
theorem d_Sw_isPossibleConvoy_61 : decode b_Sw_isPossibleConvoy 61 = .ok (.ifCond .eq 28, 3) := by decide +kernel
theorem d_Sw_isPossibleConvoy_64 : decode b_Sw_isPossibleConvoy 64 = .ok (.iload 5, 2) := by decide +kernel
theorem d_Sw_isPossibleConvoy_66 : decode b_Sw_isPossibleConvoy 66 = .ok (.ifCond .eq 23, 3) := by decide +kernel
theorem d_Sw_isPossibleConvoy_69 : decode b_Sw_isPossibleConvoy 69 = .ok (.iload_n 3, 1) := by decide +kernel
theorem d_Sw_isPossibleConvoy_70 : decode b_Sw_isPossibleConvoy 70 = .ok (.iload_n 2, 1) := by decide +kernel
theorem d_Sw_isPossibleConvoy_71 : decode b_Sw_isPossibleConvoy 71 = .ok (.if_icmp .eq 18, 3) := by decide +kernel
theorem d_Sw_isPossibleConvoy_74 : decode b_Sw_isPossibleConvoy 74 = .ok (.aload_n 0, 1) := by decide +kernel
theorem d_Sw_isPossibleConvoy_75 : decode b_Sw_isPossibleConvoy 75 = .ok (.getfield 13, 3) := by decide +kernel
theorem d_Sw_isPossibleConvoy_78 : decode b_Sw_isPossibleConvoy 78 = .ok (.iload_n 3, 1) := by decide +kernel
theorem d_Sw_isPossibleConvoy_79 : decode b_Sw_isPossibleConvoy 79 = .ok (.invokevirtual 199, 3) := by decide +kernel
theorem d_Sw_isPossibleConvoy_82 : decode b_Sw_isPossibleConvoy 82 = .ok (.ifCond .ne 7, 3) := by decide +kernel
theorem d_Sw_isPossibleConvoy_85 : decode b_Sw_isPossibleConvoy 85 = .ok (.iconst 1, 1) := by decide +kernel
theorem d_Sw_isPossibleConvoy_86 : decode b_Sw_isPossibleConvoy 86 = .ok (.goto 4, 3) := by decide +kernel
theorem d_Sw_isPossibleConvoy_89 : decode b_Sw_isPossibleConvoy 89 = .ok (.iconst 0, 1) := by decide +kernel
theorem d_Sw_isPossibleConvoy_90 : decode b_Sw_isPossibleConvoy 90 = .ok (.ireturn, 1) := by decide +kernel
theorem wd_286 : (Cond.methodLink "SheetWar" (78 : Nat) ({ cls := "SheetWar$Sheet", name := "hasUnit", desc := "(I)Z" } : MethodName)) ∈ TB := tb_t 286 (by decide +kernel) (by decide +kernel)
set_option maxHeartbeats 4000000 in
set_option maxRecDepth 100000 in
theorem c_Sw_possConvoy (l : Launch) (D : va_G) (cI cZ cJ cS : ClassId) (aT : Nat) (ceT : Cell) (h0 hm hh he ha hp : Nat) (ph : Int32) (qh qn n : Nat) (S Ce : Nat → Bool) (tn : Int32) (qu qo qx qy qr qw : Nat) (fu : Nat → Int32) (a : Nat) (x : Nat) (y : Nat)  (h_a : a < 12) (h_x : x < 12) (h_y : y < 12) : Met l y_Sw_isPossibleConvoy w_Sw_isPossibleConvoy ({ frames := 2, cells := 0, slots := 0, locals := 42 }) (tP D cI cZ cJ cS aT ceT [.ref h0, .int (nI a), .int (nI x), .int (nI y)] [(h0, .inr (5, [.ref hm, .ref hh, .ref he, .ref ha, .ref hp, .int ph])), (hm, .inr (4, [.int (nI n), .int (mI S), .int (mI Ce), .ref qh, .ref qn])), (hh, .inr (3, [.int tn, .ref qu, .ref qo, .ref qx, .ref qy, .ref qr, .ref qw])), (qu, .inl (cI, 12, .inl fu))]) (vp_Si (fun r => r = bI (pvC S fu a x y))) 0 0 (fun _ => False) := by
  refine Met.ofW (cc := b_Sw_isPossibleConvoy) (maxL := 6) (ret := (some .boolean)) (by decide) rfl ?_
  intro p e s m args below meth c s₁ B hml hv
  obtain ⟨rfl, hP, hK, hX⟩ := hv
  have hx := B.exec
  have hb := B.bytes
  have hr := B.returns
  have hts0 := atoms_spec (ws := w_Sw_isPossibleConvoy) B.pre
  have hts : ∀ w ∈ TB, w.before _ s = true := fun w h => hts0 w (List.mem_cons_of_mem _ h)
  have hown : s.vm.findClass R_Sw = some m.cls := findClass_of_methodNamed B.named
  have hlocks := B.notSynchronized
  have hXH : s.heap[aT]? = s.heap[aT]? := rfl
  have hl := lv_entry ([.ref h0, .int (nI a), .int (nI x), .int (nI y)]) (n := 6) (Nat.le_of_ble_eq_true rfl)
  rw [lg_entry_eq]
  generalize (lg_sl ([.ref h0, .int (nI a), .int (nI x), .int (nI y)]) ++ List.replicate (6 - (lg_sl ([.ref h0, .int (nI a), .int (nI x), .int (nI y)])).length) Slot.unset).toArray = ls at hl ⊢
  have hl : lv_has ls 6 [(0, .ref h0), (1, .int (nI a)), (2, .int (nI x)), (3, .int (nI y))] := hl
  refine lv_aload_n hx hb d_Sw_isPossibleConvoy_0 rfl (lv_at hl 0 rfl) ?_
  refine va_get (D := D) (ci := 5) (v := .ref hh) (C := R_Sw) (T := T_Sw) (N := 6) hx hb hts hin_Sw hown hK hP 0 rfl rfl 1 (by decide) (hts _ wd_202) (fun _ h9 => h9) rfl d_Sw_isPossibleConvoy_1 ?_
  refine lv_iload_n hx hb d_Sw_isPossibleConvoy_4 rfl (lv_at hl 1 rfl) ?_
  have hPc := hP.sub (ws' := [(hh, .inr (3, [.int tn, .ref qu, .ref qo, .ref qx, .ref qy, .ref qr, .ref qw])), (qu, .inl (cI, 12, .inl fu))]) [2, 3] rfl
  refine vp_callSi (va_Run.run (va_runV (As := [.int (nI a)]) (rest := []) ⟨hx, hb, hml, hown, hts⟩ (c_Sh_kindAtP l D cI cZ cJ cS aT ceT  hh tn qu qo qx qy qr qw fu a h_a) (cwV 1 hts (tb_4 wd_474 wd_475 wd_476 wd_3 (tb_c wd_477)) rfl rfl rfl ⟨rfl, by decide, by decide, by decide +kernel⟩ ⟨Nat.le_of_ble_eq_true rfl, Nat.le_of_ble_eq_true rfl⟩) (tP_V hK hX hXH hPc (q := 0) rfl rfl) rfl rfl hl.1 rfl (lv_room (Nat.le_of_ble_eq_true rfl)) d_Sw_isPossibleConvoy_5 ⟨Nat.le_of_ble_eq_true rfl, Nat.le_of_ble_eq_true rfl⟩)) (fun r1 hr9 => ?_)
  rw [hr9]
  refine lv_iconst (v := 1) hx hb d_Sw_isPossibleConvoy_8 (by decide) ?_
  refine lv_icmp_ne (tgt := 27) hx hb d_Sw_isPossibleConvoy_9 (by decide) (fun hc2 => ?_) (fun hc2 => ?_)
  · -- 9 taken
    refine lv_iconst (v := 0) hx hb d_Sw_isPossibleConvoy_27 (by decide) ?_
    refine lv_istore (lv' := [(4, .int 0), (0, .ref h0), (1, .int (nI a)), (2, .int (nI x)), (3, .int (nI y))]) hx hb d_Sw_isPossibleConvoy_28 hl (by decide) rfl (fun ls hl => ?_)
    refine lv_aload_n hx hb d_Sw_isPossibleConvoy_30 rfl (lv_at hl 1 rfl) ?_
    refine va_get (D := D) (ci := 5) (v := .ref hh) (C := R_Sw) (T := T_Sw) (N := 6) hx hb hts hin_Sw hown hK hP 0 rfl rfl 1 (by decide) (hts _ wd_202) (fun _ h9 => h9) rfl d_Sw_isPossibleConvoy_31 ?_
    refine lv_iload_n hx hb d_Sw_isPossibleConvoy_34 rfl (lv_at hl 3 rfl) ?_
    have hPc := hP.sub (ws' := [(hh, .inr (3, [.int tn, .ref qu, .ref qo, .ref qx, .ref qy, .ref qr, .ref qw])), (qu, .inl (cI, 12, .inl fu))]) [2, 3] rfl
    refine vp_callSi (va_Run.run (va_runV (As := [.int (nI x)]) (rest := []) ⟨hx, hb, hml, hown, hts⟩ (c_Sh_hasUnitP l D cI cZ cJ cS aT ceT  hh tn qu qo qx qy qr qw fu x h_x) (cwV 1 hts (tb_4 wd_286 wd_287 wd_288 wd_3 (tb_c wd_289)) rfl rfl rfl ⟨rfl, by decide, by decide, by decide +kernel⟩ ⟨Nat.le_of_ble_eq_true rfl, Nat.le_of_ble_eq_true rfl⟩) (tP_V hK hX hXH hPc (q := 0) rfl rfl) rfl rfl hl.1 rfl (lv_room (Nat.le_of_ble_eq_true rfl)) d_Sw_isPossibleConvoy_35 ⟨Nat.le_of_ble_eq_true rfl, Nat.le_of_ble_eq_true rfl⟩)) (fun r3 hr9 => ?_)
    rw [hr9]
    rcases bI_c (!decide (fu x = -1)) with ⟨hb5, e9⟩ | ⟨hb5, e9⟩
    · refine tr_top e9 ?_
      refine lv_if_eq (tgt := 56) hx hb d_Sw_isPossibleConvoy_38 (by decide) (fun h0 => absurd h0 (by decide)) (fun _ => ?_)
      refine lv_aload_n hx hb d_Sw_isPossibleConvoy_41 rfl (lv_at hl 1 rfl) ?_
      refine va_get (D := D) (ci := 5) (v := .ref hh) (C := R_Sw) (T := T_Sw) (N := 6) hx hb hts hin_Sw hown hK hP 0 rfl rfl 1 (by decide) (hts _ wd_202) (fun _ h9 => h9) rfl d_Sw_isPossibleConvoy_42 ?_
      refine lv_iload_n hx hb d_Sw_isPossibleConvoy_45 rfl (lv_at hl 3 rfl) ?_
      have hPc := hP.sub (ws' := [(hh, .inr (3, [.int tn, .ref qu, .ref qo, .ref qx, .ref qy, .ref qr, .ref qw])), (qu, .inl (cI, 12, .inl fu))]) [2, 3] rfl
      refine vp_callSi (va_Run.run (va_runV (As := [.int (nI x)]) (rest := []) ⟨hx, hb, hml, hown, hts⟩ (c_Sh_kindAtP l D cI cZ cJ cS aT ceT  hh tn qu qo qx qy qr qw fu x h_x) (cwV 1 hts (tb_4 wd_474 wd_475 wd_476 wd_3 (tb_c wd_477)) rfl rfl rfl ⟨rfl, by decide, by decide, by decide +kernel⟩ ⟨Nat.le_of_ble_eq_true rfl, Nat.le_of_ble_eq_true rfl⟩) (tP_V hK hX hXH hPc (q := 0) rfl rfl) rfl rfl hl.1 rfl (lv_room (Nat.le_of_ble_eq_true rfl)) d_Sw_isPossibleConvoy_46 ⟨Nat.le_of_ble_eq_true rfl, Nat.le_of_ble_eq_true rfl⟩)) (fun r7 hr9 => ?_)
      rw [hr9]
      refine lv_if_ne (tgt := 56) hx hb d_Sw_isPossibleConvoy_49 (by decide) (fun hc8 => ?_) (fun hc8 => ?_)
      · -- 49 taken
        refine lv_iconst (v := 0) hx hb d_Sw_isPossibleConvoy_56 (by decide) ?_
        refine lv_istore (lv' := [(5, .int 0), (4, .int 0), (0, .ref h0), (1, .int (nI a)), (2, .int (nI x)), (3, .int (nI y))]) hx hb d_Sw_isPossibleConvoy_57 hl (by decide) rfl (fun ls hl => ?_)
        refine lv_iload hx hb d_Sw_isPossibleConvoy_59 (lv_at hl 1 rfl) ?_
        refine lv_if_eq (tgt := 89) hx hb d_Sw_isPossibleConvoy_61 (by decide) (fun _ => ?_) (fun h0 => absurd (by decide) h0)
        refine lv_iconst (v := 0) hx hb d_Sw_isPossibleConvoy_89 (by decide) ?_
        exact W.zret (v := 0) hx hb hr (by decide) (fun t ht hW => ⟨0, rfl, (bI_f (by simp [pvC, hc2, hb5, hc8])).symm, ht⟩) (fun q hq => by cases hq) d_Sw_isPossibleConvoy_90
      · -- 49 not taken
        refine lv_iconst (v := 1) hx hb d_Sw_isPossibleConvoy_52 (by decide) ?_
        refine lv_goto (tgt := 57) hx hb d_Sw_isPossibleConvoy_53 (by decide) ?_
        refine lv_istore (lv' := [(5, .int 1), (4, .int 0), (0, .ref h0), (1, .int (nI a)), (2, .int (nI x)), (3, .int (nI y))]) hx hb d_Sw_isPossibleConvoy_57 hl (by decide) rfl (fun ls hl => ?_)
        refine lv_iload hx hb d_Sw_isPossibleConvoy_59 (lv_at hl 1 rfl) ?_
        refine lv_if_eq (tgt := 89) hx hb d_Sw_isPossibleConvoy_61 (by decide) (fun _ => ?_) (fun h0 => absurd (by decide) h0)
        refine lv_iconst (v := 0) hx hb d_Sw_isPossibleConvoy_89 (by decide) ?_
        exact W.zret (v := 0) hx hb hr (by decide) (fun t ht hW => ⟨0, rfl, (bI_f (by simp [pvC, hc2, hb5, hc8])).symm, ht⟩) (fun q hq => by cases hq) d_Sw_isPossibleConvoy_90
    · refine tr_top e9 ?_
      refine lv_if_eq (tgt := 56) hx hb d_Sw_isPossibleConvoy_38 (by decide) (fun _ => ?_) (fun h0 => absurd (by decide) h0)
      refine lv_iconst (v := 0) hx hb d_Sw_isPossibleConvoy_56 (by decide) ?_
      refine lv_istore (lv' := [(5, .int 0), (4, .int 0), (0, .ref h0), (1, .int (nI a)), (2, .int (nI x)), (3, .int (nI y))]) hx hb d_Sw_isPossibleConvoy_57 hl (by decide) rfl (fun ls hl => ?_)
      refine lv_iload hx hb d_Sw_isPossibleConvoy_59 (lv_at hl 1 rfl) ?_
      refine lv_if_eq (tgt := 89) hx hb d_Sw_isPossibleConvoy_61 (by decide) (fun _ => ?_) (fun h0 => absurd (by decide) h0)
      refine lv_iconst (v := 0) hx hb d_Sw_isPossibleConvoy_89 (by decide) ?_
      exact W.zret (v := 0) hx hb hr (by decide) (fun t ht hW => ⟨0, rfl, (bI_f (by simp [pvC, hc2, hb5])).symm, ht⟩) (fun q hq => by cases hq) d_Sw_isPossibleConvoy_90
  · -- 9 not taken
    refine lv_aload_n hx hb d_Sw_isPossibleConvoy_12 rfl (lv_at hl 0 rfl) ?_
    refine va_get (D := D) (ci := 5) (v := .ref hm) (C := R_Sw) (T := T_Sw) (N := 6) hx hb hts hin_Sw hown hK hP 0 rfl rfl 0 (by decide) (hts _ wd_201) (fun _ h9 => h9) rfl d_Sw_isPossibleConvoy_13 ?_
    refine lv_iload_n hx hb d_Sw_isPossibleConvoy_16 rfl (lv_at hl 1 rfl) ?_
    have hPc := hP.sub (ws' := [(hm, .inr (4, [.int (nI n), .int (mI S), .int (mI Ce), .ref qh, .ref qn]))]) [1] rfl
    refine vp_callSi (va_Run.run (va_runV (As := [.int (nI a)]) (rest := []) ⟨hx, hb, hml, hown, hts⟩ (c_Wm_isSea l D cI cZ cJ cS aT ceT  hm qh qn n S Ce a h_a) (cwV 1 hts (tb_4 wd_478 wd_280 wd_281 wd_2 (tb_c wd_282)) rfl rfl rfl ⟨rfl, by decide, by decide, by decide +kernel⟩ ⟨Nat.le_of_ble_eq_true rfl, Nat.le_of_ble_eq_true rfl⟩) (tP_V hK hX hXH hPc (q := 0) rfl rfl) rfl rfl hl.1 rfl (lv_room (Nat.le_of_ble_eq_true rfl)) d_Sw_isPossibleConvoy_17 ⟨Nat.le_of_ble_eq_true rfl, Nat.le_of_ble_eq_true rfl⟩)) (fun r13 hr9 => ?_)
    rw [hr9]
    rcases bI_c (S a) with ⟨hb15, e9⟩ | ⟨hb15, e9⟩
    · refine tr_top e9 ?_
      refine lv_if_eq (tgt := 27) hx hb d_Sw_isPossibleConvoy_20 (by decide) (fun h0 => absurd h0 (by decide)) (fun _ => ?_)
      refine lv_iconst (v := 1) hx hb d_Sw_isPossibleConvoy_23 (by decide) ?_
      refine lv_goto (tgt := 28) hx hb d_Sw_isPossibleConvoy_24 (by decide) ?_
      refine lv_istore (lv' := [(4, .int 1), (0, .ref h0), (1, .int (nI a)), (2, .int (nI x)), (3, .int (nI y))]) hx hb d_Sw_isPossibleConvoy_28 hl (by decide) rfl (fun ls hl => ?_)
      refine lv_aload_n hx hb d_Sw_isPossibleConvoy_30 rfl (lv_at hl 1 rfl) ?_
      refine va_get (D := D) (ci := 5) (v := .ref hh) (C := R_Sw) (T := T_Sw) (N := 6) hx hb hts hin_Sw hown hK hP 0 rfl rfl 1 (by decide) (hts _ wd_202) (fun _ h9 => h9) rfl d_Sw_isPossibleConvoy_31 ?_
      refine lv_iload_n hx hb d_Sw_isPossibleConvoy_34 rfl (lv_at hl 3 rfl) ?_
      have hPc := hP.sub (ws' := [(hh, .inr (3, [.int tn, .ref qu, .ref qo, .ref qx, .ref qy, .ref qr, .ref qw])), (qu, .inl (cI, 12, .inl fu))]) [2, 3] rfl
      refine vp_callSi (va_Run.run (va_runV (As := [.int (nI x)]) (rest := []) ⟨hx, hb, hml, hown, hts⟩ (c_Sh_hasUnitP l D cI cZ cJ cS aT ceT  hh tn qu qo qx qy qr qw fu x h_x) (cwV 1 hts (tb_4 wd_286 wd_287 wd_288 wd_3 (tb_c wd_289)) rfl rfl rfl ⟨rfl, by decide, by decide, by decide +kernel⟩ ⟨Nat.le_of_ble_eq_true rfl, Nat.le_of_ble_eq_true rfl⟩) (tP_V hK hX hXH hPc (q := 0) rfl rfl) rfl rfl hl.1 rfl (lv_room (Nat.le_of_ble_eq_true rfl)) d_Sw_isPossibleConvoy_35 ⟨Nat.le_of_ble_eq_true rfl, Nat.le_of_ble_eq_true rfl⟩)) (fun r17 hr9 => ?_)
      rw [hr9]
      rcases bI_c (!decide (fu x = -1)) with ⟨hb19, e9⟩ | ⟨hb19, e9⟩
      · refine tr_top e9 ?_
        refine lv_if_eq (tgt := 56) hx hb d_Sw_isPossibleConvoy_38 (by decide) (fun h0 => absurd h0 (by decide)) (fun _ => ?_)
        refine lv_aload_n hx hb d_Sw_isPossibleConvoy_41 rfl (lv_at hl 1 rfl) ?_
        refine va_get (D := D) (ci := 5) (v := .ref hh) (C := R_Sw) (T := T_Sw) (N := 6) hx hb hts hin_Sw hown hK hP 0 rfl rfl 1 (by decide) (hts _ wd_202) (fun _ h9 => h9) rfl d_Sw_isPossibleConvoy_42 ?_
        refine lv_iload_n hx hb d_Sw_isPossibleConvoy_45 rfl (lv_at hl 3 rfl) ?_
        have hPc := hP.sub (ws' := [(hh, .inr (3, [.int tn, .ref qu, .ref qo, .ref qx, .ref qy, .ref qr, .ref qw])), (qu, .inl (cI, 12, .inl fu))]) [2, 3] rfl
        refine vp_callSi (va_Run.run (va_runV (As := [.int (nI x)]) (rest := []) ⟨hx, hb, hml, hown, hts⟩ (c_Sh_kindAtP l D cI cZ cJ cS aT ceT  hh tn qu qo qx qy qr qw fu x h_x) (cwV 1 hts (tb_4 wd_474 wd_475 wd_476 wd_3 (tb_c wd_477)) rfl rfl rfl ⟨rfl, by decide, by decide, by decide +kernel⟩ ⟨Nat.le_of_ble_eq_true rfl, Nat.le_of_ble_eq_true rfl⟩) (tP_V hK hX hXH hPc (q := 0) rfl rfl) rfl rfl hl.1 rfl (lv_room (Nat.le_of_ble_eq_true rfl)) d_Sw_isPossibleConvoy_46 ⟨Nat.le_of_ble_eq_true rfl, Nat.le_of_ble_eq_true rfl⟩)) (fun r21 hr9 => ?_)
        rw [hr9]
        refine lv_if_ne (tgt := 56) hx hb d_Sw_isPossibleConvoy_49 (by decide) (fun hc22 => ?_) (fun hc22 => ?_)
        · -- 49 taken
          refine lv_iconst (v := 0) hx hb d_Sw_isPossibleConvoy_56 (by decide) ?_
          refine lv_istore (lv' := [(5, .int 0), (4, .int 1), (0, .ref h0), (1, .int (nI a)), (2, .int (nI x)), (3, .int (nI y))]) hx hb d_Sw_isPossibleConvoy_57 hl (by decide) rfl (fun ls hl => ?_)
          refine lv_iload hx hb d_Sw_isPossibleConvoy_59 (lv_at hl 1 rfl) ?_
          refine lv_if_eq (tgt := 89) hx hb d_Sw_isPossibleConvoy_61 (by decide) (fun h0 => absurd h0 (by decide)) (fun _ => ?_)
          refine lv_iload hx hb d_Sw_isPossibleConvoy_64 (lv_at hl 0 rfl) ?_
          refine lv_if_eq (tgt := 89) hx hb d_Sw_isPossibleConvoy_66 (by decide) (fun _ => ?_) (fun h0 => absurd (by decide) h0)
          refine lv_iconst (v := 0) hx hb d_Sw_isPossibleConvoy_89 (by decide) ?_
          exact W.zret (v := 0) hx hb hr (by decide) (fun t ht hW => ⟨0, rfl, (bI_f (by simp [pvC, hc2, hb15, hb19, hc22])).symm, ht⟩) (fun q hq => by cases hq) d_Sw_isPossibleConvoy_90
        · -- 49 not taken
          refine lv_iconst (v := 1) hx hb d_Sw_isPossibleConvoy_52 (by decide) ?_
          refine lv_goto (tgt := 57) hx hb d_Sw_isPossibleConvoy_53 (by decide) ?_
          refine lv_istore (lv' := [(5, .int 1), (4, .int 1), (0, .ref h0), (1, .int (nI a)), (2, .int (nI x)), (3, .int (nI y))]) hx hb d_Sw_isPossibleConvoy_57 hl (by decide) rfl (fun ls hl => ?_)
          refine lv_iload hx hb d_Sw_isPossibleConvoy_59 (lv_at hl 1 rfl) ?_
          refine lv_if_eq (tgt := 89) hx hb d_Sw_isPossibleConvoy_61 (by decide) (fun h0 => absurd h0 (by decide)) (fun _ => ?_)
          refine lv_iload hx hb d_Sw_isPossibleConvoy_64 (lv_at hl 0 rfl) ?_
          refine lv_if_eq (tgt := 89) hx hb d_Sw_isPossibleConvoy_66 (by decide) (fun h0 => absurd h0 (by decide)) (fun _ => ?_)
          refine lv_iload_n hx hb d_Sw_isPossibleConvoy_69 rfl (lv_at hl 5 rfl) ?_
          refine lv_iload_n hx hb d_Sw_isPossibleConvoy_70 rfl (lv_at hl 4 rfl) ?_
          refine lv_icmp_eq (tgt := 89) hx hb d_Sw_isPossibleConvoy_71 (by decide) (fun hc27 => ?_) (fun hc27 => ?_)
          · -- 71 taken
            have hc27 : y = x := (nI_lit (Nat.lt_trans h_y (by decide)) (Nat.lt_trans h_x (by decide))).mp hc27
            refine lv_iconst (v := 0) hx hb d_Sw_isPossibleConvoy_89 (by decide) ?_
            exact W.zret (v := 0) hx hb hr (by decide) (fun t ht hW => ⟨0, rfl, (bI_f (by simp [pvC, hc2, hb15, hb19, hc22, hc27])).symm, ht⟩) (fun q hq => by cases hq) d_Sw_isPossibleConvoy_90
          · -- 71 not taken
            have hc27 : ¬ y = x := fun h9 => hc27 (congrArg nI h9)
            refine lv_aload_n hx hb d_Sw_isPossibleConvoy_74 rfl (lv_at hl 2 rfl) ?_
            refine va_get (D := D) (ci := 5) (v := .ref hm) (C := R_Sw) (T := T_Sw) (N := 6) hx hb hts hin_Sw hown hK hP 0 rfl rfl 0 (by decide) (hts _ wd_201) (fun _ h9 => h9) rfl d_Sw_isPossibleConvoy_75 ?_
            refine lv_iload_n hx hb d_Sw_isPossibleConvoy_78 rfl (lv_at hl 5 rfl) ?_
            have hPc := hP.sub (ws' := [(hm, .inr (4, [.int (nI n), .int (mI S), .int (mI Ce), .ref qh, .ref qn]))]) [1] rfl
            refine vp_callSi (va_Run.run (va_runV (As := [.int (nI y)]) (rest := []) ⟨hx, hb, hml, hown, hts⟩ (c_Wm_isSea l D cI cZ cJ cS aT ceT  hm qh qn n S Ce y h_y) (cwV 1 hts (tb_4 wd_478 wd_280 wd_281 wd_2 (tb_c wd_282)) rfl rfl rfl ⟨rfl, by decide, by decide, by decide +kernel⟩ ⟨Nat.le_of_ble_eq_true rfl, Nat.le_of_ble_eq_true rfl⟩) (tP_V hK hX hXH hPc (q := 0) rfl rfl) rfl rfl hl.1 rfl (lv_room (Nat.le_of_ble_eq_true rfl)) d_Sw_isPossibleConvoy_79 ⟨Nat.le_of_ble_eq_true rfl, Nat.le_of_ble_eq_true rfl⟩)) (fun r28 hr9 => ?_)
            rw [hr9]
            rcases bI_c (S y) with ⟨hb30, e9⟩ | ⟨hb30, e9⟩
            · refine tr_top e9 ?_
              refine lv_if_ne (tgt := 89) hx hb d_Sw_isPossibleConvoy_82 (by decide) (fun _ => ?_) (fun h0 => absurd h0 (by decide))
              refine lv_iconst (v := 0) hx hb d_Sw_isPossibleConvoy_89 (by decide) ?_
              exact W.zret (v := 0) hx hb hr (by decide) (fun t ht hW => ⟨0, rfl, (bI_f (by simp [pvC, hc2, hb15, hb19, hc22, hc27, hb30])).symm, ht⟩) (fun q hq => by cases hq) d_Sw_isPossibleConvoy_90
            · refine tr_top e9 ?_
              refine lv_if_ne (tgt := 89) hx hb d_Sw_isPossibleConvoy_82 (by decide) (fun h0 => absurd (by decide) h0) (fun _ => ?_)
              refine lv_iconst (v := 1) hx hb d_Sw_isPossibleConvoy_85 (by decide) ?_
              refine lv_goto (tgt := 90) hx hb d_Sw_isPossibleConvoy_86 (by decide) ?_
              exact W.zret (v := 1) hx hb hr (by decide) (fun t ht hW => ⟨1, rfl, (bI_t (by simp [pvC, hc2, hb15, hb19, hc22, hc27, hb30])).symm, ht⟩) (fun q hq => by cases hq) d_Sw_isPossibleConvoy_90
      · refine tr_top e9 ?_
        refine lv_if_eq (tgt := 56) hx hb d_Sw_isPossibleConvoy_38 (by decide) (fun _ => ?_) (fun h0 => absurd (by decide) h0)
        refine lv_iconst (v := 0) hx hb d_Sw_isPossibleConvoy_56 (by decide) ?_
        refine lv_istore (lv' := [(5, .int 0), (4, .int 1), (0, .ref h0), (1, .int (nI a)), (2, .int (nI x)), (3, .int (nI y))]) hx hb d_Sw_isPossibleConvoy_57 hl (by decide) rfl (fun ls hl => ?_)
        refine lv_iload hx hb d_Sw_isPossibleConvoy_59 (lv_at hl 1 rfl) ?_
        refine lv_if_eq (tgt := 89) hx hb d_Sw_isPossibleConvoy_61 (by decide) (fun h0 => absurd h0 (by decide)) (fun _ => ?_)
        refine lv_iload hx hb d_Sw_isPossibleConvoy_64 (lv_at hl 0 rfl) ?_
        refine lv_if_eq (tgt := 89) hx hb d_Sw_isPossibleConvoy_66 (by decide) (fun _ => ?_) (fun h0 => absurd (by decide) h0)
        refine lv_iconst (v := 0) hx hb d_Sw_isPossibleConvoy_89 (by decide) ?_
        exact W.zret (v := 0) hx hb hr (by decide) (fun t ht hW => ⟨0, rfl, (bI_f (by simp [pvC, hc2, hb15, hb19])).symm, ht⟩) (fun q hq => by cases hq) d_Sw_isPossibleConvoy_90
    · refine tr_top e9 ?_
      refine lv_if_eq (tgt := 27) hx hb d_Sw_isPossibleConvoy_20 (by decide) (fun _ => ?_) (fun h0 => absurd (by decide) h0)
      refine lv_iconst (v := 0) hx hb d_Sw_isPossibleConvoy_27 (by decide) ?_
      refine lv_istore (lv' := [(4, .int 0), (0, .ref h0), (1, .int (nI a)), (2, .int (nI x)), (3, .int (nI y))]) hx hb d_Sw_isPossibleConvoy_28 hl (by decide) rfl (fun ls hl => ?_)
      refine lv_aload_n hx hb d_Sw_isPossibleConvoy_30 rfl (lv_at hl 1 rfl) ?_
      refine va_get (D := D) (ci := 5) (v := .ref hh) (C := R_Sw) (T := T_Sw) (N := 6) hx hb hts hin_Sw hown hK hP 0 rfl rfl 1 (by decide) (hts _ wd_202) (fun _ h9 => h9) rfl d_Sw_isPossibleConvoy_31 ?_
      refine lv_iload_n hx hb d_Sw_isPossibleConvoy_34 rfl (lv_at hl 3 rfl) ?_
      have hPc := hP.sub (ws' := [(hh, .inr (3, [.int tn, .ref qu, .ref qo, .ref qx, .ref qy, .ref qr, .ref qw])), (qu, .inl (cI, 12, .inl fu))]) [2, 3] rfl
      refine vp_callSi (va_Run.run (va_runV (As := [.int (nI x)]) (rest := []) ⟨hx, hb, hml, hown, hts⟩ (c_Sh_hasUnitP l D cI cZ cJ cS aT ceT  hh tn qu qo qx qy qr qw fu x h_x) (cwV 1 hts (tb_4 wd_286 wd_287 wd_288 wd_3 (tb_c wd_289)) rfl rfl rfl ⟨rfl, by decide, by decide, by decide +kernel⟩ ⟨Nat.le_of_ble_eq_true rfl, Nat.le_of_ble_eq_true rfl⟩) (tP_V hK hX hXH hPc (q := 0) rfl rfl) rfl rfl hl.1 rfl (lv_room (Nat.le_of_ble_eq_true rfl)) d_Sw_isPossibleConvoy_35 ⟨Nat.le_of_ble_eq_true rfl, Nat.le_of_ble_eq_true rfl⟩)) (fun r37 hr9 => ?_)
      rw [hr9]
      rcases bI_c (!decide (fu x = -1)) with ⟨hb39, e9⟩ | ⟨hb39, e9⟩
      · refine tr_top e9 ?_
        refine lv_if_eq (tgt := 56) hx hb d_Sw_isPossibleConvoy_38 (by decide) (fun h0 => absurd h0 (by decide)) (fun _ => ?_)
        refine lv_aload_n hx hb d_Sw_isPossibleConvoy_41 rfl (lv_at hl 1 rfl) ?_
        refine va_get (D := D) (ci := 5) (v := .ref hh) (C := R_Sw) (T := T_Sw) (N := 6) hx hb hts hin_Sw hown hK hP 0 rfl rfl 1 (by decide) (hts _ wd_202) (fun _ h9 => h9) rfl d_Sw_isPossibleConvoy_42 ?_
        refine lv_iload_n hx hb d_Sw_isPossibleConvoy_45 rfl (lv_at hl 3 rfl) ?_
        have hPc := hP.sub (ws' := [(hh, .inr (3, [.int tn, .ref qu, .ref qo, .ref qx, .ref qy, .ref qr, .ref qw])), (qu, .inl (cI, 12, .inl fu))]) [2, 3] rfl
        refine vp_callSi (va_Run.run (va_runV (As := [.int (nI x)]) (rest := []) ⟨hx, hb, hml, hown, hts⟩ (c_Sh_kindAtP l D cI cZ cJ cS aT ceT  hh tn qu qo qx qy qr qw fu x h_x) (cwV 1 hts (tb_4 wd_474 wd_475 wd_476 wd_3 (tb_c wd_477)) rfl rfl rfl ⟨rfl, by decide, by decide, by decide +kernel⟩ ⟨Nat.le_of_ble_eq_true rfl, Nat.le_of_ble_eq_true rfl⟩) (tP_V hK hX hXH hPc (q := 0) rfl rfl) rfl rfl hl.1 rfl (lv_room (Nat.le_of_ble_eq_true rfl)) d_Sw_isPossibleConvoy_46 ⟨Nat.le_of_ble_eq_true rfl, Nat.le_of_ble_eq_true rfl⟩)) (fun r41 hr9 => ?_)
        rw [hr9]
        refine lv_if_ne (tgt := 56) hx hb d_Sw_isPossibleConvoy_49 (by decide) (fun hc42 => ?_) (fun hc42 => ?_)
        · -- 49 taken
          refine lv_iconst (v := 0) hx hb d_Sw_isPossibleConvoy_56 (by decide) ?_
          refine lv_istore (lv' := [(5, .int 0), (4, .int 0), (0, .ref h0), (1, .int (nI a)), (2, .int (nI x)), (3, .int (nI y))]) hx hb d_Sw_isPossibleConvoy_57 hl (by decide) rfl (fun ls hl => ?_)
          refine lv_iload hx hb d_Sw_isPossibleConvoy_59 (lv_at hl 1 rfl) ?_
          refine lv_if_eq (tgt := 89) hx hb d_Sw_isPossibleConvoy_61 (by decide) (fun _ => ?_) (fun h0 => absurd (by decide) h0)
          refine lv_iconst (v := 0) hx hb d_Sw_isPossibleConvoy_89 (by decide) ?_
          exact W.zret (v := 0) hx hb hr (by decide) (fun t ht hW => ⟨0, rfl, (bI_f (by simp [pvC, hc2, hb15, hb39, hc42])).symm, ht⟩) (fun q hq => by cases hq) d_Sw_isPossibleConvoy_90
        · -- 49 not taken
          refine lv_iconst (v := 1) hx hb d_Sw_isPossibleConvoy_52 (by decide) ?_
          refine lv_goto (tgt := 57) hx hb d_Sw_isPossibleConvoy_53 (by decide) ?_
          refine lv_istore (lv' := [(5, .int 1), (4, .int 0), (0, .ref h0), (1, .int (nI a)), (2, .int (nI x)), (3, .int (nI y))]) hx hb d_Sw_isPossibleConvoy_57 hl (by decide) rfl (fun ls hl => ?_)
          refine lv_iload hx hb d_Sw_isPossibleConvoy_59 (lv_at hl 1 rfl) ?_
          refine lv_if_eq (tgt := 89) hx hb d_Sw_isPossibleConvoy_61 (by decide) (fun _ => ?_) (fun h0 => absurd (by decide) h0)
          refine lv_iconst (v := 0) hx hb d_Sw_isPossibleConvoy_89 (by decide) ?_
          exact W.zret (v := 0) hx hb hr (by decide) (fun t ht hW => ⟨0, rfl, (bI_f (by simp [pvC, hc2, hb15, hb39, hc42])).symm, ht⟩) (fun q hq => by cases hq) d_Sw_isPossibleConvoy_90
      · refine tr_top e9 ?_
        refine lv_if_eq (tgt := 56) hx hb d_Sw_isPossibleConvoy_38 (by decide) (fun _ => ?_) (fun h0 => absurd (by decide) h0)
        refine lv_iconst (v := 0) hx hb d_Sw_isPossibleConvoy_56 (by decide) ?_
        refine lv_istore (lv' := [(5, .int 0), (4, .int 0), (0, .ref h0), (1, .int (nI a)), (2, .int (nI x)), (3, .int (nI y))]) hx hb d_Sw_isPossibleConvoy_57 hl (by decide) rfl (fun ls hl => ?_)
        refine lv_iload hx hb d_Sw_isPossibleConvoy_59 (lv_at hl 1 rfl) ?_
        refine lv_if_eq (tgt := 89) hx hb d_Sw_isPossibleConvoy_61 (by decide) (fun _ => ?_) (fun h0 => absurd (by decide) h0)
        refine lv_iconst (v := 0) hx hb d_Sw_isPossibleConvoy_89 (by decide) ?_
        exact W.zret (v := 0) hx hb hr (by decide) (fun t ht hW => ⟨0, rfl, (bI_f (by simp [pvC, hc2, hb15, hb39])).symm, ht⟩) (fun q hq => by cases hq) d_Sw_isPossibleConvoy_90

theorem d_Sw_isPossible_0 : decode b_Sw_isPossible 0 = .ok (.iload_n 2, 1) := by decide +kernel
theorem d_Sw_isPossible_1 : decode b_Sw_isPossible 1 = .ok (.tableswitch 92 1 3 #[27, 34, 83], 27) := by decide +kernel
theorem d_Sw_isPossible_28 : decode b_Sw_isPossible 28 = .ok (.aload_n 0, 1) := by decide +kernel
theorem d_Sw_isPossible_29 : decode b_Sw_isPossible 29 = .ok (.iload_n 1, 1) := by decide +kernel
theorem d_Sw_isPossible_30 : decode b_Sw_isPossible 30 = .ok (.iload_n 3, 1) := by decide +kernel
theorem d_Sw_isPossible_31 : decode b_Sw_isPossible 31 = .ok (.invokevirtual 186, 3) := by decide +kernel
theorem d_Sw_isPossible_34 : decode b_Sw_isPossible 34 = .ok (.ireturn, 1) := by decide +kernel
theorem d_Sw_isPossible_35 : decode b_Sw_isPossible 35 = .ok (.iload_n 3, 1) := by decide +kernel
theorem d_Sw_isPossible_36 : decode b_Sw_isPossible 36 = .ok (.iload_n 1, 1) := by decide +kernel
theorem d_Sw_isPossible_37 : decode b_Sw_isPossible 37 = .ok (.if_icmp .eq 45, 3) := by decide +kernel
theorem d_Sw_isPossible_40 : decode b_Sw_isPossible 40 = .ok (.iload 4, 2) := by decide +kernel
theorem d_Sw_isPossible_42 : decode b_Sw_isPossible 42 = .ok (.iload_n 1, 1) := by decide +kernel
theorem d_Sw_isPossible_43 : decode b_Sw_isPossible 43 = .ok (.if_icmp .eq 39, 3) := by decide +kernel
theorem d_Sw_isPossible_46 : decode b_Sw_isPossible 46 = .ok (.aload_n 0, 1) := by decide +kernel
theorem d_Sw_isPossible_47 : decode b_Sw_isPossible 47 = .ok (.getfield 19, 3) := by decide +kernel
theorem d_Sw_isPossible_50 : decode b_Sw_isPossible 50 = .ok (.iload_n 3, 1) := by decide +kernel
theorem d_Sw_isPossible_51 : decode b_Sw_isPossible 51 = .ok (.invokevirtual 78, 3) := by decide +kernel
theorem d_Sw_isPossible_54 : decode b_Sw_isPossible 54 = .ok (.ifCond .eq 28, 3) := by decide +kernel
theorem d_Sw_isPossible_57 : decode b_Sw_isPossible 57 = .ok (.aload_n 0, 1) := by decide +kernel
theorem d_Sw_isPossible_58 : decode b_Sw_isPossible 58 = .ok (.getfield 13, 3) := by decide +kernel
theorem d_Sw_isPossible_61 : decode b_Sw_isPossible 61 = .ok (.aload_n 0, 1) := by decide +kernel
theorem d_Sw_isPossible_62 : decode b_Sw_isPossible 62 = .ok (.getfield 19, 3) := by decide +kernel
theorem d_Sw_isPossible_65 : decode b_Sw_isPossible 65 = .ok (.iload_n 1, 1) := by decide +kernel
theorem d_Sw_isPossible_66 : decode b_Sw_isPossible 66 = .ok (.invokevirtual 189, 3) := by decide +kernel
theorem d_Sw_isPossible_69 : decode b_Sw_isPossible 69 = .ok (.iload_n 1, 1) := by decide +kernel
theorem d_Sw_isPossible_70 : decode b_Sw_isPossible 70 = .ok (.iload 4, 2) := by decide +kernel
theorem d_Sw_isPossible_72 : decode b_Sw_isPossible 72 = .ok (.invokevirtual 192, 3) := by decide +kernel
theorem d_Sw_isPossible_75 : decode b_Sw_isPossible 75 = .ok (.ifCond .eq 7, 3) := by decide +kernel
theorem d_Sw_isPossible_78 : decode b_Sw_isPossible 78 = .ok (.iconst 1, 1) := by decide +kernel
theorem d_Sw_isPossible_79 : decode b_Sw_isPossible 79 = .ok (.goto 4, 3) := by decide +kernel
theorem d_Sw_isPossible_82 : decode b_Sw_isPossible 82 = .ok (.iconst 0, 1) := by decide +kernel
theorem d_Sw_isPossible_83 : decode b_Sw_isPossible 83 = .ok (.ireturn, 1) := by decide +kernel
theorem d_Sw_isPossible_84 : decode b_Sw_isPossible 84 = .ok (.aload_n 0, 1) := by decide +kernel
theorem d_Sw_isPossible_85 : decode b_Sw_isPossible 85 = .ok (.iload_n 1, 1) := by decide +kernel
theorem d_Sw_isPossible_86 : decode b_Sw_isPossible 86 = .ok (.iload_n 3, 1) := by decide +kernel
theorem d_Sw_isPossible_87 : decode b_Sw_isPossible 87 = .ok (.iload 4, 2) := by decide +kernel
theorem d_Sw_isPossible_89 : decode b_Sw_isPossible 89 = .ok (.invokevirtual 196, 3) := by decide +kernel
theorem d_Sw_isPossible_92 : decode b_Sw_isPossible 92 = .ok (.ireturn, 1) := by decide +kernel
theorem d_Sw_isPossible_93 : decode b_Sw_isPossible 93 = .ok (.iconst 1, 1) := by decide +kernel
theorem d_Sw_isPossible_94 : decode b_Sw_isPossible 94 = .ok (.ireturn, 1) := by decide +kernel

set_option maxHeartbeats 4000000 in
set_option maxRecDepth 100000 in
theorem c_Sw_poss0 (l : Launch) (D : va_G) (cI cZ cJ cS : ClassId) (aT : Nat) (ceT : Cell) (h0 hm hh he ha hp : Nat) (ph : Int32) (qh qn n : Nat) (S Ce : Nat → Bool) (N : Nat → Nat → Bool) (tn : Int32) (qu qo qx qy qr qw : Nat) (fu : Nat → Int32) (x y : Int32) (a : Nat)  (h_a : a < 12) : Met l y_Sw_isPossible w_Sw_isPossible ({ frames := 4, cells := 0, slots := 0, locals := 89 }) (tP D cI cZ cJ cS aT ceT [.ref h0, .int (nI a), .int 0, .int x, .int y] [(h0, .inr (5, [.ref hm, .ref hh, .ref he, .ref ha, .ref hp, .int ph])), (hm, .inr (4, [.int (nI n), .int (mI S), .int (mI Ce), .ref qh, .ref qn])), (qn, .inl (cI, 12, .inl (fun j => mI (N j)))), (hh, .inr (3, [.int tn, .ref qu, .ref qo, .ref qx, .ref qy, .ref qr, .ref qw])), (qu, .inl (cI, 12, .inl fu))]) (vp_Si (fun r => r = 1)) 0 0 (fun _ => False) := by
  refine Met.ofW (cc := b_Sw_isPossible) (maxL := 5) (ret := (some .boolean)) (by decide) rfl ?_
  intro p e s m args below meth c s₁ B hml hv
  obtain ⟨rfl, hP, hK, hX⟩ := hv
  have hx := B.exec
  have hb := B.bytes
  have hr := B.returns
  have hts0 := atoms_spec (ws := w_Sw_isPossible) B.pre
  have hts : ∀ w ∈ TB, w.before _ s = true := fun w h => hts0 w (List.mem_cons_of_mem _ h)
  have hown : s.vm.findClass R_Sw = some m.cls := findClass_of_methodNamed B.named
  have hlocks := B.notSynchronized
  have hXH : s.heap[aT]? = s.heap[aT]? := rfl
  have hl := lv_entry ([.ref h0, .int (nI a), .int 0, .int x, .int y]) (n := 5) (Nat.le_of_ble_eq_true rfl)
  rw [lg_entry_eq]
  generalize (lg_sl ([.ref h0, .int (nI a), .int 0, .int x, .int y]) ++ List.replicate (5 - (lg_sl ([.ref h0, .int (nI a), .int 0, .int x, .int y])).length) Slot.unset).toArray = ls at hl ⊢
  have hl : lv_has ls 5 [(0, .ref h0), (1, .int (nI a)), (2, .int 0), (3, .int x), (4, .int y)] := hl
  refine lv_iload_n hx hb d_Sw_isPossible_0 rfl (lv_at hl 2 rfl) ?_
  refine lv_tableOut (tgt := 93) hx hb d_Sw_isPossible_1 (by decide) (by decide) ?_
  refine lv_iconst (v := 1) hx hb d_Sw_isPossible_93 (by decide) ?_
  exact W.zret (v := 1) hx hb hr (by decide) (fun t ht hW => ⟨1, rfl, rfl, ht⟩) (fun q hq => by cases hq) d_Sw_isPossible_94

theorem wd_473 : (Cond.code ({ cls := "SheetWar", name := "isPossibleMove", desc := "(II)Z" } : MethodName) prog_1_method_28_code (4 : Nat) (Option.some FieldType.boolean)) ∈ TB := tb_t 473 (by decide +kernel) (by decide +kernel)
theorem wd_470 : (Cond.methodLink "SheetWar" (186 : Nat) ({ cls := "SheetWar", name := "isPossibleMove", desc := "(II)Z" } : MethodName)) ∈ TB := tb_t 470 (by decide +kernel) (by decide +kernel)
theorem wd_472 : (Cond.instanceMethod ({ cls := "SheetWar", name := "isPossibleMove", desc := "(II)Z" } : MethodName)) ∈ TB := tb_t 472 (by decide +kernel) (by decide +kernel)
theorem wp_4 : Cond.selects "SheetWar" ⟨"SheetWar", "isPossibleMove", "(II)Z"⟩ ⟨"SheetWar", "isPossibleMove", "(II)Z"⟩ ∈ TB := tb_p 4 (by decide +kernel) (by decide +kernel)
set_option maxHeartbeats 4000000 in
set_option maxRecDepth 100000 in
theorem c_Sw_poss1 (l : Launch) (D : va_G) (cI cZ cJ cS : ClassId) (aT : Nat) (ceT : Cell) (h0 hm hh he ha hp : Nat) (ph : Int32) (qh qn n : Nat) (S Ce : Nat → Bool) (N : Nat → Nat → Bool) (tn : Int32) (qu qo qx qy qr qw : Nat) (fu : Nat → Int32) (y : Int32) (a : Nat) (x : Nat)  (h_a : a < 12) (h_x : x < 12) : Met l y_Sw_isPossible w_Sw_isPossible ({ frames := 4, cells := 0, slots := 0, locals := 89 }) (tP D cI cZ cJ cS aT ceT [.ref h0, .int (nI a), .int 1, .int (nI x), .int y] [(h0, .inr (5, [.ref hm, .ref hh, .ref he, .ref ha, .ref hp, .int ph])), (hm, .inr (4, [.int (nI n), .int (mI S), .int (mI Ce), .ref qh, .ref qn])), (qn, .inl (cI, 12, .inl (fun j => mI (N j)))), (hh, .inr (3, [.int tn, .ref qu, .ref qo, .ref qx, .ref qy, .ref qr, .ref qw])), (qu, .inl (cI, 12, .inl fu))]) (vp_Si (fun r => r = bI (pmC N S fu a x))) 0 0 (fun _ => False) := by
  refine Met.ofW (cc := b_Sw_isPossible) (maxL := 5) (ret := (some .boolean)) (by decide) rfl ?_
  intro p e s m args below meth c s₁ B hml hv
  obtain ⟨rfl, hP, hK, hX⟩ := hv
  have hx := B.exec
  have hb := B.bytes
  have hr := B.returns
  have hts0 := atoms_spec (ws := w_Sw_isPossible) B.pre
  have hts : ∀ w ∈ TB, w.before _ s = true := fun w h => hts0 w (List.mem_cons_of_mem _ h)
  have hown : s.vm.findClass R_Sw = some m.cls := findClass_of_methodNamed B.named
  have hlocks := B.notSynchronized
  have hXH : s.heap[aT]? = s.heap[aT]? := rfl
  have hl := lv_entry ([.ref h0, .int (nI a), .int 1, .int (nI x), .int y]) (n := 5) (Nat.le_of_ble_eq_true rfl)
  rw [lg_entry_eq]
  generalize (lg_sl ([.ref h0, .int (nI a), .int 1, .int (nI x), .int y]) ++ List.replicate (5 - (lg_sl ([.ref h0, .int (nI a), .int 1, .int (nI x), .int y])).length) Slot.unset).toArray = ls at hl ⊢
  have hl : lv_has ls 5 [(0, .ref h0), (1, .int (nI a)), (2, .int 1), (3, .int (nI x)), (4, .int y)] := hl
  refine lv_iload_n hx hb d_Sw_isPossible_0 rfl (lv_at hl 2 rfl) ?_
  refine lv_tableIn (off := 27) (tgt := 28) hx hb d_Sw_isPossible_1 (by decide) (by decide) rfl (by decide) ?_
  refine lv_aload_n hx hb d_Sw_isPossible_28 rfl (lv_at hl 0 rfl) ?_
  refine lv_iload_n hx hb d_Sw_isPossible_29 rfl (lv_at hl 1 rfl) ?_
  refine lv_iload_n hx hb d_Sw_isPossible_30 rfl (lv_at hl 3 rfl) ?_
  have hPc := hP.sub (ws' := [(h0, .inr (5, [.ref hm, .ref hh, .ref he, .ref ha, .ref hp, .int ph])), (hm, .inr (4, [.int (nI n), .int (mI S), .int (mI Ce), .ref qh, .ref qn])), (qn, .inl (cI, 12, .inl (fun j => mI (N j)))), (hh, .inr (3, [.int tn, .ref qu, .ref qo, .ref qx, .ref qy, .ref qr, .ref qw])), (qu, .inl (cI, 12, .inl fu))]) [0, 1, 2, 3, 4] rfl
  refine vp_callSi (va_Run.run (va_runV (As := [.int (nI a), .int (nI x)]) (rest := []) ⟨hx, hb, hml, hown, hts⟩ (c_Sw_possMove l D cI cZ cJ cS aT ceT  h0 hm hh he ha hp ph qh qn n S Ce N tn qu qo qx qy qr qw fu a x h_a h_x) (cwV 2 hts (tb_4 wd_470 wd_472 wp_4 wd_1 (tb_c wd_473)) rfl rfl rfl ⟨rfl, by decide, by decide, by decide +kernel⟩ ⟨Nat.le_of_ble_eq_true rfl, Nat.le_of_ble_eq_true rfl⟩) (tP_V hK hX hXH hPc (q := 0) rfl rfl) rfl rfl hl.1 rfl (lv_room (Nat.le_of_ble_eq_true rfl)) d_Sw_isPossible_31 ⟨Nat.le_of_ble_eq_true rfl, Nat.le_of_ble_eq_true rfl⟩)) (fun r1 hr9 => ?_)
  rw [hr9]
  exact W.zret (v := bI (pmC N S fu a x)) hx hb hr (bI_n _) (fun t ht hW => ⟨bI (pmC N S fu a x), rfl, rfl, ht⟩) (fun q hq => by cases hq) d_Sw_isPossible_34


set_option maxHeartbeats 4000000 in
set_option maxRecDepth 100000 in
theorem c_Sw_poss2 (l : Launch) (D : va_G) (cI cZ cJ cS : ClassId) (aT : Nat) (ceT : Cell) (h0 hm hh he ha hp : Nat) (ph : Int32) (qh qn n : Nat) (S Ce : Nat → Bool) (N : Nat → Nat → Bool) (tn : Int32) (qu qo qx qy qr qw : Nat) (fu : Nat → Int32) (a : Nat) (x : Nat) (y : Nat)  (h_a : a < 12) (h_x : x < 12) (h_y : y < 12) : Met l y_Sw_isPossible w_Sw_isPossible ({ frames := 4, cells := 0, slots := 0, locals := 89 }) (tP D cI cZ cJ cS aT ceT [.ref h0, .int (nI a), .int 2, .int (nI x), .int (nI y)] [(h0, .inr (5, [.ref hm, .ref hh, .ref he, .ref ha, .ref hp, .int ph])), (hm, .inr (4, [.int (nI n), .int (mI S), .int (mI Ce), .ref qh, .ref qn])), (qn, .inl (cI, 12, .inl (fun j => mI (N j)))), (hh, .inr (3, [.int tn, .ref qu, .ref qo, .ref qx, .ref qy, .ref qr, .ref qw])), (qu, .inl (cI, 12, .inl fu))]) (vp_Si (fun r => r = bI (psuC N S fu a x y))) 0 0 (fun _ => False) := by
  refine Met.ofW (cc := b_Sw_isPossible) (maxL := 5) (ret := (some .boolean)) (by decide) rfl ?_
  intro p e s m args below meth c s₁ B hml hv
  obtain ⟨rfl, hP, hK, hX⟩ := hv
  have hx := B.exec
  have hb := B.bytes
  have hr := B.returns
  have hts0 := atoms_spec (ws := w_Sw_isPossible) B.pre
  have hts : ∀ w ∈ TB, w.before _ s = true := fun w h => hts0 w (List.mem_cons_of_mem _ h)
  have hown : s.vm.findClass R_Sw = some m.cls := findClass_of_methodNamed B.named
  have hlocks := B.notSynchronized
  have hXH : s.heap[aT]? = s.heap[aT]? := rfl
  have hl := lv_entry ([.ref h0, .int (nI a), .int 2, .int (nI x), .int (nI y)]) (n := 5) (Nat.le_of_ble_eq_true rfl)
  rw [lg_entry_eq]
  generalize (lg_sl ([.ref h0, .int (nI a), .int 2, .int (nI x), .int (nI y)]) ++ List.replicate (5 - (lg_sl ([.ref h0, .int (nI a), .int 2, .int (nI x), .int (nI y)])).length) Slot.unset).toArray = ls at hl ⊢
  have hl : lv_has ls 5 [(0, .ref h0), (1, .int (nI a)), (2, .int 2), (3, .int (nI x)), (4, .int (nI y))] := hl
  refine lv_iload_n hx hb d_Sw_isPossible_0 rfl (lv_at hl 2 rfl) ?_
  refine lv_tableIn (off := 34) (tgt := 35) hx hb d_Sw_isPossible_1 (by decide) (by decide) rfl (by decide) ?_
  refine lv_iload_n hx hb d_Sw_isPossible_35 rfl (lv_at hl 3 rfl) ?_
  refine lv_iload_n hx hb d_Sw_isPossible_36 rfl (lv_at hl 1 rfl) ?_
  refine lv_icmp_eq (tgt := 82) hx hb d_Sw_isPossible_37 (by decide) (fun hc1 => ?_) (fun hc1 => ?_)
  · -- 37 taken
    have hc1 : x = a := (nI_lit (Nat.lt_trans h_x (by decide)) (Nat.lt_trans h_a (by decide))).mp hc1
    refine lv_iconst (v := 0) hx hb d_Sw_isPossible_82 (by decide) ?_
    exact W.zret (v := 0) hx hb hr (by decide) (fun t ht hW => ⟨0, rfl, (bI_f (by simp [psuC, goC, hc1])).symm, ht⟩) (fun q hq => by cases hq) d_Sw_isPossible_83
  · -- 37 not taken
    have hc1 : ¬ x = a := fun h9 => hc1 (congrArg nI h9)
    refine lv_iload hx hb d_Sw_isPossible_40 (lv_at hl 4 rfl) ?_
    refine lv_iload_n hx hb d_Sw_isPossible_42 rfl (lv_at hl 1 rfl) ?_
    refine lv_icmp_eq (tgt := 82) hx hb d_Sw_isPossible_43 (by decide) (fun hc2 => ?_) (fun hc2 => ?_)
    · -- 43 taken
      have hc2 : y = a := (nI_lit (Nat.lt_trans h_y (by decide)) (Nat.lt_trans h_a (by decide))).mp hc2
      refine lv_iconst (v := 0) hx hb d_Sw_isPossible_82 (by decide) ?_
      exact W.zret (v := 0) hx hb hr (by decide) (fun t ht hW => ⟨0, rfl, (bI_f (by simp [psuC, goC, hc1, hc2])).symm, ht⟩) (fun q hq => by cases hq) d_Sw_isPossible_83
    · -- 43 not taken
      have hc2 : ¬ y = a := fun h9 => hc2 (congrArg nI h9)
      refine lv_aload_n hx hb d_Sw_isPossible_46 rfl (lv_at hl 0 rfl) ?_
      refine va_get (D := D) (ci := 5) (v := .ref hh) (C := R_Sw) (T := T_Sw) (N := 6) hx hb hts hin_Sw hown hK hP 0 rfl rfl 1 (by decide) (hts _ wd_202) (fun _ h9 => h9) rfl d_Sw_isPossible_47 ?_
      refine lv_iload_n hx hb d_Sw_isPossible_50 rfl (lv_at hl 3 rfl) ?_
      have hPc := hP.sub (ws' := [(hh, .inr (3, [.int tn, .ref qu, .ref qo, .ref qx, .ref qy, .ref qr, .ref qw])), (qu, .inl (cI, 12, .inl fu))]) [3, 4] rfl
      refine vp_callSi (va_Run.run (va_runV (As := [.int (nI x)]) (rest := []) ⟨hx, hb, hml, hown, hts⟩ (c_Sh_hasUnitP l D cI cZ cJ cS aT ceT  hh tn qu qo qx qy qr qw fu x h_x) (cwV 1 hts (tb_4 wd_286 wd_287 wd_288 wd_3 (tb_c wd_289)) rfl rfl rfl ⟨rfl, by decide, by decide, by decide +kernel⟩ ⟨Nat.le_of_ble_eq_true rfl, Nat.le_of_ble_eq_true rfl⟩) (tP_V hK hX hXH hPc (q := 0) rfl rfl) rfl rfl hl.1 rfl (lv_room (Nat.le_of_ble_eq_true rfl)) d_Sw_isPossible_51 ⟨Nat.le_of_ble_eq_true rfl, Nat.le_of_ble_eq_true rfl⟩)) (fun r3 hr9 => ?_)
      rw [hr9]
      rcases bI_c (!decide (fu x = -1)) with ⟨hb5, e9⟩ | ⟨hb5, e9⟩
      · refine tr_top e9 ?_
        refine lv_if_eq (tgt := 82) hx hb d_Sw_isPossible_54 (by decide) (fun h0 => absurd h0 (by decide)) (fun _ => ?_)
        refine lv_aload_n hx hb d_Sw_isPossible_57 rfl (lv_at hl 0 rfl) ?_
        refine va_get (D := D) (ci := 5) (v := .ref hm) (C := R_Sw) (T := T_Sw) (N := 6) hx hb hts hin_Sw hown hK hP 0 rfl rfl 0 (by decide) (hts _ wd_201) (fun _ h9 => h9) rfl d_Sw_isPossible_58 ?_
        refine lv_aload_n hx hb d_Sw_isPossible_61 rfl (lv_at hl 0 rfl) ?_
        refine va_get (D := D) (ci := 5) (v := .ref hh) (C := R_Sw) (T := T_Sw) (N := 6) hx hb hts hin_Sw hown hK hP 0 rfl rfl 1 (by decide) (hts _ wd_202) (fun _ h9 => h9) rfl d_Sw_isPossible_62 ?_
        refine lv_iload_n hx hb d_Sw_isPossible_65 rfl (lv_at hl 1 rfl) ?_
        have hPc := hP.sub (ws' := [(hh, .inr (3, [.int tn, .ref qu, .ref qo, .ref qx, .ref qy, .ref qr, .ref qw])), (qu, .inl (cI, 12, .inl fu))]) [3, 4] rfl
        refine vp_callSi (va_Run.run (va_runV (As := [.int (nI a)]) (rest := [.ref hm]) ⟨hx, hb, hml, hown, hts⟩ (c_Sh_kindAtP l D cI cZ cJ cS aT ceT  hh tn qu qo qx qy qr qw fu a h_a) (cwV 1 hts (tb_4 wd_474 wd_475 wd_476 wd_3 (tb_c wd_477)) rfl rfl rfl ⟨rfl, by decide, by decide, by decide +kernel⟩ ⟨Nat.le_of_ble_eq_true rfl, Nat.le_of_ble_eq_true rfl⟩) (tP_V hK hX hXH hPc (q := 0) rfl rfl) rfl rfl hl.1 rfl (lv_room (Nat.le_of_ble_eq_true rfl)) d_Sw_isPossible_66 ⟨Nat.le_of_ble_eq_true rfl, Nat.le_of_ble_eq_true rfl⟩)) (fun r7 hr9 => ?_)
        rw [hr9]
        refine lv_iload_n hx hb d_Sw_isPossible_69 rfl (lv_at hl 1 rfl) ?_
        refine lv_iload hx hb d_Sw_isPossible_70 (lv_at hl 4 rfl) ?_
        have hPc := hP.sub (ws' := [(hm, .inr (4, [.int (nI n), .int (mI S), .int (mI Ce), .ref qh, .ref qn])), (qn, .inl (cI, 12, .inl (fun j => mI (N j))))]) [1, 2] rfl
        refine vp_callSi (va_Run.run (va_runV (As := [.int (fu a - fu a / 2 * 2), .int (nI a), .int (nI y)]) (rest := []) ⟨hx, hb, hml, hown, hts⟩ (c_Wm_canGo l D cI cZ cJ cS aT ceT  hm qh qn n S Ce N (fu a - fu a / 2 * 2) a y h_a h_y) (cwV 3 hts (tb_4 wd_275 wd_276 wd_277 wd_2 (tb_c wd_278)) rfl rfl rfl ⟨rfl, by decide, by decide, by decide +kernel⟩ ⟨Nat.le_of_ble_eq_true rfl, Nat.le_of_ble_eq_true rfl⟩) (tP_V hK hX hXH hPc (q := 0) rfl rfl) rfl rfl hl.1 rfl (lv_room (Nat.le_of_ble_eq_true rfl)) d_Sw_isPossible_72 ⟨Nat.le_of_ble_eq_true rfl, Nat.le_of_ble_eq_true rfl⟩)) (fun r8 hr9 => ?_)
        rw [hr9]
        rcases bI_c (N a y && ((S a || S y) == decide ((fu a - fu a / 2 * 2) = 1))) with ⟨hb10, e9⟩ | ⟨hb10, e9⟩
        · refine tr_top e9 ?_
          refine lv_if_eq (tgt := 82) hx hb d_Sw_isPossible_75 (by decide) (fun h0 => absurd h0 (by decide)) (fun _ => ?_)
          refine lv_iconst (v := 1) hx hb d_Sw_isPossible_78 (by decide) ?_
          refine lv_goto (tgt := 83) hx hb d_Sw_isPossible_79 (by decide) ?_
          exact W.zret (v := 1) hx hb hr (by decide) (fun t ht hW => ⟨1, rfl, (bI_t (by simp [psuC, goC, hc1, hc2, hb5, hb10])).symm, ht⟩) (fun q hq => by cases hq) d_Sw_isPossible_83
        · refine tr_top e9 ?_
          refine lv_if_eq (tgt := 82) hx hb d_Sw_isPossible_75 (by decide) (fun _ => ?_) (fun h0 => absurd (by decide) h0)
          refine lv_iconst (v := 0) hx hb d_Sw_isPossible_82 (by decide) ?_
          exact W.zret (v := 0) hx hb hr (by decide) (fun t ht hW => ⟨0, rfl, (bI_f (by simp [psuC, goC, hc1, hc2, hb5, hb10])).symm, ht⟩) (fun q hq => by cases hq) d_Sw_isPossible_83
      · refine tr_top e9 ?_
        refine lv_if_eq (tgt := 82) hx hb d_Sw_isPossible_54 (by decide) (fun _ => ?_) (fun h0 => absurd (by decide) h0)
        refine lv_iconst (v := 0) hx hb d_Sw_isPossible_82 (by decide) ?_
        exact W.zret (v := 0) hx hb hr (by decide) (fun t ht hW => ⟨0, rfl, (bI_f (by simp [psuC, goC, hc1, hc2, hb5])).symm, ht⟩) (fun q hq => by cases hq) d_Sw_isPossible_83

theorem wd_482 : (Cond.code ({ cls := "SheetWar", name := "isPossibleConvoy", desc := "(III)Z" } : MethodName) prog_1_method_29_code (6 : Nat) (Option.some FieldType.boolean)) ∈ TB := tb_t 482 (by decide +kernel) (by decide +kernel)
theorem wd_479 : (Cond.methodLink "SheetWar" (196 : Nat) ({ cls := "SheetWar", name := "isPossibleConvoy", desc := "(III)Z" } : MethodName)) ∈ TB := tb_t 479 (by decide +kernel) (by decide +kernel)
theorem wd_481 : (Cond.instanceMethod ({ cls := "SheetWar", name := "isPossibleConvoy", desc := "(III)Z" } : MethodName)) ∈ TB := tb_t 481 (by decide +kernel) (by decide +kernel)
theorem wp_5 : Cond.selects "SheetWar" ⟨"SheetWar", "isPossibleConvoy", "(III)Z"⟩ ⟨"SheetWar", "isPossibleConvoy", "(III)Z"⟩ ∈ TB := tb_p 5 (by decide +kernel) (by decide +kernel)
set_option maxHeartbeats 4000000 in
set_option maxRecDepth 100000 in
theorem c_Sw_poss3 (l : Launch) (D : va_G) (cI cZ cJ cS : ClassId) (aT : Nat) (ceT : Cell) (h0 hm hh he ha hp : Nat) (ph : Int32) (qh qn n : Nat) (S Ce : Nat → Bool) (N : Nat → Nat → Bool) (tn : Int32) (qu qo qx qy qr qw : Nat) (fu : Nat → Int32) (a : Nat) (x : Nat) (y : Nat)  (h_a : a < 12) (h_x : x < 12) (h_y : y < 12) : Met l y_Sw_isPossible w_Sw_isPossible ({ frames := 4, cells := 0, slots := 0, locals := 89 }) (tP D cI cZ cJ cS aT ceT [.ref h0, .int (nI a), .int 3, .int (nI x), .int (nI y)] [(h0, .inr (5, [.ref hm, .ref hh, .ref he, .ref ha, .ref hp, .int ph])), (hm, .inr (4, [.int (nI n), .int (mI S), .int (mI Ce), .ref qh, .ref qn])), (qn, .inl (cI, 12, .inl (fun j => mI (N j)))), (hh, .inr (3, [.int tn, .ref qu, .ref qo, .ref qx, .ref qy, .ref qr, .ref qw])), (qu, .inl (cI, 12, .inl fu))]) (vp_Si (fun r => r = bI (pvC S fu a x y))) 0 0 (fun _ => False) := by
  refine Met.ofW (cc := b_Sw_isPossible) (maxL := 5) (ret := (some .boolean)) (by decide) rfl ?_
  intro p e s m args below meth c s₁ B hml hv
  obtain ⟨rfl, hP, hK, hX⟩ := hv
  have hx := B.exec
  have hb := B.bytes
  have hr := B.returns
  have hts0 := atoms_spec (ws := w_Sw_isPossible) B.pre
  have hts : ∀ w ∈ TB, w.before _ s = true := fun w h => hts0 w (List.mem_cons_of_mem _ h)
  have hown : s.vm.findClass R_Sw = some m.cls := findClass_of_methodNamed B.named
  have hlocks := B.notSynchronized
  have hXH : s.heap[aT]? = s.heap[aT]? := rfl
  have hl := lv_entry ([.ref h0, .int (nI a), .int 3, .int (nI x), .int (nI y)]) (n := 5) (Nat.le_of_ble_eq_true rfl)
  rw [lg_entry_eq]
  generalize (lg_sl ([.ref h0, .int (nI a), .int 3, .int (nI x), .int (nI y)]) ++ List.replicate (5 - (lg_sl ([.ref h0, .int (nI a), .int 3, .int (nI x), .int (nI y)])).length) Slot.unset).toArray = ls at hl ⊢
  have hl : lv_has ls 5 [(0, .ref h0), (1, .int (nI a)), (2, .int 3), (3, .int (nI x)), (4, .int (nI y))] := hl
  refine lv_iload_n hx hb d_Sw_isPossible_0 rfl (lv_at hl 2 rfl) ?_
  refine lv_tableIn (off := 83) (tgt := 84) hx hb d_Sw_isPossible_1 (by decide) (by decide) rfl (by decide) ?_
  refine lv_aload_n hx hb d_Sw_isPossible_84 rfl (lv_at hl 0 rfl) ?_
  refine lv_iload_n hx hb d_Sw_isPossible_85 rfl (lv_at hl 1 rfl) ?_
  refine lv_iload_n hx hb d_Sw_isPossible_86 rfl (lv_at hl 3 rfl) ?_
  refine lv_iload hx hb d_Sw_isPossible_87 (lv_at hl 4 rfl) ?_
  have hPc := hP.sub (ws' := [(h0, .inr (5, [.ref hm, .ref hh, .ref he, .ref ha, .ref hp, .int ph])), (hm, .inr (4, [.int (nI n), .int (mI S), .int (mI Ce), .ref qh, .ref qn])), (hh, .inr (3, [.int tn, .ref qu, .ref qo, .ref qx, .ref qy, .ref qr, .ref qw])), (qu, .inl (cI, 12, .inl fu))]) [0, 1, 3, 4] rfl
  refine vp_callSi (va_Run.run (va_runV (As := [.int (nI a), .int (nI x), .int (nI y)]) (rest := []) ⟨hx, hb, hml, hown, hts⟩ (c_Sw_possConvoy l D cI cZ cJ cS aT ceT  h0 hm hh he ha hp ph qh qn n S Ce tn qu qo qx qy qr qw fu a x y h_a h_x h_y) (cwV 3 hts (tb_4 wd_479 wd_481 wp_5 wd_1 (tb_c wd_482)) rfl rfl rfl ⟨rfl, by decide, by decide, by decide +kernel⟩ ⟨Nat.le_of_ble_eq_true rfl, Nat.le_of_ble_eq_true rfl⟩) (tP_V hK hX hXH hPc (q := 0) rfl rfl) rfl rfl hl.1 rfl (lv_room (Nat.le_of_ble_eq_true rfl)) d_Sw_isPossible_89 ⟨Nat.le_of_ble_eq_true rfl, Nat.le_of_ble_eq_true rfl⟩)) (fun r1 hr9 => ?_)
  rw [hr9]
  exact W.zret (v := bI (pvC S fu a x y)) hx hb hr (bI_n _) (fun t ht hW => ⟨bI (pvC S fu a x y), rfl, rfl, ht⟩) (fun q hq => by cases hq) d_Sw_isPossible_92

theorem d_Sw_isRefuge_0 : decode b_Sw_isRefuge 0 = .ok (.aload_n 0, 1) := by decide +kernel
theorem d_Sw_isRefuge_1 : decode b_Sw_isRefuge 1 = .ok (.getfield 13, 3) := by decide +kernel
theorem d_Sw_isRefuge_4 : decode b_Sw_isRefuge 4 = .ok (.aload_n 0, 1) := by decide +kernel
theorem d_Sw_isRefuge_5 : decode b_Sw_isRefuge 5 = .ok (.getfield 35, 3) := by decide +kernel
theorem d_Sw_isRefuge_8 : decode b_Sw_isRefuge 8 = .ok (.getfield 141, 3) := by decide +kernel
theorem d_Sw_isRefuge_11 : decode b_Sw_isRefuge 11 = .ok (.iload_n 1, 1) := by decide +kernel
theorem d_Sw_isRefuge_12 : decode b_Sw_isRefuge 12 = .ok (.iaload, 1) := by decide +kernel
theorem d_Sw_isRefuge_13 : decode b_Sw_isRefuge 13 = .ok (.iconst 2, 1) := by decide +kernel
theorem d_Sw_isRefuge_14 : decode b_Sw_isRefuge 14 = .ok (.irem, 1) := by decide +kernel
theorem d_Sw_isRefuge_15 : decode b_Sw_isRefuge 15 = .ok (.iload_n 1, 1) := by decide +kernel
theorem d_Sw_isRefuge_16 : decode b_Sw_isRefuge 16 = .ok (.iload_n 2, 1) := by decide +kernel
theorem d_Sw_isRefuge_17 : decode b_Sw_isRefuge 17 = .ok (.invokevirtual 192, 3) := by decide +kernel
theorem d_Sw_isRefuge_20 : decode b_Sw_isRefuge 20 = .ok (.ifCond .eq 45, 3) := by decide +kernel
theorem d_Sw_isRefuge_23 : decode b_Sw_isRefuge 23 = .ok (.aload_n 0, 1) := by decide +kernel
theorem d_Sw_isRefuge_24 : decode b_Sw_isRefuge 24 = .ok (.getfield 19, 3) := by decide +kernel
theorem d_Sw_isRefuge_27 : decode b_Sw_isRefuge 27 = .ok (.iload_n 2, 1) := by decide +kernel
theorem d_Sw_isRefuge_28 : decode b_Sw_isRefuge 28 = .ok (.invokevirtual 78, 3) := by decide +kernel
theorem d_Sw_isRefuge_31 : decode b_Sw_isRefuge 31 = .ok (.ifCond .ne 34, 3) := by decide +kernel
theorem d_Sw_isRefuge_34 : decode b_Sw_isRefuge 34 = .ok (.aload_n 0, 1) := by decide +kernel
theorem d_Sw_isRefuge_35 : decode b_Sw_isRefuge 35 = .ok (.getfield 35, 3) := by decide +kernel
theorem d_Sw_isRefuge_38 : decode b_Sw_isRefuge 38 = .ok (.getfield 202, 3) := by decide +kernel
theorem d_Sw_isRefuge_41 : decode b_Sw_isRefuge 41 = .ok (.iload_n 2, 1) := by decide +kernel
theorem d_Sw_isRefuge_42 : decode b_Sw_isRefuge 42 = .ok (.invokestatic 205, 3) := by decide +kernel
theorem d_Sw_isRefuge_45 : decode b_Sw_isRefuge 45 = .ok (.ifCond .ne 20, 3) := by decide +kernel
theorem d_Sw_isRefuge_48 : decode b_Sw_isRefuge 48 = .ok (.aload_n 0, 1) := by decide +kernel
theorem d_Sw_isRefuge_49 : decode b_Sw_isRefuge 49 = .ok (.getfield 35, 3) := by decide +kernel
theorem d_Sw_isRefuge_52 : decode b_Sw_isRefuge 52 = .ok (.getfield 208, 3) := by decide +kernel
theorem d_Sw_isRefuge_55 : decode b_Sw_isRefuge 55 = .ok (.iload_n 1, 1) := by decide +kernel
theorem d_Sw_isRefuge_56 : decode b_Sw_isRefuge 56 = .ok (.iaload, 1) := by decide +kernel
theorem d_Sw_isRefuge_57 : decode b_Sw_isRefuge 57 = .ok (.iload_n 2, 1) := by decide +kernel
theorem d_Sw_isRefuge_58 : decode b_Sw_isRefuge 58 = .ok (.if_icmp .eq 7, 3) := by decide +kernel
theorem d_Sw_isRefuge_61 : decode b_Sw_isRefuge 61 = .ok (.iconst 1, 1) := by decide +kernel
theorem d_Sw_isRefuge_62 : decode b_Sw_isRefuge 62 = .ok (.goto 4, 3) := by decide +kernel
theorem d_Sw_isRefuge_65 : decode b_Sw_isRefuge 65 = .ok (.iconst 0, 1) := by decide +kernel
theorem d_Sw_isRefuge_66 : decode b_Sw_isRefuge 66 = .ok (.ireturn, 1) := by decide +kernel
theorem wd_172 : (Cond.fieldLink "SheetWar" (202 : Nat) "SheetWar$Aside" "contested" "I") ∈ TB := tb_t 172 (by decide +kernel) (by decide +kernel)
theorem wd_290 : (Cond.methodLink "SheetWar" (205 : Nat) ({ cls := "SheetWar", name := "in", desc := "(II)Z" } : MethodName)) ∈ TB := tb_t 290 (by decide +kernel) (by decide +kernel)
theorem wd_167 : (Cond.fieldLink "SheetWar" (208 : Nat) "SheetWar$Aside" "origins" "[I") ∈ TB := tb_t 167 (by decide +kernel) (by decide +kernel)
set_option maxHeartbeats 4000000 in
set_option maxRecDepth 100000 in
theorem c_Sw_isRefuge (l : Launch) (D : va_G) (cI cZ cJ cS : ClassId) (aT : Nat) (ceT : Cell) (h0 hm hh he ha hp : Nat) (ph : Int32) (qh qn n : Nat) (S Ce : Nat → Bool) (N : Nat → Nat → Bool) (tn : Int32) (qu qo qx qy qr qw : Nat) (fu : Nat → Int32) (au ao ag : Nat) (Co : Nat → Bool) (ga go : Nat → Int32) (a : Nat) (x : Nat)  (h_a : a < 12) (h_x : x < 12) : Met l y_Sw_isRefuge w_Sw_isRefuge ({ frames := 3, cells := 0, slots := 0, locals := 66 }) (tP D cI cZ cJ cS aT ceT [.ref h0, .int (nI a), .int (nI x)] [(h0, .inr (5, [.ref hm, .ref hh, .ref he, .ref ha, .ref hp, .int ph])), (hm, .inr (4, [.int (nI n), .int (mI S), .int (mI Ce), .ref qh, .ref qn])), (qn, .inl (cI, 12, .inl (fun j => mI (N j)))), (hh, .inr (3, [.int tn, .ref qu, .ref qo, .ref qx, .ref qy, .ref qr, .ref qw])), (qu, .inl (cI, 12, .inl fu)), (ha, .inr (0, [.ref au, .ref ao, .ref ag, .int (mI Co)])), (au, .inl (cI, 12, .inl ga)), (ao, .inl (cI, 12, .inl go))]) (vp_Si (fun r => r = bI (rfC N S Co fu ga go a x))) 0 0 (fun _ => False) := by
  refine Met.ofW (cc := b_Sw_isRefuge) (maxL := 3) (ret := (some .boolean)) (by decide) rfl ?_
  intro p e s m args below meth c s₁ B hml hv
  obtain ⟨rfl, hP, hK, hX⟩ := hv
  have hx := B.exec
  have hb := B.bytes
  have hr := B.returns
  have hts0 := atoms_spec (ws := w_Sw_isRefuge) B.pre
  have hts : ∀ w ∈ TB, w.before _ s = true := fun w h => hts0 w (List.mem_cons_of_mem _ h)
  have hown : s.vm.findClass R_Sw = some m.cls := findClass_of_methodNamed B.named
  have hlocks := B.notSynchronized
  have hXH : s.heap[aT]? = s.heap[aT]? := rfl
  have hl := lv_entry ([.ref h0, .int (nI a), .int (nI x)]) (n := 3) (Nat.le_of_ble_eq_true rfl)
  rw [lg_entry_eq]
  generalize (lg_sl ([.ref h0, .int (nI a), .int (nI x)]) ++ List.replicate (3 - (lg_sl ([.ref h0, .int (nI a), .int (nI x)])).length) Slot.unset).toArray = ls at hl ⊢
  have hl : lv_has ls 3 [(0, .ref h0), (1, .int (nI a)), (2, .int (nI x))] := hl
  refine lv_aload_n hx hb d_Sw_isRefuge_0 rfl (lv_at hl 0 rfl) ?_
  refine va_get (D := D) (ci := 5) (v := .ref hm) (C := R_Sw) (T := T_Sw) (N := 6) hx hb hts hin_Sw hown hK hP 0 rfl rfl 0 (by decide) (hts _ wd_201) (fun _ h9 => h9) rfl d_Sw_isRefuge_1 ?_
  refine lv_aload_n hx hb d_Sw_isRefuge_4 rfl (lv_at hl 0 rfl) ?_
  refine va_get (D := D) (ci := 5) (v := .ref ha) (C := R_Sw) (T := T_Sw) (N := 6) hx hb hts hin_Sw hown hK hP 0 rfl rfl 3 (by decide) (hts _ wd_204) (fun _ h9 => h9) rfl d_Sw_isRefuge_5 ?_
  refine va_get (D := D) (ci := 0) (v := .ref au) (C := R_As) (T := T_As) (N := 4) hx hb hts hin_As hown hK hP 5 rfl rfl 0 (by decide) (hts _ wd_164) (fun _ h9 => h9) rfl d_Sw_isRefuge_8 ?_
  refine lv_iload_n hx hb d_Sw_isRefuge_11 rfl (lv_at hl 1 rfl) ?_
  refine tr_iald (v := ga a) hx hb hK hP 6 0 rfl rfl a h_a (by decide) rfl d_Sw_isRefuge_12 ?_
  refine lv_iconst (v := 2) hx hb d_Sw_isRefuge_13 (by decide) ?_
  refine lv_irem hx hb d_Sw_isRefuge_14 (by decide) ?_
  refine lv_iload_n hx hb d_Sw_isRefuge_15 rfl (lv_at hl 1 rfl) ?_
  refine lv_iload_n hx hb d_Sw_isRefuge_16 rfl (lv_at hl 2 rfl) ?_
  have hPc := hP.sub (ws' := [(hm, .inr (4, [.int (nI n), .int (mI S), .int (mI Ce), .ref qh, .ref qn])), (qn, .inl (cI, 12, .inl (fun j => mI (N j))))]) [1, 2] rfl
  refine vp_callSi (va_Run.run (va_runV (As := [.int ((ga a) - (ga a) / 2 * 2), .int (nI a), .int (nI x)]) (rest := []) ⟨hx, hb, hml, hown, hts⟩ (c_Wm_canGo l D cI cZ cJ cS aT ceT  hm qh qn n S Ce N ((ga a) - (ga a) / 2 * 2) a x h_a h_x) (cwV 3 hts (tb_4 wd_275 wd_276 wd_277 wd_2 (tb_c wd_278)) rfl rfl rfl ⟨rfl, by decide, by decide, by decide +kernel⟩ ⟨Nat.le_of_ble_eq_true rfl, Nat.le_of_ble_eq_true rfl⟩) (tP_V hK hX hXH hPc (q := 0) rfl rfl) rfl rfl hl.1 rfl (lv_room (Nat.le_of_ble_eq_true rfl)) d_Sw_isRefuge_17 ⟨Nat.le_of_ble_eq_true rfl, Nat.le_of_ble_eq_true rfl⟩)) (fun r1 hr9 => ?_)
  rw [hr9]
  rcases bI_c (N a x && ((S a || S x) == decide (((ga a) - (ga a) / 2 * 2) = 1))) with ⟨hb3, e9⟩ | ⟨hb3, e9⟩
  · refine tr_top e9 ?_
    refine lv_if_eq (tgt := 65) hx hb d_Sw_isRefuge_20 (by decide) (fun h0 => absurd h0 (by decide)) (fun _ => ?_)
    refine lv_aload_n hx hb d_Sw_isRefuge_23 rfl (lv_at hl 0 rfl) ?_
    refine va_get (D := D) (ci := 5) (v := .ref hh) (C := R_Sw) (T := T_Sw) (N := 6) hx hb hts hin_Sw hown hK hP 0 rfl rfl 1 (by decide) (hts _ wd_202) (fun _ h9 => h9) rfl d_Sw_isRefuge_24 ?_
    refine lv_iload_n hx hb d_Sw_isRefuge_27 rfl (lv_at hl 2 rfl) ?_
    have hPc := hP.sub (ws' := [(hh, .inr (3, [.int tn, .ref qu, .ref qo, .ref qx, .ref qy, .ref qr, .ref qw])), (qu, .inl (cI, 12, .inl fu))]) [3, 4] rfl
    refine vp_callSi (va_Run.run (va_runV (As := [.int (nI x)]) (rest := []) ⟨hx, hb, hml, hown, hts⟩ (c_Sh_hasUnitP l D cI cZ cJ cS aT ceT  hh tn qu qo qx qy qr qw fu x h_x) (cwV 1 hts (tb_4 wd_286 wd_287 wd_288 wd_3 (tb_c wd_289)) rfl rfl rfl ⟨rfl, by decide, by decide, by decide +kernel⟩ ⟨Nat.le_of_ble_eq_true rfl, Nat.le_of_ble_eq_true rfl⟩) (tP_V hK hX hXH hPc (q := 0) rfl rfl) rfl rfl hl.1 rfl (lv_room (Nat.le_of_ble_eq_true rfl)) d_Sw_isRefuge_28 ⟨Nat.le_of_ble_eq_true rfl, Nat.le_of_ble_eq_true rfl⟩)) (fun r5 hr9 => ?_)
    rw [hr9]
    rcases bI_c (!decide (fu x = -1)) with ⟨hb7, e9⟩ | ⟨hb7, e9⟩
    · refine tr_top e9 ?_
      refine lv_if_ne (tgt := 65) hx hb d_Sw_isRefuge_31 (by decide) (fun _ => ?_) (fun h0 => absurd h0 (by decide))
      refine lv_iconst (v := 0) hx hb d_Sw_isRefuge_65 (by decide) ?_
      exact W.zret (v := 0) hx hb hr (by decide) (fun t ht hW => ⟨0, rfl, (bI_f (by simp only [rfC, goC, hb3, hb7] <;> simp [hb3, hb7])).symm, ht⟩) (fun q hq => by cases hq) d_Sw_isRefuge_66
    · refine tr_top e9 ?_
      refine lv_if_ne (tgt := 65) hx hb d_Sw_isRefuge_31 (by decide) (fun h0 => absurd (by decide) h0) (fun _ => ?_)
      refine lv_aload_n hx hb d_Sw_isRefuge_34 rfl (lv_at hl 0 rfl) ?_
      refine va_get (D := D) (ci := 5) (v := .ref ha) (C := R_Sw) (T := T_Sw) (N := 6) hx hb hts hin_Sw hown hK hP 0 rfl rfl 3 (by decide) (hts _ wd_204) (fun _ h9 => h9) rfl d_Sw_isRefuge_35 ?_
      refine va_get (D := D) (ci := 0) (v := .int (mI Co)) (C := R_As) (T := T_As) (N := 4) hx hb hts hin_As hown hK hP 5 rfl rfl 3 (by decide) (hts _ wd_172) (fun _ h9 => h9) rfl d_Sw_isRefuge_38 ?_
      refine lv_iload_n hx hb d_Sw_isRefuge_41 rfl (lv_at hl 2 rfl) ?_
      have hPc := hP.sub (ws' := []) [] rfl
      refine vp_callSi (va_Run.run (va_runS (As := [.int (mI Co), .int (nI x)]) (rest := []) ⟨hx, hb, hml, hown, hts⟩ (c_Sw_in l D cI cZ cJ cS aT ceT  Co x h_x) (va_cwS 2 hts (tb_3 wd_290 wd_284 wd_1 (tb_c wd_285)) rfl rfl rfl ⟨by decide, by decide, by decide +kernel⟩ ⟨Nat.le_of_ble_eq_true rfl, Nat.le_of_ble_eq_true rfl⟩) (tP_S hK hX hXH hPc) rfl rfl hl.1 rfl (lv_room (Nat.le_of_ble_eq_true rfl)) d_Sw_isRefuge_42 ⟨Nat.le_of_ble_eq_true rfl, Nat.le_of_ble_eq_true rfl⟩)) (fun r10 hr9 => ?_)
      rw [hr9]
      rcases bI_c (Co x) with ⟨hb12, e9⟩ | ⟨hb12, e9⟩
      · refine tr_top e9 ?_
        refine lv_if_ne (tgt := 65) hx hb d_Sw_isRefuge_45 (by decide) (fun _ => ?_) (fun h0 => absurd h0 (by decide))
        refine lv_iconst (v := 0) hx hb d_Sw_isRefuge_65 (by decide) ?_
        exact W.zret (v := 0) hx hb hr (by decide) (fun t ht hW => ⟨0, rfl, (bI_f (by simp only [rfC, goC, hb3, hb7, hb12] <;> simp [hb3, hb7, hb12])).symm, ht⟩) (fun q hq => by cases hq) d_Sw_isRefuge_66
      · refine tr_top e9 ?_
        refine lv_if_ne (tgt := 65) hx hb d_Sw_isRefuge_45 (by decide) (fun h0 => absurd (by decide) h0) (fun _ => ?_)
        refine lv_aload_n hx hb d_Sw_isRefuge_48 rfl (lv_at hl 0 rfl) ?_
        refine va_get (D := D) (ci := 5) (v := .ref ha) (C := R_Sw) (T := T_Sw) (N := 6) hx hb hts hin_Sw hown hK hP 0 rfl rfl 3 (by decide) (hts _ wd_204) (fun _ h9 => h9) rfl d_Sw_isRefuge_49 ?_
        refine va_get (D := D) (ci := 0) (v := .ref ao) (C := R_As) (T := T_As) (N := 4) hx hb hts hin_As hown hK hP 5 rfl rfl 1 (by decide) (hts _ wd_167) (fun _ h9 => h9) rfl d_Sw_isRefuge_52 ?_
        refine lv_iload_n hx hb d_Sw_isRefuge_55 rfl (lv_at hl 1 rfl) ?_
        refine tr_iald (v := go a) hx hb hK hP 7 0 rfl rfl a h_a (by decide) rfl d_Sw_isRefuge_56 ?_
        refine lv_iload_n hx hb d_Sw_isRefuge_57 rfl (lv_at hl 2 rfl) ?_
        refine lv_icmp_eq (tgt := 65) hx hb d_Sw_isRefuge_58 (by decide) (fun hc15 => ?_) (fun hc15 => ?_)
        · -- 58 taken
          refine lv_iconst (v := 0) hx hb d_Sw_isRefuge_65 (by decide) ?_
          exact W.zret (v := 0) hx hb hr (by decide) (fun t ht hW => ⟨0, rfl, (bI_f (by simp only [rfC, goC, hb3, hb7, hb12] <;> simp [hb3, hb7, hb12, hc15])).symm, ht⟩) (fun q hq => by cases hq) d_Sw_isRefuge_66
        · -- 58 not taken
          refine lv_iconst (v := 1) hx hb d_Sw_isRefuge_61 (by decide) ?_
          refine lv_goto (tgt := 66) hx hb d_Sw_isRefuge_62 (by decide) ?_
          exact W.zret (v := 1) hx hb hr (by decide) (fun t ht hW => ⟨1, rfl, (bI_t (by simp only [rfC, goC, hb3, hb7, hb12] <;> simp [hb3, hb7, hb12, hc15])).symm, ht⟩) (fun q hq => by cases hq) d_Sw_isRefuge_66
  · refine tr_top e9 ?_
    refine lv_if_eq (tgt := 65) hx hb d_Sw_isRefuge_20 (by decide) (fun _ => ?_) (fun h0 => absurd (by decide) h0)
    refine lv_iconst (v := 0) hx hb d_Sw_isRefuge_65 (by decide) ?_
    exact W.zret (v := 0) hx hb hr (by decide) (fun t ht hW => ⟨0, rfl, (bI_f (by simp only [rfC, goC, hb3] <;> simp [hb3])).symm, ht⟩) (fun q hq => by cases hq) d_Sw_isRefuge_66
