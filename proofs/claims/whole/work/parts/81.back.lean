theorem d_As_hasUnit_0 : decode b_As_hasUnit 0 = .ok (.aload_n 0, 1) := by decide +kernel
theorem d_As_hasUnit_1 : decode b_As_hasUnit 1 = .ok (.getfield 9, 3) := by decide +kernel
theorem d_As_hasUnit_4 : decode b_As_hasUnit 4 = .ok (.iload_n 1, 1) := by decide +kernel
theorem d_As_hasUnit_5 : decode b_As_hasUnit 5 = .ok (.iaload, 1) := by decide +kernel
theorem d_As_hasUnit_6 : decode b_As_hasUnit 6 = .ok (.iconst (-1), 1) := by decide +kernel
theorem d_As_hasUnit_7 : decode b_As_hasUnit 7 = .ok (.if_icmp .eq 7, 3) := by decide +kernel
theorem d_As_hasUnit_10 : decode b_As_hasUnit 10 = .ok (.iconst 1, 1) := by decide +kernel
theorem d_As_hasUnit_11 : decode b_As_hasUnit 11 = .ok (.goto 4, 3) := by decide +kernel
theorem d_As_hasUnit_14 : decode b_As_hasUnit 14 = .ok (.iconst 0, 1) := by decide +kernel
theorem d_As_hasUnit_15 : decode b_As_hasUnit 15 = .ok (.ireturn, 1) := by decide +kernel

set_option maxHeartbeats 4000000 in
set_option maxRecDepth 100000 in
theorem c_As_hasUnitP (l : Launch) (D : va_G) (cI cZ cJ cS : ClassId) (aT : Nat) (ceT : Cell) (h0 : Nat) (au ao ag : Nat) (ac : Int32) (ga : Nat → Int32) (a : Nat) (h_a : a < 12) : Met l y_As_hasUnit w_As_hasUnit ({ frames := 0, cells := 0, slots := 0, locals := 0 }) (tP D cI cZ cJ cS aT ceT [.ref h0, .int (nI a)] [(h0, .inr (0, [.ref au, .ref ao, .ref ag, .int ac])), (au, .inl (cI, 12, .inl ga))]) (vp_Si (fun r => r = bI (!decide (ga a = -1)))) 0 0 (fun _ => False) := by
  refine Met.ofW (cc := b_As_hasUnit) (maxL := 2) (ret := (some .boolean)) (by decide) rfl ?_
  intro p e s m args below meth c s₁ B hml hv
  obtain ⟨rfl, hP, hK, hX⟩ := hv
  have hx := B.exec
  have hb := B.bytes
  have hr := B.returns
  have hts0 := atoms_spec (ws := w_As_hasUnit) B.pre
  have hts : ∀ w ∈ TB, w.before _ s = true := fun w h => hts0 w (List.mem_cons_of_mem _ h)
  have hown : s.vm.findClass R_As = some m.cls := findClass_of_methodNamed B.named
  have hlocks := B.notSynchronized
  have hXH : s.heap[aT]? = s.heap[aT]? := rfl
  have hl := lv_entry ([.ref h0, .int (nI a)]) (n := 2) (Nat.le_of_ble_eq_true rfl)
  rw [lg_entry_eq]
  generalize (lg_sl ([.ref h0, .int (nI a)]) ++ List.replicate (2 - (lg_sl ([.ref h0, .int (nI a)])).length) Slot.unset).toArray = ls at hl ⊢
  have hl : lv_has ls 2 [(0, .ref h0), (1, .int (nI a))] := hl
  refine lv_aload_n hx hb d_As_hasUnit_0 rfl (lv_at hl 0 rfl) ?_
  refine va_get (D := D) (ci := 0) (v := .ref au) (C := R_As) (T := T_As) (N := 4) hx hb hts hin_As hown hK hP 0 rfl rfl 0 (by decide) (hts _ wd_162) (fun _ h9 => h9) rfl d_As_hasUnit_1 ?_
  refine lv_iload_n hx hb d_As_hasUnit_4 rfl (lv_at hl 1 rfl) ?_
  refine tr_iald (v := ga a) hx hb hK hP 1 0 rfl rfl a h_a (by decide) rfl d_As_hasUnit_5 ?_
  refine lv_iconst (v := (-1)) hx hb d_As_hasUnit_6 (by decide) ?_
  refine lv_icmp_eq (tgt := 14) hx hb d_As_hasUnit_7 (by decide) (fun hc1 => ?_) (fun hc1 => ?_)
  · -- 7 taken
    refine lv_iconst (v := 0) hx hb d_As_hasUnit_14 (by decide) ?_
    exact W.zret (v := 0) hx hb hr (by decide) (fun t ht hW => ⟨0, rfl, (bI_f (by simp [hc1])).symm, ht⟩) (fun q hq => by cases hq) d_As_hasUnit_15
  · -- 7 not taken
    refine lv_iconst (v := 1) hx hb d_As_hasUnit_10 (by decide) ?_
    refine lv_goto (tgt := 15) hx hb d_As_hasUnit_11 (by decide) ?_
    exact W.zret (v := 1) hx hb hr (by decide) (fun t ht hW => ⟨1, rfl, (bI_t (by simp [hc1])).symm, ht⟩) (fun q hq => by cases hq) d_As_hasUnit_15

theorem d_As_isEmpty_0 : decode b_As_isEmpty 0 = .ok (.iconst 0, 1) := by decide +kernel
theorem d_As_isEmpty_1 : decode b_As_isEmpty 1 = .ok (.istore_n 1, 1) := by decide +kernel
theorem d_As_isEmpty_2 : decode b_As_isEmpty 2 = .ok (.iload_n 1, 1) := by decide +kernel
theorem d_As_isEmpty_3 : decode b_As_isEmpty 3 = .ok (.bipush 12, 2) := by decide +kernel
theorem d_As_isEmpty_5 : decode b_As_isEmpty 5 = .ok (.if_icmp .ge 19, 3) := by decide +kernel
theorem d_As_isEmpty_8 : decode b_As_isEmpty 8 = .ok (.aload_n 0, 1) := by decide +kernel
theorem d_As_isEmpty_9 : decode b_As_isEmpty 9 = .ok (.iload_n 1, 1) := by decide +kernel
theorem d_As_isEmpty_10 : decode b_As_isEmpty 10 = .ok (.invokevirtual 31, 3) := by decide +kernel
theorem d_As_isEmpty_13 : decode b_As_isEmpty 13 = .ok (.ifCond .eq 5, 3) := by decide +kernel
theorem d_As_isEmpty_16 : decode b_As_isEmpty 16 = .ok (.iconst 0, 1) := by decide +kernel
theorem d_As_isEmpty_17 : decode b_As_isEmpty 17 = .ok (.ireturn, 1) := by decide +kernel
theorem d_As_isEmpty_18 : decode b_As_isEmpty 18 = .ok (.iinc 1 1, 3) := by decide +kernel
theorem d_As_isEmpty_21 : decode b_As_isEmpty 21 = .ok (.goto (-19), 3) := by decide +kernel
theorem d_As_isEmpty_24 : decode b_As_isEmpty 24 = .ok (.iconst 1, 1) := by decide +kernel
theorem d_As_isEmpty_25 : decode b_As_isEmpty 25 = .ok (.ireturn, 1) := by decide +kernel
theorem wd_270 : (Cond.code ({ cls := "SheetWar$Aside", name := "hasUnit", desc := "(I)Z" } : MethodName) prog_2_method_3_code (2 : Nat) (Option.some FieldType.boolean)) ∈ TB := tb_t 270 (by decide +kernel) (by decide +kernel)
theorem wd_625 : (Cond.methodLink "SheetWar$Aside" (31 : Nat) ({ cls := "SheetWar$Aside", name := "hasUnit", desc := "(I)Z" } : MethodName)) ∈ TB := tb_t 625 (by decide +kernel) (by decide +kernel)
theorem wd_268 : (Cond.instanceMethod ({ cls := "SheetWar$Aside", name := "hasUnit", desc := "(I)Z" } : MethodName)) ∈ TB := tb_t 268 (by decide +kernel) (by decide +kernel)
theorem wd_269 : (Cond.selects "SheetWar$Aside" ({ cls := "SheetWar$Aside", name := "hasUnit", desc := "(I)Z" } : MethodName) ({ cls := "SheetWar$Aside", name := "hasUnit", desc := "(I)Z" } : MethodName)) ∈ TB := tb_t 269 (by decide +kernel) (by decide +kernel)
set_option maxHeartbeats 4000000 in
set_option maxRecDepth 100000 in
theorem c_As_isEmpty (l : Launch) (D : va_G) (cI cZ cJ cS : ClassId) (aT : Nat) (ceT : Cell) (h0 : Nat) (au ao ag : Nat) (ac : Int32) (ga : Nat → Int32)  : Met l y_As_isEmpty w_As_isEmpty ({ frames := 1, cells := 0, slots := 0, locals := 21 }) (tP D cI cZ cJ cS aT ceT [.ref h0] [(h0, .inr (0, [.ref au, .ref ao, .ref ag, .int ac])), (au, .inl (cI, 12, .inl ga))]) (vp_Si (fun r => r = bI (!anyB (fun j => !decide (ga j = -1)) 12))) 0 0 (fun _ => False) := by
  refine Met.ofW (cc := b_As_isEmpty) (maxL := 2) (ret := (some .boolean)) (by decide) rfl ?_
  intro p e s m args below meth c s₁ B hml hv
  obtain ⟨rfl, hP, hK, hX⟩ := hv
  have hx := B.exec
  have hb := B.bytes
  have hr := B.returns
  have hts0 := atoms_spec (ws := w_As_isEmpty) B.pre
  have hts : ∀ w ∈ TB, w.before _ s = true := fun w h => hts0 w (List.mem_cons_of_mem _ h)
  have hown : s.vm.findClass R_As = some m.cls := findClass_of_methodNamed B.named
  have hlocks := B.notSynchronized
  have hXH : s.heap[aT]? = s.heap[aT]? := rfl
  have hl := lv_entry ([.ref h0]) (n := 2) (Nat.le_of_ble_eq_true rfl)
  rw [lg_entry_eq]
  generalize (lg_sl ([.ref h0]) ++ List.replicate (2 - (lg_sl ([.ref h0])).length) Slot.unset).toArray = ls at hl ⊢
  have hl : lv_has ls 2 [(0, .ref h0)] := hl
  refine lv_iconst (v := 0) hx hb d_As_isEmpty_0 (by decide) ?_
  refine lv_istore_n (lv' := [(1, .int 0), (0, .ref h0)]) hx hb d_As_isEmpty_1 rfl hl (by decide) rfl (fun ls hl => ?_)
  have loop : ∀ (k i : Nat) (ls : Array Slot), i + k = 12 → lv_has ls 2 [(1, .int (nI i)), (0, .ref h0)] → anyB (fun j => !decide (ga j = -1)) i = false → W p l e (headSpec w_As_isEmpty ({ frames := 1, cells := 0, slots := 0, locals := 21 })).room s m ([.ref h0]).toArray below meth c s.heap [] 0 0 (MQ below (vp_Si (fun r => r = bI (!anyB (fun j => !decide (ga j = -1)) 12))) ([.ref h0]).toArray s 0 0 (fun _ => False)) (F0 m 2 ls []) := by
    intro k
    induction k with
    | zero =>
      intro i ls hi hl hinv
      obtain rfl : i = 12 := by omega
      refine lv_iload_n hx hb d_As_isEmpty_2 rfl (lv_at hl 0 rfl) ?_
      refine lv_bipush (v := 12) hx hb d_As_isEmpty_3 (by decide) ?_
      refine lv_icmp_ge (tgt := 24) hx hb d_As_isEmpty_5 (by decide) (fun _ => ?_) (fun h0 => absurd (by decide) h0)
      refine lv_iconst (v := 1) hx hb d_As_isEmpty_24 (by decide) ?_
      exact W.zret (v := 1) hx hb hr (by decide) (fun t ht hW => ⟨1, rfl, (bI_t (by rw [hinv]; rfl)).symm, ht⟩) (fun q hq => by cases hq) d_As_isEmpty_25
    | succ k ih =>
      intro i ls hi hl hinv
      have hlt : i < 12 := by omega
      refine lv_iload_n hx hb d_As_isEmpty_2 rfl (lv_at hl 0 rfl) ?_
      refine lv_bipush (v := 12) hx hb d_As_isEmpty_3 (by decide) ?_
      refine lv_icmp_ge (tgt := 24) hx hb d_As_isEmpty_5 (by decide) (fun h0 => absurd h0 (nI_ge hlt (by decide))) (fun _ => ?_)
      refine lv_aload_n hx hb d_As_isEmpty_8 rfl (lv_at hl 1 rfl) ?_
      refine lv_iload_n hx hb d_As_isEmpty_9 rfl (lv_at hl 0 rfl) ?_
      have hPc := hP.sub (ws' := [(h0, .inr (0, [.ref au, .ref ao, .ref ag, .int ac])), (au, .inl (cI, 12, .inl ga))]) [0, 1] rfl
      refine vp_callSi (va_Run.run (va_runV (As := [.int (nI i)]) (rest := []) ⟨hx, hb, hml, hown, hts⟩ (c_As_hasUnitP l D cI cZ cJ cS aT ceT  h0 au ao ag ac ga i (by omega)) (cwV 1 hts (tb_4 wd_625 wd_268 wd_269 wd_6 (tb_c wd_270)) rfl rfl rfl ⟨rfl, by decide, by decide, by decide +kernel⟩ ⟨Nat.le_of_ble_eq_true rfl, Nat.le_of_ble_eq_true rfl⟩) (tP_V hK hX hXH hPc (q := 0) rfl rfl) rfl rfl hl.1 rfl (lv_room (Nat.le_of_ble_eq_true rfl)) d_As_isEmpty_10 ⟨Nat.le_of_ble_eq_true rfl, Nat.le_of_ble_eq_true rfl⟩)) (fun r3 hr9 => ?_)
      rw [hr9]
      rcases bI_c (!decide (ga i = -1)) with ⟨hb5, e9⟩ | ⟨hb5, e9⟩
      · refine tr_top e9 ?_
        refine lv_if_eq (tgt := 18) hx hb d_As_isEmpty_13 (by decide) (fun h0 => absurd h0 (by decide)) (fun _ => ?_)
        refine lv_iconst (v := 0) hx hb d_As_isEmpty_16 (by decide) ?_
        exact W.zret (v := 0) hx hb hr (by decide) (fun t ht hW => ⟨0, rfl, (bI_f (by rw [(anyB_iff (fun j => !decide (ga j = -1)) 12).mpr ⟨i, hlt, hb5⟩]; rfl)).symm, ht⟩) (fun q hq => by cases hq) d_As_isEmpty_17
      · refine tr_top e9 ?_
        refine lv_if_eq (tgt := 18) hx hb d_As_isEmpty_13 (by decide) (fun _ => ?_) (fun h0 => absurd (by decide) h0)
        refine lv_iinc (lv' := [(1, .int ((nI i) + 1)), (0, .ref h0)]) hx hb d_As_isEmpty_18 hl (k := 0) rfl rfl (by decide) rfl (fun ls hl => ?_)
        refine lv_goto (tgt := 2) hx hb d_As_isEmpty_21 (by decide) ?_
        have e8 : (nI i) + 1 = nI (i + 1) := nI_1 i
        exact ih (i + 1) ls (by omega) (by rw [← e8]; exact lv_sub hl [0, 1] rfl) (by rw [anyB, hinv, hb5]; rfl)
  exact loop 12 0 ls (Nat.zero_add _) hl rfl

def shG (gg : Nat → Int32) (a : Nat) : Bool := anyB (fun j => !decide (j = a) && decide (gg j = gg a)) 12
def rtF (ga gg fu : Nat → Int32) : Nat → Nat → Int32
  | 0 => fu
  | i + 1 => if (!decide (gg i = -1) && !shG gg i) = true then upd (rtF ga gg fu i) (gg i).toNatClampNeg (ga i) else rtF ga gg fu i
theorem rtF_y {ga gg fu : Nat → Int32} {i : Nat} (h : ¬ gg i = -1) (h2 : shG gg i = false) : upd (rtF ga gg fu i) (gg i).toNatClampNeg (ga i) = rtF ga gg fu (i + 1) := by rw [rtF, if_pos (by simp [h, h2])]
theorem rtF_n {ga gg fu : Nat → Int32} {i : Nat} (h : gg i = -1 ∨ shG gg i = true) : rtF ga gg fu i = rtF ga gg fu (i + 1) := by rw [rtF, if_neg (by rcases h with h | h <;> simp [h])]
def jnN (N : Nat → Nat → Bool) (a b : Nat) : Nat → Nat → Bool := fun j => upS (fun j => upS N a (fun j => N a j || decide (j = b)) j) b (fun j => upS N a (fun j => N a j || decide (j = b)) b j || decide (j = a)) j
def puR (m : Int32) (b : Bool) : Nat := if m > 0 then (if b = true then 0 else 2) else 1
def tuR (m : Int32) (b : Bool) : Nat := if m < 0 then (if b = true then 0 else 2) else 1

theorem d_As_isSharedGoal_0 : decode b_As_isSharedGoal 0 = .ok (.iconst 0, 1) := by decide +kernel
theorem d_As_isSharedGoal_1 : decode b_As_isSharedGoal 1 = .ok (.istore_n 2, 1) := by decide +kernel
theorem d_As_isSharedGoal_2 : decode b_As_isSharedGoal 2 = .ok (.iload_n 2, 1) := by decide +kernel
theorem d_As_isSharedGoal_3 : decode b_As_isSharedGoal 3 = .ok (.bipush 12, 2) := by decide +kernel
theorem d_As_isSharedGoal_5 : decode b_As_isSharedGoal 5 = .ok (.if_icmp .ge 31, 3) := by decide +kernel
theorem d_As_isSharedGoal_8 : decode b_As_isSharedGoal 8 = .ok (.iload_n 2, 1) := by decide +kernel
theorem d_As_isSharedGoal_9 : decode b_As_isSharedGoal 9 = .ok (.iload_n 1, 1) := by decide +kernel
theorem d_As_isSharedGoal_10 : decode b_As_isSharedGoal 10 = .ok (.if_icmp .eq 20, 3) := by decide +kernel
theorem d_As_isSharedGoal_13 : decode b_As_isSharedGoal 13 = .ok (.aload_n 0, 1) := by decide +kernel
theorem d_As_isSharedGoal_14 : decode b_As_isSharedGoal 14 = .ok (.getfield 18, 3) := by decide +kernel
theorem d_As_isSharedGoal_17 : decode b_As_isSharedGoal 17 = .ok (.iload_n 2, 1) := by decide +kernel
theorem d_As_isSharedGoal_18 : decode b_As_isSharedGoal 18 = .ok (.iaload, 1) := by decide +kernel
theorem d_As_isSharedGoal_19 : decode b_As_isSharedGoal 19 = .ok (.aload_n 0, 1) := by decide +kernel
theorem d_As_isSharedGoal_20 : decode b_As_isSharedGoal 20 = .ok (.getfield 18, 3) := by decide +kernel
theorem d_As_isSharedGoal_23 : decode b_As_isSharedGoal 23 = .ok (.iload_n 1, 1) := by decide +kernel
theorem d_As_isSharedGoal_24 : decode b_As_isSharedGoal 24 = .ok (.iaload, 1) := by decide +kernel
theorem d_As_isSharedGoal_25 : decode b_As_isSharedGoal 25 = .ok (.if_icmp .ne 5, 3) := by decide +kernel
theorem d_As_isSharedGoal_28 : decode b_As_isSharedGoal 28 = .ok (.iconst 1, 1) := by decide +kernel
theorem d_As_isSharedGoal_29 : decode b_As_isSharedGoal 29 = .ok (.ireturn, 1) := by decide +kernel
theorem d_As_isSharedGoal_30 : decode b_As_isSharedGoal 30 = .ok (.iinc 2 1, 3) := by decide +kernel
theorem d_As_isSharedGoal_33 : decode b_As_isSharedGoal 33 = .ok (.goto (-31), 3) := by decide +kernel
theorem d_As_isSharedGoal_36 : decode b_As_isSharedGoal 36 = .ok (.iconst 0, 1) := by decide +kernel
theorem d_As_isSharedGoal_37 : decode b_As_isSharedGoal 37 = .ok (.ireturn, 1) := by decide +kernel

set_option maxHeartbeats 4000000 in
set_option maxRecDepth 100000 in
theorem c_As_isSharedGoal (l : Launch) (D : va_G) (cI cZ cJ cS : ClassId) (aT : Nat) (ceT : Cell) (h0 : Nat) (au ao ag : Nat) (ac : Int32) (gg : Nat → Int32) (a : Nat) (h_a : a < 12) : Met l y_As_isSharedGoal w_As_isSharedGoal ({ frames := 0, cells := 0, slots := 0, locals := 0 }) (tP D cI cZ cJ cS aT ceT [.ref h0, .int (nI a)] [(h0, .inr (0, [.ref au, .ref ao, .ref ag, .int ac])), (ag, .inl (cI, 12, .inl gg))]) (vp_Si (fun r => r = bI (shG gg a))) 0 0 (fun _ => False) := by
  refine Met.ofW (cc := b_As_isSharedGoal) (maxL := 3) (ret := (some .boolean)) (by decide) rfl ?_
  intro p e s m args below meth c s₁ B hml hv
  obtain ⟨rfl, hP, hK, hX⟩ := hv
  have hx := B.exec
  have hb := B.bytes
  have hr := B.returns
  have hts0 := atoms_spec (ws := w_As_isSharedGoal) B.pre
  have hts : ∀ w ∈ TB, w.before _ s = true := fun w h => hts0 w (List.mem_cons_of_mem _ h)
  have hown : s.vm.findClass R_As = some m.cls := findClass_of_methodNamed B.named
  have hlocks := B.notSynchronized
  have hXH : s.heap[aT]? = s.heap[aT]? := rfl
  have hl := lv_entry ([.ref h0, .int (nI a)]) (n := 3) (Nat.le_of_ble_eq_true rfl)
  rw [lg_entry_eq]
  generalize (lg_sl ([.ref h0, .int (nI a)]) ++ List.replicate (3 - (lg_sl ([.ref h0, .int (nI a)])).length) Slot.unset).toArray = ls at hl ⊢
  have hl : lv_has ls 3 [(0, .ref h0), (1, .int (nI a))] := hl
  refine lv_iconst (v := 0) hx hb d_As_isSharedGoal_0 (by decide) ?_
  refine lv_istore_n (lv' := [(2, .int 0), (0, .ref h0), (1, .int (nI a))]) hx hb d_As_isSharedGoal_1 rfl hl (by decide) rfl (fun ls hl => ?_)
  have loop : ∀ (k i : Nat) (ls : Array Slot), i + k = 12 → lv_has ls 3 [(2, .int (nI i)), (0, .ref h0), (1, .int (nI a))] → anyB (fun j => !decide (j = a) && decide (gg j = gg a)) i = false → W p l e (headSpec w_As_isSharedGoal ({ frames := 0, cells := 0, slots := 0, locals := 0 })).room s m ([.ref h0, .int (nI a)]).toArray below meth c s.heap [] 0 0 (MQ below (vp_Si (fun r => r = bI (shG gg a))) ([.ref h0, .int (nI a)]).toArray s 0 0 (fun _ => False)) (F0 m 2 ls []) := by
    intro k
    induction k with
    | zero =>
      intro i ls hi hl hinv
      obtain rfl : i = 12 := by omega
      refine lv_iload_n hx hb d_As_isSharedGoal_2 rfl (lv_at hl 0 rfl) ?_
      refine lv_bipush (v := 12) hx hb d_As_isSharedGoal_3 (by decide) ?_
      refine lv_icmp_ge (tgt := 36) hx hb d_As_isSharedGoal_5 (by decide) (fun _ => ?_) (fun h0 => absurd (by decide) h0)
      refine lv_iconst (v := 0) hx hb d_As_isSharedGoal_36 (by decide) ?_
      exact W.zret (v := 0) hx hb hr (by decide) (fun t ht hW => ⟨0, rfl, (bI_f hinv).symm, ht⟩) (fun q hq => by cases hq) d_As_isSharedGoal_37
    | succ k ih =>
      intro i ls hi hl hinv
      have hlt : i < 12 := by omega
      refine lv_iload_n hx hb d_As_isSharedGoal_2 rfl (lv_at hl 0 rfl) ?_
      refine lv_bipush (v := 12) hx hb d_As_isSharedGoal_3 (by decide) ?_
      refine lv_icmp_ge (tgt := 36) hx hb d_As_isSharedGoal_5 (by decide) (fun h0 => absurd h0 (nI_ge hlt (by decide))) (fun _ => ?_)
      refine lv_iload_n hx hb d_As_isSharedGoal_8 rfl (lv_at hl 0 rfl) ?_
      refine lv_iload_n hx hb d_As_isSharedGoal_9 rfl (lv_at hl 2 rfl) ?_
      refine lv_icmp_eq (tgt := 30) hx hb d_As_isSharedGoal_10 (by decide) (fun hc3 => ?_) (fun hc3 => ?_)
      · -- 10 taken
        have hc3 : i = a := (nI_lit (by omega) (Nat.lt_trans h_a (by decide))).mp hc3
        refine lv_iinc (lv' := [(2, .int ((nI i) + 1)), (0, .ref h0), (1, .int (nI a))]) hx hb d_As_isSharedGoal_30 hl (k := 0) rfl rfl (by decide) rfl (fun ls hl => ?_)
        refine lv_goto (tgt := 2) hx hb d_As_isSharedGoal_33 (by decide) ?_
        have e4 : (nI i) + 1 = nI (i + 1) := nI_1 i
        exact ih (i + 1) ls (by omega) (by rw [← e4]; exact lv_sub hl [0, 1, 2] rfl) (by rw [anyB, hinv]; simp [hc3])
      · -- 10 not taken
        have hc3 : ¬ i = a := fun h9 => hc3 (congrArg nI h9)
        refine lv_aload_n hx hb d_As_isSharedGoal_13 rfl (lv_at hl 1 rfl) ?_
        refine va_get (D := D) (ci := 0) (v := .ref ag) (C := R_As) (T := T_As) (N := 4) hx hb hts hin_As hown hK hP 0 rfl rfl 2 (by decide) (hts _ wd_168) (fun _ h9 => h9) rfl d_As_isSharedGoal_14 ?_
        refine lv_iload_n hx hb d_As_isSharedGoal_17 rfl (lv_at hl 0 rfl) ?_
        refine tr_iald (v := gg i) hx hb hK hP 1 0 rfl rfl i (by omega) (by decide) rfl d_As_isSharedGoal_18 ?_
        refine lv_aload_n hx hb d_As_isSharedGoal_19 rfl (lv_at hl 1 rfl) ?_
        refine va_get (D := D) (ci := 0) (v := .ref ag) (C := R_As) (T := T_As) (N := 4) hx hb hts hin_As hown hK hP 0 rfl rfl 2 (by decide) (hts _ wd_168) (fun _ h9 => h9) rfl d_As_isSharedGoal_20 ?_
        refine lv_iload_n hx hb d_As_isSharedGoal_23 rfl (lv_at hl 2 rfl) ?_
        refine tr_iald (v := gg a) hx hb hK hP 1 0 rfl rfl a h_a (by decide) rfl d_As_isSharedGoal_24 ?_
        refine lv_icmp_ne (tgt := 30) hx hb d_As_isSharedGoal_25 (by decide) (fun hc5 => ?_) (fun hc5 => ?_)
        · -- 25 taken
          refine lv_iinc (lv' := [(2, .int ((nI i) + 1)), (0, .ref h0), (1, .int (nI a))]) hx hb d_As_isSharedGoal_30 hl (k := 0) rfl rfl (by decide) rfl (fun ls hl => ?_)
          refine lv_goto (tgt := 2) hx hb d_As_isSharedGoal_33 (by decide) ?_
          have e6 : (nI i) + 1 = nI (i + 1) := nI_1 i
          exact ih (i + 1) ls (by omega) (by rw [← e6]; exact lv_sub hl [0, 1, 2] rfl) (by rw [anyB, hinv]; simp [hc3, hc5])
        · -- 25 not taken
          refine lv_iconst (v := 1) hx hb d_As_isSharedGoal_28 (by decide) ?_
          exact W.zret (v := 1) hx hb hr (by decide) (fun t ht hW => ⟨1, rfl, (bI_t ((anyB_iff (fun j => !decide (j = a) && decide (gg j = gg a)) 12).mpr ⟨i, hlt, by simp [hc3, hc5]⟩)).symm, ht⟩) (fun q hq => by cases hq) d_As_isSharedGoal_29
  exact loop 12 0 ls (Nat.zero_add _) hl rfl

theorem d_As_retreatTo_0 : decode b_As_retreatTo 0 = .ok (.iconst 0, 1) := by decide +kernel
theorem d_As_retreatTo_1 : decode b_As_retreatTo 1 = .ok (.istore_n 2, 1) := by decide +kernel
theorem d_As_retreatTo_2 : decode b_As_retreatTo 2 = .ok (.iload_n 2, 1) := by decide +kernel
theorem d_As_retreatTo_3 : decode b_As_retreatTo 3 = .ok (.bipush 12, 2) := by decide +kernel
theorem d_As_retreatTo_5 : decode b_As_retreatTo 5 = .ok (.if_icmp .ge 44, 3) := by decide +kernel
theorem d_As_retreatTo_8 : decode b_As_retreatTo 8 = .ok (.aload_n 0, 1) := by decide +kernel
theorem d_As_retreatTo_9 : decode b_As_retreatTo 9 = .ok (.getfield 18, 3) := by decide +kernel
theorem d_As_retreatTo_12 : decode b_As_retreatTo 12 = .ok (.iload_n 2, 1) := by decide +kernel
theorem d_As_retreatTo_13 : decode b_As_retreatTo 13 = .ok (.iaload, 1) := by decide +kernel
theorem d_As_retreatTo_14 : decode b_As_retreatTo 14 = .ok (.iconst (-1), 1) := by decide +kernel
theorem d_As_retreatTo_15 : decode b_As_retreatTo 15 = .ok (.if_icmp .eq 28, 3) := by decide +kernel
theorem d_As_retreatTo_18 : decode b_As_retreatTo 18 = .ok (.aload_n 0, 1) := by decide +kernel
theorem d_As_retreatTo_19 : decode b_As_retreatTo 19 = .ok (.iload_n 2, 1) := by decide +kernel
theorem d_As_retreatTo_20 : decode b_As_retreatTo 20 = .ok (.invokevirtual 35, 3) := by decide +kernel
theorem d_As_retreatTo_23 : decode b_As_retreatTo 23 = .ok (.ifCond .ne 20, 3) := by decide +kernel
theorem d_As_retreatTo_26 : decode b_As_retreatTo 26 = .ok (.aload_n 1, 1) := by decide +kernel
theorem d_As_retreatTo_27 : decode b_As_retreatTo 27 = .ok (.getfield 38, 3) := by decide +kernel
theorem d_As_retreatTo_30 : decode b_As_retreatTo 30 = .ok (.aload_n 0, 1) := by decide +kernel
theorem d_As_retreatTo_31 : decode b_As_retreatTo 31 = .ok (.getfield 18, 3) := by decide +kernel
theorem d_As_retreatTo_34 : decode b_As_retreatTo 34 = .ok (.iload_n 2, 1) := by decide +kernel
theorem d_As_retreatTo_35 : decode b_As_retreatTo 35 = .ok (.iaload, 1) := by decide +kernel
theorem d_As_retreatTo_36 : decode b_As_retreatTo 36 = .ok (.aload_n 0, 1) := by decide +kernel
theorem d_As_retreatTo_37 : decode b_As_retreatTo 37 = .ok (.getfield 9, 3) := by decide +kernel
theorem d_As_retreatTo_40 : decode b_As_retreatTo 40 = .ok (.iload_n 2, 1) := by decide +kernel
theorem d_As_retreatTo_41 : decode b_As_retreatTo 41 = .ok (.iaload, 1) := by decide +kernel
theorem d_As_retreatTo_42 : decode b_As_retreatTo 42 = .ok (.iastore, 1) := by decide +kernel
theorem d_As_retreatTo_43 : decode b_As_retreatTo 43 = .ok (.iinc 2 1, 3) := by decide +kernel
theorem d_As_retreatTo_46 : decode b_As_retreatTo 46 = .ok (.goto (-44), 3) := by decide +kernel
theorem d_As_retreatTo_49 : decode b_As_retreatTo 49 = .ok (.aload_n 0, 1) := by decide +kernel
theorem d_As_retreatTo_50 : decode b_As_retreatTo 50 = .ok (.invokevirtual 41, 3) := by decide +kernel
theorem d_As_retreatTo_53 : decode b_As_retreatTo 53 = .ok (.return_, 1) := by decide +kernel
theorem wd_693 : (Cond.methodLink "SheetWar$Aside" (41 : Nat) ({ cls := "SheetWar$Aside", name := "clear", desc := "()V" } : MethodName)) ∈ TB := tb_t 693 (by decide +kernel) (by decide +kernel)
theorem wd_692 : (Cond.code ({ cls := "SheetWar$Aside", name := "isSharedGoal", desc := "(I)Z" } : MethodName) prog_2_method_6_code (3 : Nat) (Option.some FieldType.boolean)) ∈ TB := tb_t 692 (by decide +kernel) (by decide +kernel)
theorem wd_689 : (Cond.methodLink "SheetWar$Aside" (35 : Nat) ({ cls := "SheetWar$Aside", name := "isSharedGoal", desc := "(I)Z" } : MethodName)) ∈ TB := tb_t 689 (by decide +kernel) (by decide +kernel)
theorem wd_691 : (Cond.instanceMethod ({ cls := "SheetWar$Aside", name := "isSharedGoal", desc := "(I)Z" } : MethodName)) ∈ TB := tb_t 691 (by decide +kernel) (by decide +kernel)
theorem wd_67 : (Cond.fieldLink "SheetWar$Aside" (38 : Nat) "SheetWar$Sheet" "units" "[I") ∈ TB := tb_t 67 (by decide +kernel) (by decide +kernel)
theorem wp_34 : Cond.selects "SheetWar$Aside" ⟨"SheetWar$Aside", "isSharedGoal", "(I)Z"⟩ ⟨"SheetWar$Aside", "isSharedGoal", "(I)Z"⟩ ∈ TB := tb_p 34 (by decide +kernel) (by decide +kernel)
set_option maxHeartbeats 4000000 in
set_option maxRecDepth 100000 in
theorem c_As_retreatTo (l : Launch) (D : va_G) (cI cZ cJ cS : ClassId) (aT : Nat) (ceT : Cell) (sz : Nat) (h0 h1 : Nat) (au ao ag : Nat) (ac : Int32) (tn : Int32) (qu qo qx qy qr qw : Nat) (ga go gg fu : Nat → Int32) (hgg : ∀ j, gg j = -1 ∨ vp_in (gg j) 12) : Met l y_As_retreatTo w_As_retreatTo ({ frames := 2, cells := 0, slots := 0, locals := 43 }) (tH D cI cZ cJ cS aT ceT [.ref h0, .ref h1] sz [(h0, .inr (0, [.ref au, .ref ao, .ref ag, .int ac])), (au, .inl (cI, 12, .inl ga)), (ao, .inl (cI, 12, .inl go)), (ag, .inl (cI, 12, .inl gg)), (h1, .inr (3, [.int tn, .ref qu, .ref qo, .ref qx, .ref qy, .ref qr, .ref qw])), (qu, .inl (cI, 12, .inl fu))]) (va_Qv (fun _ : Unit => True) (fun _ t => tB D (va_A [(h0, .inr (0, [.ref au, .ref ao, .ref ag, .int ac])), (au, .inl (cI, 12, .inl ga)), (ao, .inl (cI, 12, .inl go)), (ag, .inl (cI, 12, .inl gg)), (h1, .inr (3, [.int tn, .ref qu, .ref qo, .ref qx, .ref qy, .ref qr, .ref qw])), (qu, .inl (cI, 12, .inl fu))] sz) [(h0, .inr (0, [.ref au, .ref ao, .ref ag, .int 0])), (au, .inl (cI, 12, .inl (fun _ => (-1)))), (ao, .inl (cI, 12, .inl (fun _ => (-1)))), (ag, .inl (cI, 12, .inl (fun _ => (-1)))), (h1, .inr (3, [.int tn, .ref qu, .ref qo, .ref qx, .ref qy, .ref qr, .ref qw])), (qu, .inl (cI, 12, .inl (rtF ga gg fu 12)))] t) (va_A [(h0, .inr (0, [.ref au, .ref ao, .ref ag, .int ac])), (au, .inl (cI, 12, .inl ga)), (ao, .inl (cI, 12, .inl go)), (ag, .inl (cI, 12, .inl gg)), (h1, .inr (3, [.int tn, .ref qu, .ref qo, .ref qx, .ref qy, .ref qr, .ref qw])), (qu, .inl (cI, 12, .inl fu))] sz)) 0 0 (va_A [(h0, .inr (0, [.ref au, .ref ao, .ref ag, .int ac])), (au, .inl (cI, 12, .inl ga)), (ao, .inl (cI, 12, .inl go)), (ag, .inl (cI, 12, .inl gg)), (h1, .inr (3, [.int tn, .ref qu, .ref qo, .ref qx, .ref qy, .ref qr, .ref qw])), (qu, .inl (cI, 12, .inl fu))] sz) := by
  refine Met.ofW (cc := b_As_retreatTo) (maxL := 3) (ret := none) (by decide) rfl ?_
  intro p e s m args below meth c s₁ B hml hv
  obtain ⟨rfl, hsz, hP, hK, hD0, hX⟩ := hv
  have hx := B.exec
  have hb := B.bytes
  have hr := B.returns
  have hts0 := atoms_spec (ws := w_As_retreatTo) B.pre
  have hts : ∀ w ∈ TB, w.before _ s = true := fun w h => hts0 w (List.mem_cons_of_mem _ h)
  have hown : s.vm.findClass R_As = some m.cls := findClass_of_methodNamed B.named
  have hlocks := B.notSynchronized
  subst hsz
  have hXl := tx_lt hX
  have hXn := tx_far hP hX
  have hD := hD0.self (sz := s.heap.size)
  generalize hAe : va_A [(h0, .inr (0, [.ref au, .ref ao, .ref ag, .int ac])), (au, .inl (cI, 12, .inl ga)), (ao, .inl (cI, 12, .inl go)), (ag, .inl (cI, 12, .inl gg)), (h1, .inr (3, [.int tn, .ref qu, .ref qo, .ref qx, .ref qy, .ref qr, .ref qw])), (qu, .inl (cI, 12, .inl fu))] s.heap.size = A at hD hXn ⊢
  have hA : ∀ q : Nat, s.heap.size ≤ q → A q := fun q h => by rw [← hAe]; exact Or.inr h
  have hS : va_S A s.heap s.heap [] := va_S.rf
  have hXH : s.heap[aT]? = s.heap[aT]? := rfl
  have hl := lv_entry ([.ref h0, .ref h1]) (n := 3) (Nat.le_of_ble_eq_true rfl)
  rw [lg_entry_eq]
  generalize (lg_sl ([.ref h0, .ref h1]) ++ List.replicate (3 - (lg_sl ([.ref h0, .ref h1])).length) Slot.unset).toArray = ls at hl ⊢
  have hl : lv_has ls 3 [(0, .ref h0), (1, .ref h1)] := hl
  refine lv_iconst (v := 0) hx hb d_As_retreatTo_0 (by decide) ?_
  refine lv_istore_n (lv' := [(2, .int 0), (0, .ref h0), (1, .ref h1)]) hx hb d_As_retreatTo_1 rfl hl (by decide) rfl (fun ls hl => ?_)
  have loop : ∀ (k i : Nat) (ls : Array Slot) (H : Heap) (locs : List Loc), i + k = 12 → lv_has ls 3 [(2, .int (nI i)), (0, .ref h0), (1, .ref h1)] → va_P D vwCl [(h0, .inr (0, [.ref au, .ref ao, .ref ag, .int ac])), (au, .inl (cI, 12, .inl ga)), (ao, .inl (cI, 12, .inl go)), (ag, .inl (cI, 12, .inl gg)), (h1, .inr (3, [.int tn, .ref qu, .ref qo, .ref qx, .ref qy, .ref qr, .ref qw])), (qu, .inl (cI, 12, .inl (rtF ga gg fu i)))] H → va_D A [(h0, .inr (0, [.ref au, .ref ao, .ref ag, .int ac])), (au, .inl (cI, 12, .inl ga)), (ao, .inl (cI, 12, .inl go)), (ag, .inl (cI, 12, .inl gg)), (h1, .inr (3, [.int tn, .ref qu, .ref qo, .ref qx, .ref qy, .ref qr, .ref qw])), (qu, .inl (cI, 12, .inl (rtF ga gg fu i)))] → va_S A s.heap H locs → W p l e (headSpec w_As_retreatTo ({ frames := 2, cells := 0, slots := 0, locals := 43 })).room s m ([.ref h0, .ref h1]).toArray below meth c H locs 0 0 (MQ below (va_Qv (fun _ : Unit => True) (fun _ t => tB D A [(h0, .inr (0, [.ref au, .ref ao, .ref ag, .int 0])), (au, .inl (cI, 12, .inl (fun _ => (-1)))), (ao, .inl (cI, 12, .inl (fun _ => (-1)))), (ag, .inl (cI, 12, .inl (fun _ => (-1)))), (h1, .inr (3, [.int tn, .ref qu, .ref qo, .ref qx, .ref qy, .ref qr, .ref qw])), (qu, .inl (cI, 12, .inl (rtF ga gg fu 12)))] t) A) ([.ref h0, .ref h1]).toArray s 0 0 A) (F0 m 2 ls []) := by
    intro k
    induction k with
    | zero =>
      intro i ls H locs hi hl hP hD hS
      have hie : i = 12 := by omega
      rw [hie] at hl hP hD
      refine lv_iload_n hx hb d_As_retreatTo_2 rfl (lv_at hl 0 rfl) ?_
      refine lv_bipush (v := 12) hx hb d_As_retreatTo_3 (by decide) ?_
      refine lv_icmp_ge (tgt := 49) hx hb d_As_retreatTo_5 (by decide) (fun _ => ?_) (fun h0 => absurd (by decide) h0)
      refine lv_aload_n hx hb d_As_retreatTo_49 rfl (lv_at hl 1 rfl) ?_
      have hPc := hP.sub (ws' := [(h0, .inr (0, [.ref au, .ref ao, .ref ag, .int ac])), (au, .inl (cI, 12, .inl ga)), (ao, .inl (cI, 12, .inl go)), (ag, .inl (cI, 12, .inl gg))]) [0, 1, 2, 3] rfl
      have hDc := hD.sub (ws' := [(h0, .inr (0, [.ref au, .ref ao, .ref ag, .int ac])), (au, .inl (cI, 12, .inl ga)), (ao, .inl (cI, 12, .inl go)), (ag, .inl (cI, 12, .inl gg))]) [0, 1, 2, 3] (by decide) rfl
      have hFc := va_free (wc := [(h0, .inr (0, [.ref au, .ref ao, .ref ag, .int ac])), (au, .inl (cI, 12, .inl ga)), (ao, .inl (cI, 12, .inl go)), (ag, .inl (cI, 12, .inl gg))]) hD hS hA [0, 1, 2, 3] rfl
      refine va_callv (va_runV (As := []) (rest := []) ⟨hx, hb, hml, hown, hts⟩ (c_As_clear l D cI cZ cJ cS aT ceT H.size h0 au ao ag ac ga go gg ) (cwV 0 hts (tb_4 wd_693 wd_244 wd_245 wd_6 (tb_c wd_246)) rfl rfl rfl ⟨rfl, by decide, by decide, by decide +kernel⟩ ⟨Nat.le_of_ble_eq_true rfl, Nat.le_of_ble_eq_true rfl⟩) (tH_V hK hX (hS.2.1 aT hXl hXn) hPc hDc (q := 0) rfl rfl) rfl rfl hl.1 rfl (lv_room (Nat.le_of_ble_eq_true rfl)) d_As_retreatTo_50 ⟨Nat.le_of_ble_eq_true rfl, Nat.le_of_ble_eq_true rfl⟩) hS (fun q _ h => hFc q h) hFc (fun u t H1 locs ht hvm h9 hB hz1 hk1 hS => ?_)
      obtain ⟨hP1, hD1⟩ := hB
      rw [ht] at hP1
      obtain ⟨hP, hD⟩ := va_join (wr := [(h1, .inr (3, [.int tn, .ref qu, .ref qo, .ref qx, .ref qy, .ref qr, .ref qw])), (qu, .inl (cI, 12, .inl (rtF ga gg fu 12)))]) (w1 := [(h0, .inr (0, [.ref au, .ref ao, .ref ag, .int 0])), (au, .inl (cI, 12, .inl (fun _ => (-1)))), (ao, .inl (cI, 12, .inl (fun _ => (-1)))), (ag, .inl (cI, 12, .inl (fun _ => (-1))))]) hP hD [0, 1, 2, 3] [4, 5] rfl rfl (by decide) (by decide) hk1 hFc hP1 hD1
      generalize H1 = H at hP hS ⊢
      have hP : va_P D vwCl [(h1, .inr (3, [.int tn, .ref qu, .ref qo, .ref qx, .ref qy, .ref qr, .ref qw])), (qu, .inl (cI, 12, .inl (rtF ga gg fu 12))), (h0, .inr (0, [.ref au, .ref ao, .ref ag, .int 0])), (au, .inl (cI, 12, .inl (fun _ => (-1)))), (ao, .inl (cI, 12, .inl (fun _ => (-1)))), (ag, .inl (cI, 12, .inl (fun _ => (-1))))] H := hP
      have hD : va_D A [(h1, .inr (3, [.int tn, .ref qu, .ref qo, .ref qx, .ref qy, .ref qr, .ref qw])), (qu, .inl (cI, 12, .inl (rtF ga gg fu 12))), (h0, .inr (0, [.ref au, .ref ao, .ref ag, .int 0])), (au, .inl (cI, 12, .inl (fun _ => (-1)))), (ao, .inl (cI, 12, .inl (fun _ => (-1)))), (ag, .inl (cI, 12, .inl (fun _ => (-1))))] := hD
      have hP9 := hP.sub (ws' := [(h0, .inr (0, [.ref au, .ref ao, .ref ag, .int 0])), (au, .inl (cI, 12, .inl (fun _ => (-1)))), (ao, .inl (cI, 12, .inl (fun _ => (-1)))), (ag, .inl (cI, 12, .inl (fun _ => (-1)))), (h1, .inr (3, [.int tn, .ref qu, .ref qo, .ref qx, .ref qy, .ref qr, .ref qw])), (qu, .inl (cI, 12, .inl (rtF ga gg fu 12)))]) [2, 3, 4, 5, 0, 1] rfl
      have hD9 := hD.sub (ws' := [(h0, .inr (0, [.ref au, .ref ao, .ref ag, .int 0])), (au, .inl (cI, 12, .inl (fun _ => (-1)))), (ao, .inl (cI, 12, .inl (fun _ => (-1)))), (ag, .inl (cI, 12, .inl (fun _ => (-1)))), (h1, .inr (3, [.int tn, .ref qu, .ref qo, .ref qx, .ref qy, .ref qr, .ref qw])), (qu, .inl (cI, 12, .inl (rtF ga gg fu 12)))]) [2, 3, 4, 5, 0, 1] (by decide) rfl
      exact W.vret hx hb hr (fun t ht hW => ⟨⟨(), rfl, trivial, by rw [ht]; exact hP9, hD9⟩, hS.F ht⟩) hS.2.2 d_As_retreatTo_53
    | succ k ih =>
      intro i ls H locs hi hl hP hD hS
      have hlt : i < 12 := by omega
      have hlt12 : i < 12 := by omega
      refine lv_iload_n hx hb d_As_retreatTo_2 rfl (lv_at hl 0 rfl) ?_
      refine lv_bipush (v := 12) hx hb d_As_retreatTo_3 (by decide) ?_
      refine lv_icmp_ge (tgt := 49) hx hb d_As_retreatTo_5 (by decide) (fun h0 => absurd h0 (nI_ge hlt (by decide))) (fun _ => ?_)
      refine lv_aload_n hx hb d_As_retreatTo_8 rfl (lv_at hl 1 rfl) ?_
      refine va_get (D := D) (ci := 0) (v := .ref ag) (C := R_As) (T := T_As) (N := 4) hx hb hts hin_As hown hK hP 0 rfl rfl 2 (by decide) (hts _ wd_168) (fun _ h9 => h9) rfl d_As_retreatTo_9 ?_
      refine lv_iload_n hx hb d_As_retreatTo_12 rfl (lv_at hl 0 rfl) ?_
      refine tr_iald (v := gg i) hx hb hK hP 3 0 rfl rfl i hlt12 (by decide) rfl d_As_retreatTo_13 ?_
      refine lv_iconst (v := (-1)) hx hb d_As_retreatTo_14 (by decide) ?_
      refine lv_icmp_eq (tgt := 43) hx hb d_As_retreatTo_15 (by decide) (fun hc3 => ?_) (fun hc3 => ?_)
      · -- 15 taken
        refine lv_iinc (lv' := [(2, .int ((nI i) + 1)), (0, .ref h0), (1, .ref h1)]) hx hb d_As_retreatTo_43 hl (k := 0) rfl rfl (by decide) rfl (fun ls hl => ?_)
        refine lv_goto (tgt := 2) hx hb d_As_retreatTo_46 (by decide) ?_
        have e4 : (nI i) + 1 = nI (i + 1) := nI_1 i
        have eo5 : (rtF ga gg fu i) = (rtF ga gg fu (i + 1)) := rtF_n (Or.inl hc3)
        exact ih (i + 1) ls H locs (by omega) (by rw [← e4]; exact lv_sub hl [0, 1, 2] rfl) (by rw [← eo5]; exact hP) (by rw [← eo5]; exact hD) hS
      · -- 15 not taken
        refine lv_aload_n hx hb d_As_retreatTo_18 rfl (lv_at hl 1 rfl) ?_
        refine lv_iload_n hx hb d_As_retreatTo_19 rfl (lv_at hl 0 rfl) ?_
        have hPc := hP.sub (ws' := [(h0, .inr (0, [.ref au, .ref ao, .ref ag, .int ac])), (ag, .inl (cI, 12, .inl gg))]) [0, 3] rfl
        refine vp_callSi (va_Run.run (va_runV (As := [.int (nI i)]) (rest := []) ⟨hx, hb, hml, hown, hts⟩ (c_As_isSharedGoal l D cI cZ cJ cS aT ceT  h0 au ao ag ac gg i hlt12) (cwV 1 hts (tb_4 wd_689 wd_691 wp_34 wd_6 (tb_c wd_692)) rfl rfl rfl ⟨rfl, by decide, by decide, by decide +kernel⟩ ⟨Nat.le_of_ble_eq_true rfl, Nat.le_of_ble_eq_true rfl⟩) (tP_V hK hX (hS.2.1 aT hXl hXn) hPc (q := 0) rfl rfl) rfl rfl hl.1 rfl (lv_room (Nat.le_of_ble_eq_true rfl)) d_As_retreatTo_20 ⟨Nat.le_of_ble_eq_true rfl, Nat.le_of_ble_eq_true rfl⟩)) (fun r6 hr9 => ?_)
        rw [hr9]
        rcases bI_c (shG gg i) with ⟨hb8, e9⟩ | ⟨hb8, e9⟩
        · refine tr_top e9 ?_
          refine lv_if_ne (tgt := 43) hx hb d_As_retreatTo_23 (by decide) (fun _ => ?_) (fun h0 => absurd h0 (by decide))
          refine lv_iinc (lv' := [(2, .int ((nI i) + 1)), (0, .ref h0), (1, .ref h1)]) hx hb d_As_retreatTo_43 hl (k := 0) rfl rfl (by decide) rfl (fun ls hl => ?_)
          refine lv_goto (tgt := 2) hx hb d_As_retreatTo_46 (by decide) ?_
          have e10 : (nI i) + 1 = nI (i + 1) := nI_1 i
          have eo11 : (rtF ga gg fu i) = (rtF ga gg fu (i + 1)) := rtF_n (Or.inr hb8)
          exact ih (i + 1) ls H locs (by omega) (by rw [← e10]; exact lv_sub hl [0, 1, 2] rfl) (by rw [← eo11]; exact hP) (by rw [← eo11]; exact hD) hS
        · refine tr_top e9 ?_
          refine lv_if_ne (tgt := 43) hx hb d_As_retreatTo_23 (by decide) (fun h0 => absurd (by decide) h0) (fun _ => ?_)
          have hng : ¬ gg i = -1 := hc3
          refine lv_aload_n hx hb d_As_retreatTo_26 rfl (lv_at hl 2 rfl) ?_
          refine va_get (D := D) (ci := 3) (v := .ref qu) (C := R_Sh) (T := T_Sh) (N := 7) hx hb hts hin_Sh hown hK hP 4 rfl rfl 1 (by decide) (hts _ wd_67) (fun _ h9 => h9) rfl d_As_retreatTo_27 ?_
          refine lv_aload_n hx hb d_As_retreatTo_30 rfl (lv_at hl 1 rfl) ?_
          refine va_get (D := D) (ci := 0) (v := .ref ag) (C := R_As) (T := T_As) (N := 4) hx hb hts hin_As hown hK hP 0 rfl rfl 2 (by decide) (hts _ wd_168) (fun _ h9 => h9) rfl d_As_retreatTo_31 ?_
          refine lv_iload_n hx hb d_As_retreatTo_34 rfl (lv_at hl 0 rfl) ?_
          refine tr_iald (v := gg i) hx hb hK hP 3 0 rfl rfl i hlt12 (by decide) rfl d_As_retreatTo_35 ?_
          refine lv_aload_n hx hb d_As_retreatTo_36 rfl (lv_at hl 1 rfl) ?_
          refine va_get (D := D) (ci := 0) (v := .ref au) (C := R_As) (T := T_As) (N := 4) hx hb hts hin_As hown hK hP 0 rfl rfl 0 (by decide) (hts _ wd_162) (fun _ h9 => h9) rfl d_As_retreatTo_37 ?_
          refine lv_iload_n hx hb d_As_retreatTo_40 rfl (lv_at hl 0 rfl) ?_
          refine tr_iald (v := ga i) hx hb hK hP 1 0 rfl rfl i hlt12 (by decide) rfl d_As_retreatTo_41 ?_
          refine va_iast hx hb hK hP hD hS 5 0 rfl rfl (Or.resolve_left (hgg i) hng) d_As_retreatTo_42 (fun H locs hP hD hS => ?_)
          have hP : va_P D vwCl [(h0, .inr (0, [.ref au, .ref ao, .ref ag, .int ac])), (au, .inl (cI, 12, .inl ga)), (ao, .inl (cI, 12, .inl go)), (ag, .inl (cI, 12, .inl gg)), (h1, .inr (3, [.int tn, .ref qu, .ref qo, .ref qx, .ref qy, .ref qr, .ref qw])), (qu, .inl (cI, 12, .inl (upd (rtF ga gg fu i) (gg i).toNatClampNeg (ga i))))] H := hP
          have hD : va_D A [(h0, .inr (0, [.ref au, .ref ao, .ref ag, .int ac])), (au, .inl (cI, 12, .inl ga)), (ao, .inl (cI, 12, .inl go)), (ag, .inl (cI, 12, .inl gg)), (h1, .inr (3, [.int tn, .ref qu, .ref qo, .ref qx, .ref qy, .ref qr, .ref qw])), (qu, .inl (cI, 12, .inl (upd (rtF ga gg fu i) (gg i).toNatClampNeg (ga i))))] := hD
          refine lv_iinc (lv' := [(2, .int ((nI i) + 1)), (0, .ref h0), (1, .ref h1)]) hx hb d_As_retreatTo_43 hl (k := 0) rfl rfl (by decide) rfl (fun ls hl => ?_)
          refine lv_goto (tgt := 2) hx hb d_As_retreatTo_46 (by decide) ?_
          have e13 : (nI i) + 1 = nI (i + 1) := nI_1 i
          have eo14 : (upd (rtF ga gg fu i) (gg i).toNatClampNeg (ga i)) = (rtF ga gg fu (i + 1)) := rtF_y hc3 hb8
          exact ih (i + 1) ls H locs (by omega) (by rw [← e13]; exact lv_sub hl [0, 1, 2] rfl) (by rw [← eo14]; exact hP) (by rw [← eo14]; exact hD) hS
  exact loop 12 0 ls _ _ (Nat.zero_add _) hl (hP) (hD) hS

theorem d_Wm_join_0 : decode b_Wm_join 0 = .ok (.aload_n 0, 1) := by decide +kernel
theorem d_Wm_join_1 : decode b_Wm_join 1 = .ok (.getfield 15, 3) := by decide +kernel
theorem d_Wm_join_4 : decode b_Wm_join 4 = .ok (.iload_n 1, 1) := by decide +kernel
theorem d_Wm_join_5 : decode b_Wm_join 5 = .ok (.iaload, 1) := by decide +kernel
theorem d_Wm_join_6 : decode b_Wm_join 6 = .ok (.iload_n 2, 1) := by decide +kernel
theorem d_Wm_join_7 : decode b_Wm_join 7 = .ok (.invokestatic 32, 3) := by decide +kernel
theorem d_Wm_join_10 : decode b_Wm_join 10 = .ok (.ifCond .eq 5, 3) := by decide +kernel
theorem d_Wm_join_13 : decode b_Wm_join 13 = .ok (.iconst 0, 1) := by decide +kernel
theorem d_Wm_join_14 : decode b_Wm_join 14 = .ok (.ireturn, 1) := by decide +kernel
theorem d_Wm_join_15 : decode b_Wm_join 15 = .ok (.aload_n 0, 1) := by decide +kernel
theorem d_Wm_join_16 : decode b_Wm_join 16 = .ok (.getfield 15, 3) := by decide +kernel
theorem d_Wm_join_19 : decode b_Wm_join 19 = .ok (.iload_n 1, 1) := by decide +kernel
theorem d_Wm_join_20 : decode b_Wm_join 20 = .ok (.dup2, 1) := by decide +kernel
theorem d_Wm_join_21 : decode b_Wm_join 21 = .ok (.iaload, 1) := by decide +kernel
theorem d_Wm_join_22 : decode b_Wm_join 22 = .ok (.iload_n 2, 1) := by decide +kernel
theorem d_Wm_join_23 : decode b_Wm_join 23 = .ok (.invokestatic 25, 3) := by decide +kernel
theorem d_Wm_join_26 : decode b_Wm_join 26 = .ok (.ior, 1) := by decide +kernel
theorem d_Wm_join_27 : decode b_Wm_join 27 = .ok (.iastore, 1) := by decide +kernel
theorem d_Wm_join_28 : decode b_Wm_join 28 = .ok (.aload_n 0, 1) := by decide +kernel
theorem d_Wm_join_29 : decode b_Wm_join 29 = .ok (.getfield 15, 3) := by decide +kernel
theorem d_Wm_join_32 : decode b_Wm_join 32 = .ok (.iload_n 2, 1) := by decide +kernel
theorem d_Wm_join_33 : decode b_Wm_join 33 = .ok (.dup2, 1) := by decide +kernel
theorem d_Wm_join_34 : decode b_Wm_join 34 = .ok (.iaload, 1) := by decide +kernel
theorem d_Wm_join_35 : decode b_Wm_join 35 = .ok (.iload_n 1, 1) := by decide +kernel
theorem d_Wm_join_36 : decode b_Wm_join 36 = .ok (.invokestatic 25, 3) := by decide +kernel
theorem d_Wm_join_39 : decode b_Wm_join 39 = .ok (.ior, 1) := by decide +kernel
theorem d_Wm_join_40 : decode b_Wm_join 40 = .ok (.iastore, 1) := by decide +kernel
theorem d_Wm_join_41 : decode b_Wm_join 41 = .ok (.iconst 1, 1) := by decide +kernel
theorem d_Wm_join_42 : decode b_Wm_join 42 = .ok (.ireturn, 1) := by decide +kernel

set_option maxHeartbeats 4000000 in
set_option maxRecDepth 100000 in
theorem c_Wm_join0 (l : Launch) (D : va_G) (cI cZ cJ cS : ClassId) (aT : Nat) (ceT : Cell) (h0 qh qn n : Nat) (S Ce : Nat → Bool) (N : Nat → Nat → Bool) (a b : Nat) (h_a : a < 12) (h_b : b < 12) (hnb : N a b = true) : Met l y_Wm_join w_Wm_join ({ frames := 1, cells := 0, slots := 0, locals := 21 }) (tP D cI cZ cJ cS aT ceT [.ref h0, .int (nI a), .int (nI b)] [(h0, .inr (4, [.int (nI n), .int (mI S), .int (mI Ce), .ref qh, .ref qn])), (qn, .inl (cI, 12, .inl (fun j => mI (N j))))]) (vp_Si (fun r => r = 0)) 0 0 (fun _ => False) := by
  refine Met.ofW (cc := b_Wm_join) (maxL := 3) (ret := (some .boolean)) (by decide) rfl ?_
  intro p e s m args below meth c s₁ B hml hv
  obtain ⟨rfl, hP, hK, hX⟩ := hv
  have hx := B.exec
  have hb := B.bytes
  have hr := B.returns
  have hts0 := atoms_spec (ws := w_Wm_join) B.pre
  have hts : ∀ w ∈ TB, w.before _ s = true := fun w h => hts0 w (List.mem_cons_of_mem _ h)
  have hown : s.vm.findClass R_Wm = some m.cls := findClass_of_methodNamed B.named
  have hlocks := B.notSynchronized
  have hXH : s.heap[aT]? = s.heap[aT]? := rfl
  have hl := lv_entry ([.ref h0, .int (nI a), .int (nI b)]) (n := 3) (Nat.le_of_ble_eq_true rfl)
  rw [lg_entry_eq]
  generalize (lg_sl ([.ref h0, .int (nI a), .int (nI b)]) ++ List.replicate (3 - (lg_sl ([.ref h0, .int (nI a), .int (nI b)])).length) Slot.unset).toArray = ls at hl ⊢
  have hl : lv_has ls 3 [(0, .ref h0), (1, .int (nI a)), (2, .int (nI b))] := hl
  refine lv_aload_n hx hb d_Wm_join_0 rfl (lv_at hl 0 rfl) ?_
  refine va_get (D := D) (ci := 4) (v := .ref qn) (C := R_Wm) (T := T_Wm) (N := 5) hx hb hts hin_Wm hown hK hP 0 rfl rfl 4 (by decide) (hts _ wd_39) (fun _ h9 => h9) rfl d_Wm_join_1 ?_
  refine lv_iload_n hx hb d_Wm_join_4 rfl (lv_at hl 1 rfl) ?_
  refine tr_iald (v := mI (N a)) hx hb hK hP 1 0 rfl rfl a h_a (by decide) rfl d_Wm_join_5 ?_
  refine lv_iload_n hx hb d_Wm_join_6 rfl (lv_at hl 2 rfl) ?_
  have hPc := hP.sub (ws' := []) [] rfl
  refine vp_callSi (va_Run.run (va_runSN (As := [.int (mI (N a)), .int (nI b)]) (rest := []) ⟨hx, hb, hml, hown, hts⟩ (c_Sw_in l D cI cZ cJ cS aT ceT  (N a) b h_b) (⟨va_cnB 2 hts (tb_c wd_285) rfl rfl rfl hX.2.2.2.2.2.1 (hts _ wd_1) ⟨by decide, by decide, by decide +kernel⟩ ⟨Nat.le_of_ble_eq_true rfl, Nat.le_of_ble_eq_true rfl⟩, hts _ wd_284, trivial⟩) (tP_S hK hX hXH hPc) rfl rfl hl.1 rfl (lv_room (Nat.le_of_ble_eq_true rfl)) d_Wm_join_7 ⟨Nat.le_of_ble_eq_true rfl, Nat.le_of_ble_eq_true rfl⟩)) (fun r1 hr9 => ?_)
  rw [hr9]
  refine tr_top (bI_t hnb) ?_
  refine lv_if_eq (tgt := 15) hx hb d_Wm_join_10 (by decide) (fun h0 => absurd h0 (by decide)) (fun _ => ?_)
  refine lv_iconst (v := 0) hx hb d_Wm_join_13 (by decide) ?_
  exact W.zret (v := 0) hx hb hr (by decide) (fun t ht hW => ⟨0, rfl, rfl, ht⟩) (fun q hq => by cases hq) d_Wm_join_14


set_option maxHeartbeats 4000000 in
set_option maxRecDepth 100000 in
theorem c_Wm_join1 (l : Launch) (D : va_G) (cI cZ cJ cS : ClassId) (aT : Nat) (ceT : Cell) (sz : Nat) (h0 qh qn n : Nat) (S Ce : Nat → Bool) (N : Nat → Nat → Bool) (a b : Nat) (h_a : a < 12) (h_b : b < 12) (hnb : N a b = false) : Met l y_Wm_join w_Wm_join ({ frames := 1, cells := 0, slots := 0, locals := 21 }) (tH D cI cZ cJ cS aT ceT [.ref h0, .int (nI a), .int (nI b)] sz [(h0, .inr (4, [.int (nI n), .int (mI S), .int (mI Ce), .ref qh, .ref qn])), (qn, .inl (cI, 12, .inl (fun j => mI (N j))))]) (va_Qi (fun (r : Int32) (_ : Unit) => r = 1) (fun _ t => tB D (va_A [(h0, .inr (4, [.int (nI n), .int (mI S), .int (mI Ce), .ref qh, .ref qn])), (qn, .inl (cI, 12, .inl (fun j => mI (N j))))] sz) [(h0, .inr (4, [.int (nI n), .int (mI S), .int (mI Ce), .ref qh, .ref qn])), (qn, .inl (cI, 12, .inl (fun j => mI (jnN N a b j))))] t) (va_A [(h0, .inr (4, [.int (nI n), .int (mI S), .int (mI Ce), .ref qh, .ref qn])), (qn, .inl (cI, 12, .inl (fun j => mI (N j))))] sz)) 0 0 (va_A [(h0, .inr (4, [.int (nI n), .int (mI S), .int (mI Ce), .ref qh, .ref qn])), (qn, .inl (cI, 12, .inl (fun j => mI (N j))))] sz) := by
  refine Met.ofW (cc := b_Wm_join) (maxL := 3) (ret := (some .boolean)) (by decide) rfl ?_
  intro p e s m args below meth c s₁ B hml hv
  obtain ⟨rfl, hsz, hP, hK, hD0, hX⟩ := hv
  have hx := B.exec
  have hb := B.bytes
  have hr := B.returns
  have hts0 := atoms_spec (ws := w_Wm_join) B.pre
  have hts : ∀ w ∈ TB, w.before _ s = true := fun w h => hts0 w (List.mem_cons_of_mem _ h)
  have hown : s.vm.findClass R_Wm = some m.cls := findClass_of_methodNamed B.named
  have hlocks := B.notSynchronized
  subst hsz
  have hXl := tx_lt hX
  have hXn := tx_far hP hX
  have hD := hD0.self (sz := s.heap.size)
  generalize hAe : va_A [(h0, .inr (4, [.int (nI n), .int (mI S), .int (mI Ce), .ref qh, .ref qn])), (qn, .inl (cI, 12, .inl (fun j => mI (N j))))] s.heap.size = A at hD hXn ⊢
  have hA : ∀ q : Nat, s.heap.size ≤ q → A q := fun q h => by rw [← hAe]; exact Or.inr h
  have hS : va_S A s.heap s.heap [] := va_S.rf
  have hXH : s.heap[aT]? = s.heap[aT]? := rfl
  have hl := lv_entry ([.ref h0, .int (nI a), .int (nI b)]) (n := 3) (Nat.le_of_ble_eq_true rfl)
  rw [lg_entry_eq]
  generalize (lg_sl ([.ref h0, .int (nI a), .int (nI b)]) ++ List.replicate (3 - (lg_sl ([.ref h0, .int (nI a), .int (nI b)])).length) Slot.unset).toArray = ls at hl ⊢
  have hl : lv_has ls 3 [(0, .ref h0), (1, .int (nI a)), (2, .int (nI b))] := hl
  refine lv_aload_n hx hb d_Wm_join_0 rfl (lv_at hl 0 rfl) ?_
  refine va_get (D := D) (ci := 4) (v := .ref qn) (C := R_Wm) (T := T_Wm) (N := 5) hx hb hts hin_Wm hown hK hP 0 rfl rfl 4 (by decide) (hts _ wd_39) (fun _ h9 => h9) rfl d_Wm_join_1 ?_
  refine lv_iload_n hx hb d_Wm_join_4 rfl (lv_at hl 1 rfl) ?_
  refine tr_iald (v := mI (N a)) hx hb hK hP 1 0 rfl rfl a h_a (by decide) rfl d_Wm_join_5 ?_
  refine lv_iload_n hx hb d_Wm_join_6 rfl (lv_at hl 2 rfl) ?_
  have hPc := hP.sub (ws' := []) [] rfl
  refine vp_callSi (va_Run.run (va_runSN (As := [.int (mI (N a)), .int (nI b)]) (rest := []) ⟨hx, hb, hml, hown, hts⟩ (c_Sw_in l D cI cZ cJ cS aT ceT  (N a) b h_b) (⟨va_cnB 2 hts (tb_c wd_285) rfl rfl rfl hX.2.2.2.2.2.1 (hts _ wd_1) ⟨by decide, by decide, by decide +kernel⟩ ⟨Nat.le_of_ble_eq_true rfl, Nat.le_of_ble_eq_true rfl⟩, hts _ wd_284, trivial⟩) (tP_S hK hX (hS.2.1 aT hXl hXn) hPc) rfl rfl hl.1 rfl (lv_room (Nat.le_of_ble_eq_true rfl)) d_Wm_join_7 ⟨Nat.le_of_ble_eq_true rfl, Nat.le_of_ble_eq_true rfl⟩)) (fun r1 hr9 => ?_)
  rw [hr9]
  refine tr_top (bI_f hnb) ?_
  refine lv_if_eq (tgt := 15) hx hb d_Wm_join_10 (by decide) (fun _ => ?_) (fun h0 => absurd (by decide) h0)
  refine lv_aload_n hx hb d_Wm_join_15 rfl (lv_at hl 0 rfl) ?_
  refine va_get (D := D) (ci := 4) (v := .ref qn) (C := R_Wm) (T := T_Wm) (N := 5) hx hb hts hin_Wm hown hK hP 0 rfl rfl 4 (by decide) (hts _ wd_39) (fun _ h9 => h9) rfl d_Wm_join_16 ?_
  refine lv_iload_n hx hb d_Wm_join_19 rfl (lv_at hl 1 rfl) ?_
  refine lv_dup2_11 hx hb d_Wm_join_20 rfl rfl ?_
  refine tr_iald (v := mI (N a)) hx hb hK hP 1 0 rfl rfl a h_a (by decide) rfl d_Wm_join_21 ?_
  refine lv_iload_n hx hb d_Wm_join_22 rfl (lv_at hl 2 rfl) ?_
  have hPc := hP.sub (ws' := []) [] rfl
  refine vp_callSi (va_Run.run (va_runSN (As := [.int (nI b)]) (rest := [.int (mI (N a)), .int (nI a), .ref qn]) ⟨hx, hb, hml, hown, hts⟩ (c_Sw_bitN l D cI cZ cJ cS aT ceT  b h_b) (⟨va_cnB 1 hts (tb_c wd_411) rfl rfl rfl hX.2.2.2.2.2.2.1 (hts _ wd_1) ⟨by decide, by decide, by decide +kernel⟩ ⟨Nat.le_of_ble_eq_true rfl, Nat.le_of_ble_eq_true rfl⟩, hts _ wd_410, trivial⟩) (tP_S hK hX (hS.2.1 aT hXl hXn) hPc) rfl rfl hl.1 rfl (lv_room (Nat.le_of_ble_eq_true rfl)) d_Wm_join_23 ⟨Nat.le_of_ble_eq_true rfl, Nat.le_of_ble_eq_true rfl⟩)) (fun r4 hr9 => ?_)
  rw [hr9]
  refine lv_ior hx hb d_Wm_join_26 ?_
  refine tr_top (y := mI (fun j => N a j || decide (j = b))) (mI_or _ _) ?_
  refine tr_iast (g := fun j => mI (upS N a (fun j => N a j || decide (j = b)) j)) hx hb hK hP hD hS 1 0 rfl rfl a h_a (by decide) (upS_I N a (fun j => N a j || decide (j = b))) d_Wm_join_27 (fun H locs hP hD hS => ?_)
  have hP : va_P D vwCl [(h0, .inr (4, [.int (nI n), .int (mI S), .int (mI Ce), .ref qh, .ref qn])), (qn, .inl (cI, 12, .inl (fun j => mI (upS N a (fun j => N a j || decide (j = b)) j))))] H := hP
  have hD : va_D A [(h0, .inr (4, [.int (nI n), .int (mI S), .int (mI Ce), .ref qh, .ref qn])), (qn, .inl (cI, 12, .inl (fun j => mI (upS N a (fun j => N a j || decide (j = b)) j))))] := hD
  refine lv_aload_n hx hb d_Wm_join_28 rfl (lv_at hl 0 rfl) ?_
  refine va_get (D := D) (ci := 4) (v := .ref qn) (C := R_Wm) (T := T_Wm) (N := 5) hx hb hts hin_Wm hown hK hP 0 rfl rfl 4 (by decide) (hts _ wd_39) (fun _ h9 => h9) rfl d_Wm_join_29 ?_
  refine lv_iload_n hx hb d_Wm_join_32 rfl (lv_at hl 2 rfl) ?_
  refine lv_dup2_11 hx hb d_Wm_join_33 rfl rfl ?_
  refine tr_iald (v := mI (upS N a (fun j => N a j || decide (j = b)) b)) hx hb hK hP 1 0 rfl rfl b h_b (by decide) rfl d_Wm_join_34 ?_
  refine lv_iload_n hx hb d_Wm_join_35 rfl (lv_at hl 1 rfl) ?_
  have hPc := hP.sub (ws' := []) [] rfl
  refine vp_callSi (va_Run.run (va_runSN (As := [.int (nI a)]) (rest := [.int (mI (upS N a (fun j => N a j || decide (j = b)) b)), .int (nI b), .ref qn]) ⟨hx, hb, hml, hown, hts⟩ (c_Sw_bitN l D cI cZ cJ cS aT ceT  a h_a) (⟨va_cnB 1 hts (tb_c wd_411) rfl rfl rfl hX.2.2.2.2.2.2.1 (hts _ wd_1) ⟨by decide, by decide, by decide +kernel⟩ ⟨Nat.le_of_ble_eq_true rfl, Nat.le_of_ble_eq_true rfl⟩, hts _ wd_410, trivial⟩) (tP_S hK hX (hS.2.1 aT hXl hXn) hPc) rfl rfl hl.1 rfl (lv_room (Nat.le_of_ble_eq_true rfl)) d_Wm_join_36 ⟨Nat.le_of_ble_eq_true rfl, Nat.le_of_ble_eq_true rfl⟩)) (fun r5 hr9 => ?_)
  rw [hr9]
  refine lv_ior hx hb d_Wm_join_39 ?_
  refine tr_top (y := mI (fun j => (upS N a (fun j => N a j || decide (j = b)) b j) || decide (j = a))) (mI_or _ _) ?_
  refine tr_iast (g := fun j => mI (upS (fun j => upS N a (fun j => N a j || decide (j = b)) j) b (fun j => (upS N a (fun j => N a j || decide (j = b)) b j) || decide (j = a)) j)) hx hb hK hP hD hS 1 0 rfl rfl b h_b (by decide) (upS_I (fun j => upS N a (fun j => N a j || decide (j = b)) j) b (fun j => (upS N a (fun j => N a j || decide (j = b)) b j) || decide (j = a))) d_Wm_join_40 (fun H locs hP hD hS => ?_)
  have hP : va_P D vwCl [(h0, .inr (4, [.int (nI n), .int (mI S), .int (mI Ce), .ref qh, .ref qn])), (qn, .inl (cI, 12, .inl (fun j => mI (upS (fun j => upS N a (fun j => N a j || decide (j = b)) j) b (fun j => (upS N a (fun j => N a j || decide (j = b)) b j) || decide (j = a)) j))))] H := hP
  have hD : va_D A [(h0, .inr (4, [.int (nI n), .int (mI S), .int (mI Ce), .ref qh, .ref qn])), (qn, .inl (cI, 12, .inl (fun j => mI (upS (fun j => upS N a (fun j => N a j || decide (j = b)) j) b (fun j => (upS N a (fun j => N a j || decide (j = b)) b j) || decide (j = a)) j))))] := hD
  refine lv_iconst (v := 1) hx hb d_Wm_join_41 (by decide) ?_
  have hP9 := hP.sub (ws' := [(h0, .inr (4, [.int (nI n), .int (mI S), .int (mI Ce), .ref qh, .ref qn])), (qn, .inl (cI, 12, .inl (fun j => mI (upS (fun j => upS N a (fun j => N a j || decide (j = b)) j) b (fun j => (upS N a (fun j => N a j || decide (j = b)) b j) || decide (j = a)) j))))]) [0, 1] rfl
  have hD9 := hD.sub (ws' := [(h0, .inr (4, [.int (nI n), .int (mI S), .int (mI Ce), .ref qh, .ref qn])), (qn, .inl (cI, 12, .inl (fun j => mI (upS (fun j => upS N a (fun j => N a j || decide (j = b)) j) b (fun j => (upS N a (fun j => N a j || decide (j = b)) b j) || decide (j = a)) j))))]) [0, 1] (by decide) rfl
  exact W.zret (v := 1) hx hb hr (by decide) (fun t ht hW => ⟨⟨1, (), rfl, rfl, by rw [ht]; exact hP9, hD9⟩, hS.F ht⟩) hS.2.2 d_Wm_join_42

theorem d_Sw_putUnit_0 : decode b_Sw_putUnit 0 = .ok (.aload_n 0, 1) := by decide +kernel
theorem d_Sw_putUnit_1 : decode b_Sw_putUnit 1 = .ok (.getfield 19, 3) := by decide +kernel
theorem d_Sw_putUnit_4 : decode b_Sw_putUnit 4 = .ok (.iload_n 1, 1) := by decide +kernel
theorem d_Sw_putUnit_5 : decode b_Sw_putUnit 5 = .ok (.invokevirtual 223, 3) := by decide +kernel
theorem d_Sw_putUnit_8 : decode b_Sw_putUnit 8 = .ok (.ifCond .gt 5, 3) := by decide +kernel
theorem d_Sw_putUnit_11 : decode b_Sw_putUnit 11 = .ok (.iconst 1, 1) := by decide +kernel
theorem d_Sw_putUnit_12 : decode b_Sw_putUnit 12 = .ok (.ireturn, 1) := by decide +kernel
theorem d_Sw_putUnit_13 : decode b_Sw_putUnit 13 = .ok (.aload_n 0, 1) := by decide +kernel
theorem d_Sw_putUnit_14 : decode b_Sw_putUnit 14 = .ok (.iload_n 1, 1) := by decide +kernel
theorem d_Sw_putUnit_15 : decode b_Sw_putUnit 15 = .ok (.iload_n 2, 1) := by decide +kernel
theorem d_Sw_putUnit_16 : decode b_Sw_putUnit 16 = .ok (.invokevirtual 229, 3) := by decide +kernel
theorem d_Sw_putUnit_19 : decode b_Sw_putUnit 19 = .ok (.ifCond .eq 15, 3) := by decide +kernel
theorem d_Sw_putUnit_22 : decode b_Sw_putUnit 22 = .ok (.aload_n 0, 1) := by decide +kernel
theorem d_Sw_putUnit_23 : decode b_Sw_putUnit 23 = .ok (.getfield 13, 3) := by decide +kernel
theorem d_Sw_putUnit_26 : decode b_Sw_putUnit 26 = .ok (.iload_n 3, 1) := by decide +kernel
theorem d_Sw_putUnit_27 : decode b_Sw_putUnit 27 = .ok (.iload_n 2, 1) := by decide +kernel
theorem d_Sw_putUnit_28 : decode b_Sw_putUnit 28 = .ok (.invokevirtual 81, 3) := by decide +kernel
theorem d_Sw_putUnit_31 : decode b_Sw_putUnit 31 = .ok (.ifCond .ne 5, 3) := by decide +kernel
theorem d_Sw_putUnit_34 : decode b_Sw_putUnit 34 = .ok (.iconst 2, 1) := by decide +kernel
theorem d_Sw_putUnit_35 : decode b_Sw_putUnit 35 = .ok (.ireturn, 1) := by decide +kernel
theorem d_Sw_putUnit_36 : decode b_Sw_putUnit 36 = .ok (.aload_n 0, 1) := by decide +kernel
theorem d_Sw_putUnit_37 : decode b_Sw_putUnit 37 = .ok (.getfield 19, 3) := by decide +kernel
theorem d_Sw_putUnit_40 : decode b_Sw_putUnit 40 = .ok (.getfield 84, 3) := by decide +kernel
theorem d_Sw_putUnit_43 : decode b_Sw_putUnit 43 = .ok (.iload_n 2, 1) := by decide +kernel
theorem d_Sw_putUnit_44 : decode b_Sw_putUnit 44 = .ok (.iload_n 1, 1) := by decide +kernel
theorem d_Sw_putUnit_45 : decode b_Sw_putUnit 45 = .ok (.iload_n 3, 1) := by decide +kernel
theorem d_Sw_putUnit_46 : decode b_Sw_putUnit 46 = .ok (.invokestatic 87, 3) := by decide +kernel
theorem d_Sw_putUnit_49 : decode b_Sw_putUnit 49 = .ok (.iastore, 1) := by decide +kernel
theorem d_Sw_putUnit_50 : decode b_Sw_putUnit 50 = .ok (.iconst 0, 1) := by decide +kernel
theorem d_Sw_putUnit_51 : decode b_Sw_putUnit 51 = .ok (.ireturn, 1) := by decide +kernel
theorem wd_433 : (Cond.code ({ cls := "SheetWar$WarMap", name := "canStand", desc := "(II)Z" } : MethodName) prog_6_method_7_code (3 : Nat) (Option.some FieldType.boolean)) ∈ TB := tb_t 433 (by decide +kernel) (by decide +kernel)
theorem wd_430 : (Cond.methodLink "SheetWar" (81 : Nat) ({ cls := "SheetWar$WarMap", name := "canStand", desc := "(II)Z" } : MethodName)) ∈ TB := tb_t 430 (by decide +kernel) (by decide +kernel)
theorem wd_431 : (Cond.instanceMethod ({ cls := "SheetWar$WarMap", name := "canStand", desc := "(II)Z" } : MethodName)) ∈ TB := tb_t 431 (by decide +kernel) (by decide +kernel)
theorem wd_432 : (Cond.selects "SheetWar$WarMap" ({ cls := "SheetWar$WarMap", name := "canStand", desc := "(II)Z" } : MethodName) ({ cls := "SheetWar$WarMap", name := "canStand", desc := "(II)Z" } : MethodName)) ∈ TB := tb_t 432 (by decide +kernel) (by decide +kernel)
theorem wd_436 : (Cond.code ({ cls := "SheetWar", name := "unitOf", desc := "(II)I" } : MethodName) prog_1_method_22_code (2 : Nat) (Option.some FieldType.int)) ∈ TB := tb_t 436 (by decide +kernel) (by decide +kernel)
theorem wd_434 : (Cond.methodLink "SheetWar" (87 : Nat) ({ cls := "SheetWar", name := "unitOf", desc := "(II)I" } : MethodName)) ∈ TB := tb_t 434 (by decide +kernel) (by decide +kernel)
theorem wd_435 : (Cond.static ({ cls := "SheetWar", name := "unitOf", desc := "(II)I" } : MethodName)) ∈ TB := tb_t 435 (by decide +kernel) (by decide +kernel)
set_option maxHeartbeats 4000000 in
set_option maxRecDepth 100000 in
theorem c_Sw_putUnit (l : Launch) (D : va_G) (cI cZ cJ cS : ClassId) (aT : Nat) (ceT : Cell) (sz : Nat) (h0 hm hh he ha hp : Nat) (ph : Int32) (qh qn n : Nat) (S Ce : Nat → Bool) (N : Nat → Nat → Bool) (tn : Int32) (qu qo qx qy qr qw : Nat) (fh fw fu : Nat → Int32) (p9 a k : Nat) (h_a : a < 12)  : Met l y_Sw_putUnit w_Sw_putUnit ({ frames := 3, cells := 0, slots := 0, locals := 65 }) (tH D cI cZ cJ cS aT ceT [.ref h0, .int (nI p9), .int (nI a), .int (nI k)] sz [(h0, .inr (5, [.ref hm, .ref hh, .ref he, .ref ha, .ref hp, .int ph])), (hm, .inr (4, [.int (nI n), .int (mI S), .int (mI Ce), .ref qh, .ref qn])), (qh, .inl (cI, 12, .inl fh)), (qn, .inl (cI, 12, .inl (fun j => mI (N j)))), (hh, .inr (3, [.int tn, .ref qu, .ref qo, .ref qx, .ref qy, .ref qr, .ref qw])), (qu, .inl (cI, 12, .inl fu)), (qw, .inl (cI, 12, .inl fw))]) (va_Qi (fun (r : Int32) (_ : Unit) => r = nI (puR (msC fw fu (nI p9)) (bpC fh fw fu (nI p9) a && (if nI k = 0 then !S a else S a || anyB (fun j => N a j && S j) 12)))) (fun _ t => tB D (va_A [(h0, .inr (5, [.ref hm, .ref hh, .ref he, .ref ha, .ref hp, .int ph])), (hm, .inr (4, [.int (nI n), .int (mI S), .int (mI Ce), .ref qh, .ref qn])), (qh, .inl (cI, 12, .inl fh)), (qn, .inl (cI, 12, .inl (fun j => mI (N j)))), (hh, .inr (3, [.int tn, .ref qu, .ref qo, .ref qx, .ref qy, .ref qr, .ref qw])), (qu, .inl (cI, 12, .inl fu)), (qw, .inl (cI, 12, .inl fw))] sz) [(h0, .inr (5, [.ref hm, .ref hh, .ref he, .ref ha, .ref hp, .int ph])), (hm, .inr (4, [.int (nI n), .int (mI S), .int (mI Ce), .ref qh, .ref qn])), (qh, .inl (cI, 12, .inl fh)), (qn, .inl (cI, 12, .inl (fun j => mI (N j)))), (hh, .inr (3, [.int tn, .ref qu, .ref qo, .ref qx, .ref qy, .ref qr, .ref qw])), (qu, .inl (cI, 12, .inl (pkU (puR (msC fw fu (nI p9)) (bpC fh fw fu (nI p9) a && (if nI k = 0 then !S a else S a || anyB (fun j => N a j && S j) 12))) fu a (nI (2 * p9 + k))))), (qw, .inl (cI, 12, .inl fw))] t) (va_A [(h0, .inr (5, [.ref hm, .ref hh, .ref he, .ref ha, .ref hp, .int ph])), (hm, .inr (4, [.int (nI n), .int (mI S), .int (mI Ce), .ref qh, .ref qn])), (qh, .inl (cI, 12, .inl fh)), (qn, .inl (cI, 12, .inl (fun j => mI (N j)))), (hh, .inr (3, [.int tn, .ref qu, .ref qo, .ref qx, .ref qy, .ref qr, .ref qw])), (qu, .inl (cI, 12, .inl fu)), (qw, .inl (cI, 12, .inl fw))] sz)) 0 0 (va_A [(h0, .inr (5, [.ref hm, .ref hh, .ref he, .ref ha, .ref hp, .int ph])), (hm, .inr (4, [.int (nI n), .int (mI S), .int (mI Ce), .ref qh, .ref qn])), (qh, .inl (cI, 12, .inl fh)), (qn, .inl (cI, 12, .inl (fun j => mI (N j)))), (hh, .inr (3, [.int tn, .ref qu, .ref qo, .ref qx, .ref qy, .ref qr, .ref qw])), (qu, .inl (cI, 12, .inl fu)), (qw, .inl (cI, 12, .inl fw))] sz) := by
  refine Met.ofW (cc := b_Sw_putUnit) (maxL := 4) (ret := (some .int)) (by decide) rfl ?_
  intro p e s m args below meth c s₁ B hml hv
  obtain ⟨rfl, hsz, hP, hK, hD0, hX⟩ := hv
  have hx := B.exec
  have hb := B.bytes
  have hr := B.returns
  have hts0 := atoms_spec (ws := w_Sw_putUnit) B.pre
  have hts : ∀ w ∈ TB, w.before _ s = true := fun w h => hts0 w (List.mem_cons_of_mem _ h)
  have hown : s.vm.findClass R_Sw = some m.cls := findClass_of_methodNamed B.named
  have hlocks := B.notSynchronized
  subst hsz
  have hXl := tx_lt hX
  have hXn := tx_far hP hX
  have hD := hD0.self (sz := s.heap.size)
  generalize hAe : va_A [(h0, .inr (5, [.ref hm, .ref hh, .ref he, .ref ha, .ref hp, .int ph])), (hm, .inr (4, [.int (nI n), .int (mI S), .int (mI Ce), .ref qh, .ref qn])), (qh, .inl (cI, 12, .inl fh)), (qn, .inl (cI, 12, .inl (fun j => mI (N j)))), (hh, .inr (3, [.int tn, .ref qu, .ref qo, .ref qx, .ref qy, .ref qr, .ref qw])), (qu, .inl (cI, 12, .inl fu)), (qw, .inl (cI, 12, .inl fw))] s.heap.size = A at hD hXn ⊢
  have hA : ∀ q : Nat, s.heap.size ≤ q → A q := fun q h => by rw [← hAe]; exact Or.inr h
  have hS : va_S A s.heap s.heap [] := va_S.rf
  have hXH : s.heap[aT]? = s.heap[aT]? := rfl
  have hl := lv_entry ([.ref h0, .int (nI p9), .int (nI a), .int (nI k)]) (n := 4) (Nat.le_of_ble_eq_true rfl)
  rw [lg_entry_eq]
  generalize (lg_sl ([.ref h0, .int (nI p9), .int (nI a), .int (nI k)]) ++ List.replicate (4 - (lg_sl ([.ref h0, .int (nI p9), .int (nI a), .int (nI k)])).length) Slot.unset).toArray = ls at hl ⊢
  have hl : lv_has ls 4 [(0, .ref h0), (1, .int (nI p9)), (2, .int (nI a)), (3, .int (nI k))] := hl
  refine lv_aload_n hx hb d_Sw_putUnit_0 rfl (lv_at hl 0 rfl) ?_
  refine va_get (D := D) (ci := 5) (v := .ref hh) (C := R_Sw) (T := T_Sw) (N := 6) hx hb hts hin_Sw hown hK hP 0 rfl rfl 1 (by decide) (hts _ wd_202) (fun _ h9 => h9) rfl d_Sw_putUnit_1 ?_
  refine lv_iload_n hx hb d_Sw_putUnit_4 rfl (lv_at hl 1 rfl) ?_
  have hPc := hP.sub (ws' := [(hh, .inr (3, [.int tn, .ref qu, .ref qo, .ref qx, .ref qy, .ref qr, .ref qw])), (qu, .inl (cI, 12, .inl fu)), (qw, .inl (cI, 12, .inl fw))]) [4, 5, 6] rfl
  refine vp_callSi (va_Run.run (va_runV (As := [.int (nI p9)]) (rest := []) ⟨hx, hb, hml, hown, hts⟩ (c_Sh_missing l D cI cZ cJ cS aT ceT  hh tn qu qo qx qy qr qw fu fw (nI p9) ) (cwV 1 hts (tb_4 wd_638 wd_639 wd_640 wd_3 (tb_c wd_641)) rfl rfl rfl ⟨rfl, by decide, by decide, by decide +kernel⟩ ⟨Nat.le_of_ble_eq_true rfl, Nat.le_of_ble_eq_true rfl⟩) (tP_V hK hX (hS.2.1 aT hXl hXn) hPc (q := 0) rfl rfl) rfl rfl hl.1 rfl (lv_room (Nat.le_of_ble_eq_true rfl)) d_Sw_putUnit_5 ⟨Nat.le_of_ble_eq_true rfl, Nat.le_of_ble_eq_true rfl⟩)) (fun r1 hr9 => ?_)
  rw [hr9]
  refine tr_top (y := msC fw fu (nI p9)) rfl ?_
  refine lv_if_gt (tgt := 13) hx hb d_Sw_putUnit_8 (by decide) (fun hc2 => ?_) (fun hc2 => ?_)
  · -- 8 taken
    refine lv_aload_n hx hb d_Sw_putUnit_13 rfl (lv_at hl 0 rfl) ?_
    refine lv_iload_n hx hb d_Sw_putUnit_14 rfl (lv_at hl 1 rfl) ?_
    refine lv_iload_n hx hb d_Sw_putUnit_15 rfl (lv_at hl 2 rfl) ?_
    have hPc := hP.sub (ws' := [(h0, .inr (5, [.ref hm, .ref hh, .ref he, .ref ha, .ref hp, .int ph])), (hm, .inr (4, [.int (nI n), .int (mI S), .int (mI Ce), .ref qh, .ref qn])), (qh, .inl (cI, 12, .inl fh)), (hh, .inr (3, [.int tn, .ref qu, .ref qo, .ref qx, .ref qy, .ref qr, .ref qw])), (qu, .inl (cI, 12, .inl fu)), (qw, .inl (cI, 12, .inl fw))]) [0, 1, 2, 4, 5, 6] rfl
    refine vp_callSi (va_Run.run (va_runV (As := [.int (nI p9), .int (nI a)]) (rest := []) ⟨hx, hb, hml, hown, hts⟩ (c_Sw_isBuildingPlace l D cI cZ cJ cS aT ceT  h0 hm hh he ha hp ph qh qn n S Ce tn qu qo qx qy qr qw fh fw fu (nI p9) a h_a) (cwV 2 hts (tb_4 wd_648 wd_650 wp_31 wd_1 (tb_c wd_651)) rfl rfl rfl ⟨rfl, by decide, by decide, by decide +kernel⟩ ⟨Nat.le_of_ble_eq_true rfl, Nat.le_of_ble_eq_true rfl⟩) (tP_V hK hX (hS.2.1 aT hXl hXn) hPc (q := 0) rfl rfl) rfl rfl hl.1 rfl (lv_room (Nat.le_of_ble_eq_true rfl)) d_Sw_putUnit_16 ⟨Nat.le_of_ble_eq_true rfl, Nat.le_of_ble_eq_true rfl⟩)) (fun r3 hr9 => ?_)
    rw [hr9]
    rcases bI_c (bpC fh fw fu (nI p9) a) with ⟨hb5, e9⟩ | ⟨hb5, e9⟩
    · refine tr_top e9 ?_
      refine lv_if_eq (tgt := 34) hx hb d_Sw_putUnit_19 (by decide) (fun h0 => absurd h0 (by decide)) (fun _ => ?_)
      refine lv_aload_n hx hb d_Sw_putUnit_22 rfl (lv_at hl 0 rfl) ?_
      refine va_get (D := D) (ci := 5) (v := .ref hm) (C := R_Sw) (T := T_Sw) (N := 6) hx hb hts hin_Sw hown hK hP 0 rfl rfl 0 (by decide) (hts _ wd_201) (fun _ h9 => h9) rfl d_Sw_putUnit_23 ?_
      refine lv_iload_n hx hb d_Sw_putUnit_26 rfl (lv_at hl 3 rfl) ?_
      refine lv_iload_n hx hb d_Sw_putUnit_27 rfl (lv_at hl 2 rfl) ?_
      have hPc := hP.sub (ws' := [(hm, .inr (4, [.int (nI n), .int (mI S), .int (mI Ce), .ref qh, .ref qn])), (qn, .inl (cI, 12, .inl (fun j => mI (N j))))]) [1, 3] rfl
      refine vp_callSi (va_Run.run (va_runV (As := [.int (nI k), .int (nI a)]) (rest := []) ⟨hx, hb, hml, hown, hts⟩ (c_Wm_canStand l D cI cZ cJ cS aT ceT  hm qh qn n S Ce N (nI k) a h_a) (cwV 2 hts (tb_4 wd_430 wd_431 wd_432 wd_2 (tb_c wd_433)) rfl rfl rfl ⟨rfl, by decide, by decide, by decide +kernel⟩ ⟨Nat.le_of_ble_eq_true rfl, Nat.le_of_ble_eq_true rfl⟩) (tP_V hK hX (hS.2.1 aT hXl hXn) hPc (q := 0) rfl rfl) rfl rfl hl.1 rfl (lv_room (Nat.le_of_ble_eq_true rfl)) d_Sw_putUnit_28 ⟨Nat.le_of_ble_eq_true rfl, Nat.le_of_ble_eq_true rfl⟩)) (fun r7 hr9 => ?_)
      rw [hr9]
      rcases bI_c (if (nI k) = 0 then !S a else S a || anyB (fun j => N a j && S j) 12) with ⟨hb9, e9⟩ | ⟨hb9, e9⟩
      · refine tr_top e9 ?_
        refine lv_if_ne (tgt := 36) hx hb d_Sw_putUnit_31 (by decide) (fun _ => ?_) (fun h0 => absurd h0 (by decide))
        refine lv_aload_n hx hb d_Sw_putUnit_36 rfl (lv_at hl 0 rfl) ?_
        refine va_get (D := D) (ci := 5) (v := .ref hh) (C := R_Sw) (T := T_Sw) (N := 6) hx hb hts hin_Sw hown hK hP 0 rfl rfl 1 (by decide) (hts _ wd_202) (fun _ h9 => h9) rfl d_Sw_putUnit_37 ?_
        refine va_get (D := D) (ci := 3) (v := .ref qu) (C := R_Sh) (T := T_Sh) (N := 7) hx hb hts hin_Sh hown hK hP 4 rfl rfl 1 (by decide) (hts _ wd_65) (fun _ h9 => h9) rfl d_Sw_putUnit_40 ?_
        refine lv_iload_n hx hb d_Sw_putUnit_43 rfl (lv_at hl 2 rfl) ?_
        refine lv_iload_n hx hb d_Sw_putUnit_44 rfl (lv_at hl 1 rfl) ?_
        refine lv_iload_n hx hb d_Sw_putUnit_45 rfl (lv_at hl 3 rfl) ?_
        have hPc := hP.sub (ws' := []) [] rfl
        refine vp_callSi (va_Run.run (va_runS (As := [.int (nI p9), .int (nI k)]) (rest := [.int (nI a), .ref qu]) ⟨hx, hb, hml, hown, hts⟩ (c_Sw_unitOf l D cI cZ cJ cS aT ceT  p9 k ) (va_cwS 2 hts (tb_3 wd_434 wd_435 wd_1 (tb_c wd_436)) rfl rfl rfl ⟨by decide, by decide, by decide +kernel⟩ ⟨Nat.le_of_ble_eq_true rfl, Nat.le_of_ble_eq_true rfl⟩) (tP_S hK hX (hS.2.1 aT hXl hXn) hPc) rfl rfl hl.1 rfl (lv_room (Nat.le_of_ble_eq_true rfl)) d_Sw_putUnit_46 ⟨Nat.le_of_ble_eq_true rfl, Nat.le_of_ble_eq_true rfl⟩)) (fun r11 hr9 => ?_)
        rw [hr9]
        refine tr_iast (g := upd fu a (nI (2 * p9 + k))) hx hb hK hP hD hS 5 0 rfl rfl a h_a (by decide) rfl d_Sw_putUnit_49 (fun H locs hP hD hS => ?_)
        have hP : va_P D vwCl [(h0, .inr (5, [.ref hm, .ref hh, .ref he, .ref ha, .ref hp, .int ph])), (hm, .inr (4, [.int (nI n), .int (mI S), .int (mI Ce), .ref qh, .ref qn])), (qh, .inl (cI, 12, .inl fh)), (qn, .inl (cI, 12, .inl (fun j => mI (N j)))), (hh, .inr (3, [.int tn, .ref qu, .ref qo, .ref qx, .ref qy, .ref qr, .ref qw])), (qu, .inl (cI, 12, .inl (upd fu a (nI (2 * p9 + k))))), (qw, .inl (cI, 12, .inl fw))] H := hP
        have hD : va_D A [(h0, .inr (5, [.ref hm, .ref hh, .ref he, .ref ha, .ref hp, .int ph])), (hm, .inr (4, [.int (nI n), .int (mI S), .int (mI Ce), .ref qh, .ref qn])), (qh, .inl (cI, 12, .inl fh)), (qn, .inl (cI, 12, .inl (fun j => mI (N j)))), (hh, .inr (3, [.int tn, .ref qu, .ref qo, .ref qx, .ref qy, .ref qr, .ref qw])), (qu, .inl (cI, 12, .inl (upd fu a (nI (2 * p9 + k))))), (qw, .inl (cI, 12, .inl fw))] := hD
        refine lv_iconst (v := 0) hx hb d_Sw_putUnit_50 (by decide) ?_
        have hP9 := hP.sub (ws' := [(h0, .inr (5, [.ref hm, .ref hh, .ref he, .ref ha, .ref hp, .int ph])), (hm, .inr (4, [.int (nI n), .int (mI S), .int (mI Ce), .ref qh, .ref qn])), (qh, .inl (cI, 12, .inl fh)), (qn, .inl (cI, 12, .inl (fun j => mI (N j)))), (hh, .inr (3, [.int tn, .ref qu, .ref qo, .ref qx, .ref qy, .ref qr, .ref qw])), (qu, .inl (cI, 12, .inl (upd fu a (nI (2 * p9 + k))))), (qw, .inl (cI, 12, .inl fw))]) [0, 1, 2, 3, 4, 5, 6] rfl
        have hD9 := hD.sub (ws' := [(h0, .inr (5, [.ref hm, .ref hh, .ref he, .ref ha, .ref hp, .int ph])), (hm, .inr (4, [.int (nI n), .int (mI S), .int (mI Ce), .ref qh, .ref qn])), (qh, .inl (cI, 12, .inl fh)), (qn, .inl (cI, 12, .inl (fun j => mI (N j)))), (hh, .inr (3, [.int tn, .ref qu, .ref qo, .ref qx, .ref qy, .ref qr, .ref qw])), (qu, .inl (cI, 12, .inl (upd fu a (nI (2 * p9 + k))))), (qw, .inl (cI, 12, .inl fw))]) [0, 1, 2, 3, 4, 5, 6] (by decide) rfl
        have ej : puR (msC fw fu (nI p9)) (bpC fh fw fu (nI p9) a && (if nI k = 0 then !S a else S a || anyB (fun j => N a j && S j) 12)) = 0 := by simp only [puR, hc2, hb5, hb9] <;> simp [hc2, hb5, hb9]
        have hP9 : va_P D vwCl [(h0, .inr (5, [.ref hm, .ref hh, .ref he, .ref ha, .ref hp, .int ph])), (hm, .inr (4, [.int (nI n), .int (mI S), .int (mI Ce), .ref qh, .ref qn])), (qh, .inl (cI, 12, .inl fh)), (qn, .inl (cI, 12, .inl (fun j => mI (N j)))), (hh, .inr (3, [.int tn, .ref qu, .ref qo, .ref qx, .ref qy, .ref qr, .ref qw])), (qu, .inl (cI, 12, .inl (pkU (puR (msC fw fu (nI p9)) (bpC fh fw fu (nI p9) a && (if nI k = 0 then !S a else S a || anyB (fun j => N a j && S j) 12))) fu a (nI (2 * p9 + k))))), (qw, .inl (cI, 12, .inl fw))] H := by rw [ej]; exact hP9
        have hD9 : va_D A [(h0, .inr (5, [.ref hm, .ref hh, .ref he, .ref ha, .ref hp, .int ph])), (hm, .inr (4, [.int (nI n), .int (mI S), .int (mI Ce), .ref qh, .ref qn])), (qh, .inl (cI, 12, .inl fh)), (qn, .inl (cI, 12, .inl (fun j => mI (N j)))), (hh, .inr (3, [.int tn, .ref qu, .ref qo, .ref qx, .ref qy, .ref qr, .ref qw])), (qu, .inl (cI, 12, .inl (pkU (puR (msC fw fu (nI p9)) (bpC fh fw fu (nI p9) a && (if nI k = 0 then !S a else S a || anyB (fun j => N a j && S j) 12))) fu a (nI (2 * p9 + k))))), (qw, .inl (cI, 12, .inl fw))] := by rw [ej]; exact hD9
        exact W.iret (v := 0) hx hb hr (fun t ht hW => ⟨⟨0, (), rfl, by rw [ej]; rfl, by rw [ht]; exact hP9, hD9⟩, hS.F ht⟩) hS.2.2 d_Sw_putUnit_51
      · refine tr_top e9 ?_
        refine lv_if_ne (tgt := 36) hx hb d_Sw_putUnit_31 (by decide) (fun h0 => absurd (by decide) h0) (fun _ => ?_)
        refine lv_iconst (v := 2) hx hb d_Sw_putUnit_34 (by decide) ?_
        have hP9 := hP.sub (ws' := [(h0, .inr (5, [.ref hm, .ref hh, .ref he, .ref ha, .ref hp, .int ph])), (hm, .inr (4, [.int (nI n), .int (mI S), .int (mI Ce), .ref qh, .ref qn])), (qh, .inl (cI, 12, .inl fh)), (qn, .inl (cI, 12, .inl (fun j => mI (N j)))), (hh, .inr (3, [.int tn, .ref qu, .ref qo, .ref qx, .ref qy, .ref qr, .ref qw])), (qu, .inl (cI, 12, .inl fu)), (qw, .inl (cI, 12, .inl fw))]) [0, 1, 2, 3, 4, 5, 6] rfl
        have hD9 := hD.sub (ws' := [(h0, .inr (5, [.ref hm, .ref hh, .ref he, .ref ha, .ref hp, .int ph])), (hm, .inr (4, [.int (nI n), .int (mI S), .int (mI Ce), .ref qh, .ref qn])), (qh, .inl (cI, 12, .inl fh)), (qn, .inl (cI, 12, .inl (fun j => mI (N j)))), (hh, .inr (3, [.int tn, .ref qu, .ref qo, .ref qx, .ref qy, .ref qr, .ref qw])), (qu, .inl (cI, 12, .inl fu)), (qw, .inl (cI, 12, .inl fw))]) [0, 1, 2, 3, 4, 5, 6] (by decide) rfl
        have ej : puR (msC fw fu (nI p9)) (bpC fh fw fu (nI p9) a && (if nI k = 0 then !S a else S a || anyB (fun j => N a j && S j) 12)) = 2 := by simp only [puR, hc2, hb5, hb9] <;> simp [hc2, hb5, hb9]
        have hP9 : va_P D vwCl [(h0, .inr (5, [.ref hm, .ref hh, .ref he, .ref ha, .ref hp, .int ph])), (hm, .inr (4, [.int (nI n), .int (mI S), .int (mI Ce), .ref qh, .ref qn])), (qh, .inl (cI, 12, .inl fh)), (qn, .inl (cI, 12, .inl (fun j => mI (N j)))), (hh, .inr (3, [.int tn, .ref qu, .ref qo, .ref qx, .ref qy, .ref qr, .ref qw])), (qu, .inl (cI, 12, .inl (pkU (puR (msC fw fu (nI p9)) (bpC fh fw fu (nI p9) a && (if nI k = 0 then !S a else S a || anyB (fun j => N a j && S j) 12))) fu a (nI (2 * p9 + k))))), (qw, .inl (cI, 12, .inl fw))] s.heap := by rw [ej]; exact hP9
        have hD9 : va_D A [(h0, .inr (5, [.ref hm, .ref hh, .ref he, .ref ha, .ref hp, .int ph])), (hm, .inr (4, [.int (nI n), .int (mI S), .int (mI Ce), .ref qh, .ref qn])), (qh, .inl (cI, 12, .inl fh)), (qn, .inl (cI, 12, .inl (fun j => mI (N j)))), (hh, .inr (3, [.int tn, .ref qu, .ref qo, .ref qx, .ref qy, .ref qr, .ref qw])), (qu, .inl (cI, 12, .inl (pkU (puR (msC fw fu (nI p9)) (bpC fh fw fu (nI p9) a && (if nI k = 0 then !S a else S a || anyB (fun j => N a j && S j) 12))) fu a (nI (2 * p9 + k))))), (qw, .inl (cI, 12, .inl fw))] := by rw [ej]; exact hD9
        exact W.iret (v := 2) hx hb hr (fun t ht hW => ⟨⟨2, (), rfl, by rw [ej]; rfl, by rw [ht]; exact hP9, hD9⟩, hS.F ht⟩) hS.2.2 d_Sw_putUnit_35
    · refine tr_top e9 ?_
      refine lv_if_eq (tgt := 34) hx hb d_Sw_putUnit_19 (by decide) (fun _ => ?_) (fun h0 => absurd (by decide) h0)
      refine lv_iconst (v := 2) hx hb d_Sw_putUnit_34 (by decide) ?_
      have hP9 := hP.sub (ws' := [(h0, .inr (5, [.ref hm, .ref hh, .ref he, .ref ha, .ref hp, .int ph])), (hm, .inr (4, [.int (nI n), .int (mI S), .int (mI Ce), .ref qh, .ref qn])), (qh, .inl (cI, 12, .inl fh)), (qn, .inl (cI, 12, .inl (fun j => mI (N j)))), (hh, .inr (3, [.int tn, .ref qu, .ref qo, .ref qx, .ref qy, .ref qr, .ref qw])), (qu, .inl (cI, 12, .inl fu)), (qw, .inl (cI, 12, .inl fw))]) [0, 1, 2, 3, 4, 5, 6] rfl
      have hD9 := hD.sub (ws' := [(h0, .inr (5, [.ref hm, .ref hh, .ref he, .ref ha, .ref hp, .int ph])), (hm, .inr (4, [.int (nI n), .int (mI S), .int (mI Ce), .ref qh, .ref qn])), (qh, .inl (cI, 12, .inl fh)), (qn, .inl (cI, 12, .inl (fun j => mI (N j)))), (hh, .inr (3, [.int tn, .ref qu, .ref qo, .ref qx, .ref qy, .ref qr, .ref qw])), (qu, .inl (cI, 12, .inl fu)), (qw, .inl (cI, 12, .inl fw))]) [0, 1, 2, 3, 4, 5, 6] (by decide) rfl
      have ej : puR (msC fw fu (nI p9)) (bpC fh fw fu (nI p9) a && (if nI k = 0 then !S a else S a || anyB (fun j => N a j && S j) 12)) = 2 := by simp only [puR, hc2, hb5] <;> simp [hc2, hb5]
      have hP9 : va_P D vwCl [(h0, .inr (5, [.ref hm, .ref hh, .ref he, .ref ha, .ref hp, .int ph])), (hm, .inr (4, [.int (nI n), .int (mI S), .int (mI Ce), .ref qh, .ref qn])), (qh, .inl (cI, 12, .inl fh)), (qn, .inl (cI, 12, .inl (fun j => mI (N j)))), (hh, .inr (3, [.int tn, .ref qu, .ref qo, .ref qx, .ref qy, .ref qr, .ref qw])), (qu, .inl (cI, 12, .inl (pkU (puR (msC fw fu (nI p9)) (bpC fh fw fu (nI p9) a && (if nI k = 0 then !S a else S a || anyB (fun j => N a j && S j) 12))) fu a (nI (2 * p9 + k))))), (qw, .inl (cI, 12, .inl fw))] s.heap := by rw [ej]; exact hP9
      have hD9 : va_D A [(h0, .inr (5, [.ref hm, .ref hh, .ref he, .ref ha, .ref hp, .int ph])), (hm, .inr (4, [.int (nI n), .int (mI S), .int (mI Ce), .ref qh, .ref qn])), (qh, .inl (cI, 12, .inl fh)), (qn, .inl (cI, 12, .inl (fun j => mI (N j)))), (hh, .inr (3, [.int tn, .ref qu, .ref qo, .ref qx, .ref qy, .ref qr, .ref qw])), (qu, .inl (cI, 12, .inl (pkU (puR (msC fw fu (nI p9)) (bpC fh fw fu (nI p9) a && (if nI k = 0 then !S a else S a || anyB (fun j => N a j && S j) 12))) fu a (nI (2 * p9 + k))))), (qw, .inl (cI, 12, .inl fw))] := by rw [ej]; exact hD9
      exact W.iret (v := 2) hx hb hr (fun t ht hW => ⟨⟨2, (), rfl, by rw [ej]; rfl, by rw [ht]; exact hP9, hD9⟩, hS.F ht⟩) hS.2.2 d_Sw_putUnit_35
  · -- 8 not taken
    refine lv_iconst (v := 1) hx hb d_Sw_putUnit_11 (by decide) ?_
    have hP9 := hP.sub (ws' := [(h0, .inr (5, [.ref hm, .ref hh, .ref he, .ref ha, .ref hp, .int ph])), (hm, .inr (4, [.int (nI n), .int (mI S), .int (mI Ce), .ref qh, .ref qn])), (qh, .inl (cI, 12, .inl fh)), (qn, .inl (cI, 12, .inl (fun j => mI (N j)))), (hh, .inr (3, [.int tn, .ref qu, .ref qo, .ref qx, .ref qy, .ref qr, .ref qw])), (qu, .inl (cI, 12, .inl fu)), (qw, .inl (cI, 12, .inl fw))]) [0, 1, 2, 3, 4, 5, 6] rfl
    have hD9 := hD.sub (ws' := [(h0, .inr (5, [.ref hm, .ref hh, .ref he, .ref ha, .ref hp, .int ph])), (hm, .inr (4, [.int (nI n), .int (mI S), .int (mI Ce), .ref qh, .ref qn])), (qh, .inl (cI, 12, .inl fh)), (qn, .inl (cI, 12, .inl (fun j => mI (N j)))), (hh, .inr (3, [.int tn, .ref qu, .ref qo, .ref qx, .ref qy, .ref qr, .ref qw])), (qu, .inl (cI, 12, .inl fu)), (qw, .inl (cI, 12, .inl fw))]) [0, 1, 2, 3, 4, 5, 6] (by decide) rfl
    have ej : puR (msC fw fu (nI p9)) (bpC fh fw fu (nI p9) a && (if nI k = 0 then !S a else S a || anyB (fun j => N a j && S j) 12)) = 1 := by simp only [puR, hc2] <;> simp [hc2]
    have hP9 : va_P D vwCl [(h0, .inr (5, [.ref hm, .ref hh, .ref he, .ref ha, .ref hp, .int ph])), (hm, .inr (4, [.int (nI n), .int (mI S), .int (mI Ce), .ref qh, .ref qn])), (qh, .inl (cI, 12, .inl fh)), (qn, .inl (cI, 12, .inl (fun j => mI (N j)))), (hh, .inr (3, [.int tn, .ref qu, .ref qo, .ref qx, .ref qy, .ref qr, .ref qw])), (qu, .inl (cI, 12, .inl (pkU (puR (msC fw fu (nI p9)) (bpC fh fw fu (nI p9) a && (if nI k = 0 then !S a else S a || anyB (fun j => N a j && S j) 12))) fu a (nI (2 * p9 + k))))), (qw, .inl (cI, 12, .inl fw))] s.heap := by rw [ej]; exact hP9
    have hD9 : va_D A [(h0, .inr (5, [.ref hm, .ref hh, .ref he, .ref ha, .ref hp, .int ph])), (hm, .inr (4, [.int (nI n), .int (mI S), .int (mI Ce), .ref qh, .ref qn])), (qh, .inl (cI, 12, .inl fh)), (qn, .inl (cI, 12, .inl (fun j => mI (N j)))), (hh, .inr (3, [.int tn, .ref qu, .ref qo, .ref qx, .ref qy, .ref qr, .ref qw])), (qu, .inl (cI, 12, .inl (pkU (puR (msC fw fu (nI p9)) (bpC fh fw fu (nI p9) a && (if nI k = 0 then !S a else S a || anyB (fun j => N a j && S j) 12))) fu a (nI (2 * p9 + k))))), (qw, .inl (cI, 12, .inl fw))] := by rw [ej]; exact hD9
    exact W.iret (v := 1) hx hb hr (fun t ht hW => ⟨⟨1, (), rfl, by rw [ej]; rfl, by rw [ht]; exact hP9, hD9⟩, hS.F ht⟩) hS.2.2 d_Sw_putUnit_12

theorem d_Sw_takeUnit_0 : decode b_Sw_takeUnit 0 = .ok (.aload_n 0, 1) := by decide +kernel
theorem d_Sw_takeUnit_1 : decode b_Sw_takeUnit 1 = .ok (.getfield 19, 3) := by decide +kernel
theorem d_Sw_takeUnit_4 : decode b_Sw_takeUnit 4 = .ok (.iload_n 1, 1) := by decide +kernel
theorem d_Sw_takeUnit_5 : decode b_Sw_takeUnit 5 = .ok (.invokevirtual 223, 3) := by decide +kernel
theorem d_Sw_takeUnit_8 : decode b_Sw_takeUnit 8 = .ok (.ifCond .lt 5, 3) := by decide +kernel
theorem d_Sw_takeUnit_11 : decode b_Sw_takeUnit 11 = .ok (.iconst 1, 1) := by decide +kernel
theorem d_Sw_takeUnit_12 : decode b_Sw_takeUnit 12 = .ok (.ireturn, 1) := by decide +kernel
theorem d_Sw_takeUnit_13 : decode b_Sw_takeUnit 13 = .ok (.aload_n 0, 1) := by decide +kernel
theorem d_Sw_takeUnit_14 : decode b_Sw_takeUnit 14 = .ok (.getfield 19, 3) := by decide +kernel
theorem d_Sw_takeUnit_17 : decode b_Sw_takeUnit 17 = .ok (.iload_n 2, 1) := by decide +kernel
theorem d_Sw_takeUnit_18 : decode b_Sw_takeUnit 18 = .ok (.invokevirtual 78, 3) := by decide +kernel
theorem d_Sw_takeUnit_21 : decode b_Sw_takeUnit 21 = .ok (.ifCond .eq 15, 3) := by decide +kernel
theorem d_Sw_takeUnit_24 : decode b_Sw_takeUnit 24 = .ok (.aload_n 0, 1) := by decide +kernel
theorem d_Sw_takeUnit_25 : decode b_Sw_takeUnit 25 = .ok (.getfield 19, 3) := by decide +kernel
theorem d_Sw_takeUnit_28 : decode b_Sw_takeUnit 28 = .ok (.iload_n 2, 1) := by decide +kernel
theorem d_Sw_takeUnit_29 : decode b_Sw_takeUnit 29 = .ok (.invokevirtual 100, 3) := by decide +kernel
theorem d_Sw_takeUnit_32 : decode b_Sw_takeUnit 32 = .ok (.iload_n 1, 1) := by decide +kernel
theorem d_Sw_takeUnit_33 : decode b_Sw_takeUnit 33 = .ok (.if_icmp .eq 5, 3) := by decide +kernel
theorem d_Sw_takeUnit_36 : decode b_Sw_takeUnit 36 = .ok (.iconst 2, 1) := by decide +kernel
theorem d_Sw_takeUnit_37 : decode b_Sw_takeUnit 37 = .ok (.ireturn, 1) := by decide +kernel
theorem d_Sw_takeUnit_38 : decode b_Sw_takeUnit 38 = .ok (.aload_n 0, 1) := by decide +kernel
theorem d_Sw_takeUnit_39 : decode b_Sw_takeUnit 39 = .ok (.getfield 19, 3) := by decide +kernel
theorem d_Sw_takeUnit_42 : decode b_Sw_takeUnit 42 = .ok (.getfield 84, 3) := by decide +kernel
theorem d_Sw_takeUnit_45 : decode b_Sw_takeUnit 45 = .ok (.iload_n 2, 1) := by decide +kernel
theorem d_Sw_takeUnit_46 : decode b_Sw_takeUnit 46 = .ok (.iconst (-1), 1) := by decide +kernel
theorem d_Sw_takeUnit_47 : decode b_Sw_takeUnit 47 = .ok (.iastore, 1) := by decide +kernel
theorem d_Sw_takeUnit_48 : decode b_Sw_takeUnit 48 = .ok (.iconst 0, 1) := by decide +kernel
theorem d_Sw_takeUnit_49 : decode b_Sw_takeUnit 49 = .ok (.ireturn, 1) := by decide +kernel

set_option maxHeartbeats 4000000 in
set_option maxRecDepth 100000 in
theorem c_Sw_takeUnit (l : Launch) (D : va_G) (cI cZ cJ cS : ClassId) (aT : Nat) (ceT : Cell) (sz : Nat) (h0 hm hh he ha hp : Nat) (ph : Int32) (qh qn n : Nat) (S Ce : Nat → Bool) (N : Nat → Nat → Bool) (tn : Int32) (qu qo qx qy qr qw : Nat) (fh fw fu : Nat → Int32) (p9 a : Nat) (h_a : a < 12)  : Met l y_Sw_takeUnit w_Sw_takeUnit ({ frames := 3, cells := 0, slots := 0, locals := 65 }) (tH D cI cZ cJ cS aT ceT [.ref h0, .int (nI p9), .int (nI a)] sz [(h0, .inr (5, [.ref hm, .ref hh, .ref he, .ref ha, .ref hp, .int ph])), (hm, .inr (4, [.int (nI n), .int (mI S), .int (mI Ce), .ref qh, .ref qn])), (qh, .inl (cI, 12, .inl fh)), (qn, .inl (cI, 12, .inl (fun j => mI (N j)))), (hh, .inr (3, [.int tn, .ref qu, .ref qo, .ref qx, .ref qy, .ref qr, .ref qw])), (qu, .inl (cI, 12, .inl fu)), (qw, .inl (cI, 12, .inl fw))]) (va_Qi (fun (r : Int32) (_ : Unit) => r = nI (tuR (msC fw fu (nI p9)) (!decide (fu a = -1) && decide (fu a / 2 = nI p9)))) (fun _ t => tB D (va_A [(h0, .inr (5, [.ref hm, .ref hh, .ref he, .ref ha, .ref hp, .int ph])), (hm, .inr (4, [.int (nI n), .int (mI S), .int (mI Ce), .ref qh, .ref qn])), (qh, .inl (cI, 12, .inl fh)), (qn, .inl (cI, 12, .inl (fun j => mI (N j)))), (hh, .inr (3, [.int tn, .ref qu, .ref qo, .ref qx, .ref qy, .ref qr, .ref qw])), (qu, .inl (cI, 12, .inl fu)), (qw, .inl (cI, 12, .inl fw))] sz) [(h0, .inr (5, [.ref hm, .ref hh, .ref he, .ref ha, .ref hp, .int ph])), (hm, .inr (4, [.int (nI n), .int (mI S), .int (mI Ce), .ref qh, .ref qn])), (qh, .inl (cI, 12, .inl fh)), (qn, .inl (cI, 12, .inl (fun j => mI (N j)))), (hh, .inr (3, [.int tn, .ref qu, .ref qo, .ref qx, .ref qy, .ref qr, .ref qw])), (qu, .inl (cI, 12, .inl (pkU (tuR (msC fw fu (nI p9)) (!decide (fu a = -1) && decide (fu a / 2 = nI p9))) fu a (-1)))), (qw, .inl (cI, 12, .inl fw))] t) (va_A [(h0, .inr (5, [.ref hm, .ref hh, .ref he, .ref ha, .ref hp, .int ph])), (hm, .inr (4, [.int (nI n), .int (mI S), .int (mI Ce), .ref qh, .ref qn])), (qh, .inl (cI, 12, .inl fh)), (qn, .inl (cI, 12, .inl (fun j => mI (N j)))), (hh, .inr (3, [.int tn, .ref qu, .ref qo, .ref qx, .ref qy, .ref qr, .ref qw])), (qu, .inl (cI, 12, .inl fu)), (qw, .inl (cI, 12, .inl fw))] sz)) 0 0 (va_A [(h0, .inr (5, [.ref hm, .ref hh, .ref he, .ref ha, .ref hp, .int ph])), (hm, .inr (4, [.int (nI n), .int (mI S), .int (mI Ce), .ref qh, .ref qn])), (qh, .inl (cI, 12, .inl fh)), (qn, .inl (cI, 12, .inl (fun j => mI (N j)))), (hh, .inr (3, [.int tn, .ref qu, .ref qo, .ref qx, .ref qy, .ref qr, .ref qw])), (qu, .inl (cI, 12, .inl fu)), (qw, .inl (cI, 12, .inl fw))] sz) := by
  refine Met.ofW (cc := b_Sw_takeUnit) (maxL := 3) (ret := (some .int)) (by decide) rfl ?_
  intro p e s m args below meth c s₁ B hml hv
  obtain ⟨rfl, hsz, hP, hK, hD0, hX⟩ := hv
  have hx := B.exec
  have hb := B.bytes
  have hr := B.returns
  have hts0 := atoms_spec (ws := w_Sw_takeUnit) B.pre
  have hts : ∀ w ∈ TB, w.before _ s = true := fun w h => hts0 w (List.mem_cons_of_mem _ h)
  have hown : s.vm.findClass R_Sw = some m.cls := findClass_of_methodNamed B.named
  have hlocks := B.notSynchronized
  subst hsz
  have hXl := tx_lt hX
  have hXn := tx_far hP hX
  have hD := hD0.self (sz := s.heap.size)
  generalize hAe : va_A [(h0, .inr (5, [.ref hm, .ref hh, .ref he, .ref ha, .ref hp, .int ph])), (hm, .inr (4, [.int (nI n), .int (mI S), .int (mI Ce), .ref qh, .ref qn])), (qh, .inl (cI, 12, .inl fh)), (qn, .inl (cI, 12, .inl (fun j => mI (N j)))), (hh, .inr (3, [.int tn, .ref qu, .ref qo, .ref qx, .ref qy, .ref qr, .ref qw])), (qu, .inl (cI, 12, .inl fu)), (qw, .inl (cI, 12, .inl fw))] s.heap.size = A at hD hXn ⊢
  have hA : ∀ q : Nat, s.heap.size ≤ q → A q := fun q h => by rw [← hAe]; exact Or.inr h
  have hS : va_S A s.heap s.heap [] := va_S.rf
  have hXH : s.heap[aT]? = s.heap[aT]? := rfl
  have hl := lv_entry ([.ref h0, .int (nI p9), .int (nI a)]) (n := 3) (Nat.le_of_ble_eq_true rfl)
  rw [lg_entry_eq]
  generalize (lg_sl ([.ref h0, .int (nI p9), .int (nI a)]) ++ List.replicate (3 - (lg_sl ([.ref h0, .int (nI p9), .int (nI a)])).length) Slot.unset).toArray = ls at hl ⊢
  have hl : lv_has ls 3 [(0, .ref h0), (1, .int (nI p9)), (2, .int (nI a))] := hl
  refine lv_aload_n hx hb d_Sw_takeUnit_0 rfl (lv_at hl 0 rfl) ?_
  refine va_get (D := D) (ci := 5) (v := .ref hh) (C := R_Sw) (T := T_Sw) (N := 6) hx hb hts hin_Sw hown hK hP 0 rfl rfl 1 (by decide) (hts _ wd_202) (fun _ h9 => h9) rfl d_Sw_takeUnit_1 ?_
  refine lv_iload_n hx hb d_Sw_takeUnit_4 rfl (lv_at hl 1 rfl) ?_
  have hPc := hP.sub (ws' := [(hh, .inr (3, [.int tn, .ref qu, .ref qo, .ref qx, .ref qy, .ref qr, .ref qw])), (qu, .inl (cI, 12, .inl fu)), (qw, .inl (cI, 12, .inl fw))]) [4, 5, 6] rfl
  refine vp_callSi (va_Run.run (va_runV (As := [.int (nI p9)]) (rest := []) ⟨hx, hb, hml, hown, hts⟩ (c_Sh_missing l D cI cZ cJ cS aT ceT  hh tn qu qo qx qy qr qw fu fw (nI p9) ) (cwV 1 hts (tb_4 wd_638 wd_639 wd_640 wd_3 (tb_c wd_641)) rfl rfl rfl ⟨rfl, by decide, by decide, by decide +kernel⟩ ⟨Nat.le_of_ble_eq_true rfl, Nat.le_of_ble_eq_true rfl⟩) (tP_V hK hX (hS.2.1 aT hXl hXn) hPc (q := 0) rfl rfl) rfl rfl hl.1 rfl (lv_room (Nat.le_of_ble_eq_true rfl)) d_Sw_takeUnit_5 ⟨Nat.le_of_ble_eq_true rfl, Nat.le_of_ble_eq_true rfl⟩)) (fun r1 hr9 => ?_)
  rw [hr9]
  refine tr_top (y := msC fw fu (nI p9)) rfl ?_
  refine lv_if_lt (tgt := 13) hx hb d_Sw_takeUnit_8 (by decide) (fun hc2 => ?_) (fun hc2 => ?_)
  · -- 8 taken
    refine lv_aload_n hx hb d_Sw_takeUnit_13 rfl (lv_at hl 0 rfl) ?_
    refine va_get (D := D) (ci := 5) (v := .ref hh) (C := R_Sw) (T := T_Sw) (N := 6) hx hb hts hin_Sw hown hK hP 0 rfl rfl 1 (by decide) (hts _ wd_202) (fun _ h9 => h9) rfl d_Sw_takeUnit_14 ?_
    refine lv_iload_n hx hb d_Sw_takeUnit_17 rfl (lv_at hl 2 rfl) ?_
    have hPc := hP.sub (ws' := [(hh, .inr (3, [.int tn, .ref qu, .ref qo, .ref qx, .ref qy, .ref qr, .ref qw])), (qu, .inl (cI, 12, .inl fu))]) [4, 5] rfl
    refine vp_callSi (va_Run.run (va_runV (As := [.int (nI a)]) (rest := []) ⟨hx, hb, hml, hown, hts⟩ (c_Sh_hasUnitP l D cI cZ cJ cS aT ceT  hh tn qu qo qx qy qr qw fu a h_a) (cwV 1 hts (tb_4 wd_286 wd_287 wd_288 wd_3 (tb_c wd_289)) rfl rfl rfl ⟨rfl, by decide, by decide, by decide +kernel⟩ ⟨Nat.le_of_ble_eq_true rfl, Nat.le_of_ble_eq_true rfl⟩) (tP_V hK hX (hS.2.1 aT hXl hXn) hPc (q := 0) rfl rfl) rfl rfl hl.1 rfl (lv_room (Nat.le_of_ble_eq_true rfl)) d_Sw_takeUnit_18 ⟨Nat.le_of_ble_eq_true rfl, Nat.le_of_ble_eq_true rfl⟩)) (fun r3 hr9 => ?_)
    rw [hr9]
    rcases bI_c (!decide (fu a = -1)) with ⟨hb5, e9⟩ | ⟨hb5, e9⟩
    · refine tr_top e9 ?_
      refine lv_if_eq (tgt := 36) hx hb d_Sw_takeUnit_21 (by decide) (fun h0 => absurd h0 (by decide)) (fun _ => ?_)
      refine lv_aload_n hx hb d_Sw_takeUnit_24 rfl (lv_at hl 0 rfl) ?_
      refine va_get (D := D) (ci := 5) (v := .ref hh) (C := R_Sw) (T := T_Sw) (N := 6) hx hb hts hin_Sw hown hK hP 0 rfl rfl 1 (by decide) (hts _ wd_202) (fun _ h9 => h9) rfl d_Sw_takeUnit_25 ?_
      refine lv_iload_n hx hb d_Sw_takeUnit_28 rfl (lv_at hl 2 rfl) ?_
      have hPc := hP.sub (ws' := [(hh, .inr (3, [.int tn, .ref qu, .ref qo, .ref qx, .ref qy, .ref qr, .ref qw])), (qu, .inl (cI, 12, .inl fu))]) [4, 5] rfl
      refine vp_callSi (va_Run.run (va_runV (As := [.int (nI a)]) (rest := []) ⟨hx, hb, hml, hown, hts⟩ (c_Sh_playerAtP l D cI cZ cJ cS aT ceT  hh tn qu qo qx qy qr qw fu a h_a) (cwV 1 hts (tb_4 wd_465 wd_312 wd_313 wd_3 (tb_c wd_314)) rfl rfl rfl ⟨rfl, by decide, by decide, by decide +kernel⟩ ⟨Nat.le_of_ble_eq_true rfl, Nat.le_of_ble_eq_true rfl⟩) (tP_V hK hX (hS.2.1 aT hXl hXn) hPc (q := 0) rfl rfl) rfl rfl hl.1 rfl (lv_room (Nat.le_of_ble_eq_true rfl)) d_Sw_takeUnit_29 ⟨Nat.le_of_ble_eq_true rfl, Nat.le_of_ble_eq_true rfl⟩)) (fun r7 hr9 => ?_)
      rw [hr9]
      refine lv_iload_n hx hb d_Sw_takeUnit_32 rfl (lv_at hl 1 rfl) ?_
      refine lv_icmp_eq (tgt := 38) hx hb d_Sw_takeUnit_33 (by decide) (fun hc8 => ?_) (fun hc8 => ?_)
      · -- 33 taken
        refine lv_aload_n hx hb d_Sw_takeUnit_38 rfl (lv_at hl 0 rfl) ?_
        refine va_get (D := D) (ci := 5) (v := .ref hh) (C := R_Sw) (T := T_Sw) (N := 6) hx hb hts hin_Sw hown hK hP 0 rfl rfl 1 (by decide) (hts _ wd_202) (fun _ h9 => h9) rfl d_Sw_takeUnit_39 ?_
        refine va_get (D := D) (ci := 3) (v := .ref qu) (C := R_Sh) (T := T_Sh) (N := 7) hx hb hts hin_Sh hown hK hP 4 rfl rfl 1 (by decide) (hts _ wd_65) (fun _ h9 => h9) rfl d_Sw_takeUnit_42 ?_
        refine lv_iload_n hx hb d_Sw_takeUnit_45 rfl (lv_at hl 2 rfl) ?_
        refine lv_iconst (v := (-1)) hx hb d_Sw_takeUnit_46 (by decide) ?_
        refine tr_iast (g := upd fu a (-1)) hx hb hK hP hD hS 5 0 rfl rfl a h_a (by decide) rfl d_Sw_takeUnit_47 (fun H locs hP hD hS => ?_)
        have hP : va_P D vwCl [(h0, .inr (5, [.ref hm, .ref hh, .ref he, .ref ha, .ref hp, .int ph])), (hm, .inr (4, [.int (nI n), .int (mI S), .int (mI Ce), .ref qh, .ref qn])), (qh, .inl (cI, 12, .inl fh)), (qn, .inl (cI, 12, .inl (fun j => mI (N j)))), (hh, .inr (3, [.int tn, .ref qu, .ref qo, .ref qx, .ref qy, .ref qr, .ref qw])), (qu, .inl (cI, 12, .inl (upd fu a (-1)))), (qw, .inl (cI, 12, .inl fw))] H := hP
        have hD : va_D A [(h0, .inr (5, [.ref hm, .ref hh, .ref he, .ref ha, .ref hp, .int ph])), (hm, .inr (4, [.int (nI n), .int (mI S), .int (mI Ce), .ref qh, .ref qn])), (qh, .inl (cI, 12, .inl fh)), (qn, .inl (cI, 12, .inl (fun j => mI (N j)))), (hh, .inr (3, [.int tn, .ref qu, .ref qo, .ref qx, .ref qy, .ref qr, .ref qw])), (qu, .inl (cI, 12, .inl (upd fu a (-1)))), (qw, .inl (cI, 12, .inl fw))] := hD
        refine lv_iconst (v := 0) hx hb d_Sw_takeUnit_48 (by decide) ?_
        have hP9 := hP.sub (ws' := [(h0, .inr (5, [.ref hm, .ref hh, .ref he, .ref ha, .ref hp, .int ph])), (hm, .inr (4, [.int (nI n), .int (mI S), .int (mI Ce), .ref qh, .ref qn])), (qh, .inl (cI, 12, .inl fh)), (qn, .inl (cI, 12, .inl (fun j => mI (N j)))), (hh, .inr (3, [.int tn, .ref qu, .ref qo, .ref qx, .ref qy, .ref qr, .ref qw])), (qu, .inl (cI, 12, .inl (upd fu a (-1)))), (qw, .inl (cI, 12, .inl fw))]) [0, 1, 2, 3, 4, 5, 6] rfl
        have hD9 := hD.sub (ws' := [(h0, .inr (5, [.ref hm, .ref hh, .ref he, .ref ha, .ref hp, .int ph])), (hm, .inr (4, [.int (nI n), .int (mI S), .int (mI Ce), .ref qh, .ref qn])), (qh, .inl (cI, 12, .inl fh)), (qn, .inl (cI, 12, .inl (fun j => mI (N j)))), (hh, .inr (3, [.int tn, .ref qu, .ref qo, .ref qx, .ref qy, .ref qr, .ref qw])), (qu, .inl (cI, 12, .inl (upd fu a (-1)))), (qw, .inl (cI, 12, .inl fw))]) [0, 1, 2, 3, 4, 5, 6] (by decide) rfl
        have ej : tuR (msC fw fu (nI p9)) (!decide (fu a = -1) && decide (fu a / 2 = nI p9)) = 0 := by simp only [tuR, hc2, hb5, hc8] <;> simp [hc2, hb5, hc8]
        have hP9 : va_P D vwCl [(h0, .inr (5, [.ref hm, .ref hh, .ref he, .ref ha, .ref hp, .int ph])), (hm, .inr (4, [.int (nI n), .int (mI S), .int (mI Ce), .ref qh, .ref qn])), (qh, .inl (cI, 12, .inl fh)), (qn, .inl (cI, 12, .inl (fun j => mI (N j)))), (hh, .inr (3, [.int tn, .ref qu, .ref qo, .ref qx, .ref qy, .ref qr, .ref qw])), (qu, .inl (cI, 12, .inl (pkU (tuR (msC fw fu (nI p9)) (!decide (fu a = -1) && decide (fu a / 2 = nI p9))) fu a (-1)))), (qw, .inl (cI, 12, .inl fw))] H := by rw [ej]; exact hP9
        have hD9 : va_D A [(h0, .inr (5, [.ref hm, .ref hh, .ref he, .ref ha, .ref hp, .int ph])), (hm, .inr (4, [.int (nI n), .int (mI S), .int (mI Ce), .ref qh, .ref qn])), (qh, .inl (cI, 12, .inl fh)), (qn, .inl (cI, 12, .inl (fun j => mI (N j)))), (hh, .inr (3, [.int tn, .ref qu, .ref qo, .ref qx, .ref qy, .ref qr, .ref qw])), (qu, .inl (cI, 12, .inl (pkU (tuR (msC fw fu (nI p9)) (!decide (fu a = -1) && decide (fu a / 2 = nI p9))) fu a (-1)))), (qw, .inl (cI, 12, .inl fw))] := by rw [ej]; exact hD9
        exact W.iret (v := 0) hx hb hr (fun t ht hW => ⟨⟨0, (), rfl, by rw [ej]; rfl, by rw [ht]; exact hP9, hD9⟩, hS.F ht⟩) hS.2.2 d_Sw_takeUnit_49
      · -- 33 not taken
        refine lv_iconst (v := 2) hx hb d_Sw_takeUnit_36 (by decide) ?_
        have hP9 := hP.sub (ws' := [(h0, .inr (5, [.ref hm, .ref hh, .ref he, .ref ha, .ref hp, .int ph])), (hm, .inr (4, [.int (nI n), .int (mI S), .int (mI Ce), .ref qh, .ref qn])), (qh, .inl (cI, 12, .inl fh)), (qn, .inl (cI, 12, .inl (fun j => mI (N j)))), (hh, .inr (3, [.int tn, .ref qu, .ref qo, .ref qx, .ref qy, .ref qr, .ref qw])), (qu, .inl (cI, 12, .inl fu)), (qw, .inl (cI, 12, .inl fw))]) [0, 1, 2, 3, 4, 5, 6] rfl
        have hD9 := hD.sub (ws' := [(h0, .inr (5, [.ref hm, .ref hh, .ref he, .ref ha, .ref hp, .int ph])), (hm, .inr (4, [.int (nI n), .int (mI S), .int (mI Ce), .ref qh, .ref qn])), (qh, .inl (cI, 12, .inl fh)), (qn, .inl (cI, 12, .inl (fun j => mI (N j)))), (hh, .inr (3, [.int tn, .ref qu, .ref qo, .ref qx, .ref qy, .ref qr, .ref qw])), (qu, .inl (cI, 12, .inl fu)), (qw, .inl (cI, 12, .inl fw))]) [0, 1, 2, 3, 4, 5, 6] (by decide) rfl
        have ej : tuR (msC fw fu (nI p9)) (!decide (fu a = -1) && decide (fu a / 2 = nI p9)) = 2 := by simp only [tuR, hc2, hb5, hc8] <;> simp [hc2, hb5, hc8]
        have hP9 : va_P D vwCl [(h0, .inr (5, [.ref hm, .ref hh, .ref he, .ref ha, .ref hp, .int ph])), (hm, .inr (4, [.int (nI n), .int (mI S), .int (mI Ce), .ref qh, .ref qn])), (qh, .inl (cI, 12, .inl fh)), (qn, .inl (cI, 12, .inl (fun j => mI (N j)))), (hh, .inr (3, [.int tn, .ref qu, .ref qo, .ref qx, .ref qy, .ref qr, .ref qw])), (qu, .inl (cI, 12, .inl (pkU (tuR (msC fw fu (nI p9)) (!decide (fu a = -1) && decide (fu a / 2 = nI p9))) fu a (-1)))), (qw, .inl (cI, 12, .inl fw))] s.heap := by rw [ej]; exact hP9
        have hD9 : va_D A [(h0, .inr (5, [.ref hm, .ref hh, .ref he, .ref ha, .ref hp, .int ph])), (hm, .inr (4, [.int (nI n), .int (mI S), .int (mI Ce), .ref qh, .ref qn])), (qh, .inl (cI, 12, .inl fh)), (qn, .inl (cI, 12, .inl (fun j => mI (N j)))), (hh, .inr (3, [.int tn, .ref qu, .ref qo, .ref qx, .ref qy, .ref qr, .ref qw])), (qu, .inl (cI, 12, .inl (pkU (tuR (msC fw fu (nI p9)) (!decide (fu a = -1) && decide (fu a / 2 = nI p9))) fu a (-1)))), (qw, .inl (cI, 12, .inl fw))] := by rw [ej]; exact hD9
        exact W.iret (v := 2) hx hb hr (fun t ht hW => ⟨⟨2, (), rfl, by rw [ej]; rfl, by rw [ht]; exact hP9, hD9⟩, hS.F ht⟩) hS.2.2 d_Sw_takeUnit_37
    · refine tr_top e9 ?_
      refine lv_if_eq (tgt := 36) hx hb d_Sw_takeUnit_21 (by decide) (fun _ => ?_) (fun h0 => absurd (by decide) h0)
      refine lv_iconst (v := 2) hx hb d_Sw_takeUnit_36 (by decide) ?_
      have hP9 := hP.sub (ws' := [(h0, .inr (5, [.ref hm, .ref hh, .ref he, .ref ha, .ref hp, .int ph])), (hm, .inr (4, [.int (nI n), .int (mI S), .int (mI Ce), .ref qh, .ref qn])), (qh, .inl (cI, 12, .inl fh)), (qn, .inl (cI, 12, .inl (fun j => mI (N j)))), (hh, .inr (3, [.int tn, .ref qu, .ref qo, .ref qx, .ref qy, .ref qr, .ref qw])), (qu, .inl (cI, 12, .inl fu)), (qw, .inl (cI, 12, .inl fw))]) [0, 1, 2, 3, 4, 5, 6] rfl
      have hD9 := hD.sub (ws' := [(h0, .inr (5, [.ref hm, .ref hh, .ref he, .ref ha, .ref hp, .int ph])), (hm, .inr (4, [.int (nI n), .int (mI S), .int (mI Ce), .ref qh, .ref qn])), (qh, .inl (cI, 12, .inl fh)), (qn, .inl (cI, 12, .inl (fun j => mI (N j)))), (hh, .inr (3, [.int tn, .ref qu, .ref qo, .ref qx, .ref qy, .ref qr, .ref qw])), (qu, .inl (cI, 12, .inl fu)), (qw, .inl (cI, 12, .inl fw))]) [0, 1, 2, 3, 4, 5, 6] (by decide) rfl
      have ej : tuR (msC fw fu (nI p9)) (!decide (fu a = -1) && decide (fu a / 2 = nI p9)) = 2 := by simp only [tuR, hc2, hb5] <;> simp [hc2, hb5]
      have hP9 : va_P D vwCl [(h0, .inr (5, [.ref hm, .ref hh, .ref he, .ref ha, .ref hp, .int ph])), (hm, .inr (4, [.int (nI n), .int (mI S), .int (mI Ce), .ref qh, .ref qn])), (qh, .inl (cI, 12, .inl fh)), (qn, .inl (cI, 12, .inl (fun j => mI (N j)))), (hh, .inr (3, [.int tn, .ref qu, .ref qo, .ref qx, .ref qy, .ref qr, .ref qw])), (qu, .inl (cI, 12, .inl (pkU (tuR (msC fw fu (nI p9)) (!decide (fu a = -1) && decide (fu a / 2 = nI p9))) fu a (-1)))), (qw, .inl (cI, 12, .inl fw))] s.heap := by rw [ej]; exact hP9
      have hD9 : va_D A [(h0, .inr (5, [.ref hm, .ref hh, .ref he, .ref ha, .ref hp, .int ph])), (hm, .inr (4, [.int (nI n), .int (mI S), .int (mI Ce), .ref qh, .ref qn])), (qh, .inl (cI, 12, .inl fh)), (qn, .inl (cI, 12, .inl (fun j => mI (N j)))), (hh, .inr (3, [.int tn, .ref qu, .ref qo, .ref qx, .ref qy, .ref qr, .ref qw])), (qu, .inl (cI, 12, .inl (pkU (tuR (msC fw fu (nI p9)) (!decide (fu a = -1) && decide (fu a / 2 = nI p9))) fu a (-1)))), (qw, .inl (cI, 12, .inl fw))] := by rw [ej]; exact hD9
      exact W.iret (v := 2) hx hb hr (fun t ht hW => ⟨⟨2, (), rfl, by rw [ej]; rfl, by rw [ht]; exact hP9, hD9⟩, hS.F ht⟩) hS.2.2 d_Sw_takeUnit_37
  · -- 8 not taken
    refine lv_iconst (v := 1) hx hb d_Sw_takeUnit_11 (by decide) ?_
    have hP9 := hP.sub (ws' := [(h0, .inr (5, [.ref hm, .ref hh, .ref he, .ref ha, .ref hp, .int ph])), (hm, .inr (4, [.int (nI n), .int (mI S), .int (mI Ce), .ref qh, .ref qn])), (qh, .inl (cI, 12, .inl fh)), (qn, .inl (cI, 12, .inl (fun j => mI (N j)))), (hh, .inr (3, [.int tn, .ref qu, .ref qo, .ref qx, .ref qy, .ref qr, .ref qw])), (qu, .inl (cI, 12, .inl fu)), (qw, .inl (cI, 12, .inl fw))]) [0, 1, 2, 3, 4, 5, 6] rfl
    have hD9 := hD.sub (ws' := [(h0, .inr (5, [.ref hm, .ref hh, .ref he, .ref ha, .ref hp, .int ph])), (hm, .inr (4, [.int (nI n), .int (mI S), .int (mI Ce), .ref qh, .ref qn])), (qh, .inl (cI, 12, .inl fh)), (qn, .inl (cI, 12, .inl (fun j => mI (N j)))), (hh, .inr (3, [.int tn, .ref qu, .ref qo, .ref qx, .ref qy, .ref qr, .ref qw])), (qu, .inl (cI, 12, .inl fu)), (qw, .inl (cI, 12, .inl fw))]) [0, 1, 2, 3, 4, 5, 6] (by decide) rfl
    have ej : tuR (msC fw fu (nI p9)) (!decide (fu a = -1) && decide (fu a / 2 = nI p9)) = 1 := by simp only [tuR, hc2] <;> simp [hc2]
    have hP9 : va_P D vwCl [(h0, .inr (5, [.ref hm, .ref hh, .ref he, .ref ha, .ref hp, .int ph])), (hm, .inr (4, [.int (nI n), .int (mI S), .int (mI Ce), .ref qh, .ref qn])), (qh, .inl (cI, 12, .inl fh)), (qn, .inl (cI, 12, .inl (fun j => mI (N j)))), (hh, .inr (3, [.int tn, .ref qu, .ref qo, .ref qx, .ref qy, .ref qr, .ref qw])), (qu, .inl (cI, 12, .inl (pkU (tuR (msC fw fu (nI p9)) (!decide (fu a = -1) && decide (fu a / 2 = nI p9))) fu a (-1)))), (qw, .inl (cI, 12, .inl fw))] s.heap := by rw [ej]; exact hP9
    have hD9 : va_D A [(h0, .inr (5, [.ref hm, .ref hh, .ref he, .ref ha, .ref hp, .int ph])), (hm, .inr (4, [.int (nI n), .int (mI S), .int (mI Ce), .ref qh, .ref qn])), (qh, .inl (cI, 12, .inl fh)), (qn, .inl (cI, 12, .inl (fun j => mI (N j)))), (hh, .inr (3, [.int tn, .ref qu, .ref qo, .ref qx, .ref qy, .ref qr, .ref qw])), (qu, .inl (cI, 12, .inl (pkU (tuR (msC fw fu (nI p9)) (!decide (fu a = -1) && decide (fu a / 2 = nI p9))) fu a (-1)))), (qw, .inl (cI, 12, .inl fw))] := by rw [ej]; exact hD9
    exact W.iret (v := 1) hx hb hr (fun t ht hW => ⟨⟨1, (), rfl, by rw [ej]; rfl, by rw [ht]; exact hP9, hD9⟩, hS.F ht⟩) hS.2.2 d_Sw_takeUnit_12
