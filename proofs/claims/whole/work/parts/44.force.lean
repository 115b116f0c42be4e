/-- a unit of the class's sheet: player and kind, or none -/
def unI (b : Bool) (p k : Nat) : Int32 := if b then nI (2 * p + k) else -1
def pOf (Hu : Nat → Bool) (P : Nat → Nat) (a : Nat) : Nat := if Hu a then P a else 0
theorem pOf_lt {Hu : Nat → Bool} {P : Nat → Nat} (h : ∀ j, P j < 4) (a : Nat) : pOf Hu P a < 4 := by
  unfold pOf
  split
  · exact h a
  · decide
theorem unI_t8 : ∀ p, p < 4 → ∀ k, k < 2 → nI (2 * p + k) / 2 = nI p ∧ nI (2 * p + k) - nI (2 * p + k) / 2 * 2 = nI k ∧ ¬ nI (2 * p + k) = -1 := by decide +kernel
theorem unI_p (b : Bool) {p k : Nat} (hp : p < 4) (hk : k < 2) : unI b p k / 2 = nI (if b then p else 0) := by
  cases b
  · show (-1 : Int32) / 2 = nI 0
    decide
  · exact (unI_t8 p hp k hk).1
theorem unI_k {b : Bool} {p k : Nat} (hp : p < 4) (hk : k < 2) (hb : b = true) : unI b p k - unI b p k / 2 * 2 = nI k := by
  subst hb; exact (unI_t8 p hp k hk).2.1
theorem unI_y {b : Bool} {p k : Nat} (h : ¬ unI b p k = -1) : b = true := by
  cases b
  · exact absurd rfl h
  · rfl
theorem unI_n {b : Bool} {p k : Nat} (hp : p < 4) (hk : k < 2) (h : unI b p k = -1) : b = false := by
  cases b
  · rfl
  · exact absurd h (unI_t8 p hp k hk).2.2
def frcC (Bk : Nat → Nat → Bool) (Su Op L : Nat → Bool) (ms : Bool) (a : Nat) : Nat := 1 + numB (fun j => Bk a j && (Su j || (ms && Op j)) && !L j) 12
theorem frcC_lt (Bk : Nat → Nat → Bool) (Su Op L : Nat → Bool) (ms : Bool) (a : Nat) : frcC Bk Su Op L ms a < 14 := by
  have := numB_le (fun j => Bk a j && (Su j || (ms && Op j)) && !L j) 12
  unfold frcC; omega
def prvC (Bk : Nat → Nat → Bool) (Su Op Sp Oq Ho : Nat → Bool) (X : Nat → Nat) (ms : Bool) (a : Nat) : Nat :=
  if (Sp a || (ms && Oq a)) = false then 0 else if (Ho a && (Su (X a) || (!ms && Op (X a)))) = true then 0 else frcC Bk Su Op (fun _ => false) ms a
def dfcC (Bk : Nat → Nat → Bool) (Su Op St Mv : Nat → Bool) (ms : Bool) (a : Nat) : Nat :=
  if St a = false then 0 else if Mv a = true then (if (Su a || (!ms && Op a)) = true then 0 else 1) else frcC Bk Su Op (fun _ => false) ms a
def atkC (Bk U : Nat → Nat → Bool) (Su Op Sp Oq St Mv Ho Hu : Nat → Bool) (X P : Nat → Nat) (ms : Bool) (a : Nat) : Nat :=
  if (Sp a || (ms && Oq a)) = false then 0 else
  if (!St (X a) || (Mv (X a) && (Su (X a) || (ms && Op (X a))) && !Ho a)) = true then frcC Bk Su Op (fun _ => false) ms a else
  if pOf Hu P (X a) = pOf Hu P a then 0 else frcC Bk Su Op (U (pOf Hu P (X a))) ms a
theorem prvC_lt (Bk : Nat → Nat → Bool) (Su Op Sp Oq Ho : Nat → Bool) (X : Nat → Nat) (ms : Bool) (a : Nat) : prvC Bk Su Op Sp Oq Ho X ms a < 14 := by
  unfold prvC
  split
  · decide
  · split
    · decide
    · exact frcC_lt ..
theorem dfcC_lt (Bk : Nat → Nat → Bool) (Su Op St Mv : Nat → Bool) (ms : Bool) (a : Nat) : dfcC Bk Su Op St Mv ms a < 14 := by
  unfold dfcC
  split
  · decide
  · split
    · split <;> decide
    · exact frcC_lt ..
theorem atkC_lt (Bk U : Nat → Nat → Bool) (Su Op Sp Oq St Mv Ho Hu : Nat → Bool) (X P : Nat → Nat) (ms : Bool) (a : Nat) : atkC Bk U Su Op Sp Oq St Mv Ho Hu X P ms a < 14 := by
  unfold atkC
  split
  · decide
  · split
    · exact frcC_lt ..
    · split
      · decide
      · exact frcC_lt ..


set_option maxHeartbeats 4000000 in
set_option maxRecDepth 100000 in
theorem c_Sh_hasUnitN (l : Launch) (D : va_G) (cI cZ cJ cS : ClassId) (aT : Nat) (ceT : Cell) (h0 : Nat) (tn : Int32) (qu qo qx qy qr qw : Nat) (Hu : Nat → Bool) (P Kd : Nat → Nat) (a : Nat) (hP4 : ∀ j, P j < 4) (hK2 : ∀ j, Kd j < 2) (h_a : a < 12) : Met l y_Sh_hasUnit w_Sh_hasUnit ({ frames := 0, cells := 0, slots := 0, locals := 0 }) (tP D cI cZ cJ cS aT ceT [.ref h0, .int (nI a)] [(h0, .inr (3, [.int tn, .ref qu, .ref qo, .ref qx, .ref qy, .ref qr, .ref qw])), (qu, .inl (cI, 12, .inl (fun j => unI (Hu j) (P j) (Kd j))))]) (vp_Si (fun r => r = bI (Hu a))) 0 0 (fun _ => False) := by
  refine Met.ofW (cc := b_Sh_hasUnit) (maxL := 2) (ret := (some .boolean)) (by decide) rfl ?_
  intro p e s m args below meth c s₁ B hml hv
  obtain ⟨rfl, hP, hK, hX⟩ := hv
  have hx := B.exec
  have hb := B.bytes
  have hr := B.returns
  have hts0 := atoms_spec (ws := w_Sh_hasUnit) B.pre
  have hts : ∀ w ∈ TB, w.before _ s = true := fun w h => hts0 w (List.mem_cons_of_mem _ h)
  have hown : s.vm.findClass R_Sh = some m.cls := findClass_of_methodNamed B.named
  have hlocks := B.notSynchronized
  have hXH : s.heap[aT]? = s.heap[aT]? := rfl
  have hl := lv_entry ([.ref h0, .int (nI a)]) (n := 2) (Nat.le_of_ble_eq_true rfl)
  rw [lg_entry_eq]
  generalize (lg_sl ([.ref h0, .int (nI a)]) ++ List.replicate (2 - (lg_sl ([.ref h0, .int (nI a)])).length) Slot.unset).toArray = ls at hl ⊢
  have hl : lv_has ls 2 [(0, .ref h0), (1, .int (nI a))] := hl
  refine lv_aload_n hx hb d_Sh_hasUnit_0 rfl (lv_at hl 0 rfl) ?_
  refine va_get (D := D) (ci := 3) (v := .ref qu) (C := R_Sh) (T := T_Sh) (N := 7) hx hb hts hin_Sh hown hK hP 0 rfl rfl 1 (by decide) (hts _ wd_64) (fun _ h9 => h9) rfl d_Sh_hasUnit_1 ?_
  refine lv_iload_n hx hb d_Sh_hasUnit_4 rfl (lv_at hl 1 rfl) ?_
  refine tr_iald (v := unI (Hu a) (P a) (Kd a)) hx hb hK hP 1 0 rfl rfl a h_a (by decide) rfl d_Sh_hasUnit_5 ?_
  refine lv_iconst (v := (-1)) hx hb d_Sh_hasUnit_6 (by decide) ?_
  refine lv_icmp_eq (tgt := 14) hx hb d_Sh_hasUnit_7 (by decide) (fun hc1 => ?_) (fun hc1 => ?_)
  · -- 7 taken
    refine lv_iconst (v := 0) hx hb d_Sh_hasUnit_14 (by decide) ?_
    exact W.zret (v := 0) hx hb hr (by decide) (fun t ht hW => ⟨0, rfl, (bI_f (unI_n (hP4 a) (hK2 a) hc1)).symm, ht⟩) (fun q hq => by cases hq) d_Sh_hasUnit_15
  · -- 7 not taken
    refine lv_iconst (v := 1) hx hb d_Sh_hasUnit_10 (by decide) ?_
    refine lv_goto (tgt := 15) hx hb d_Sh_hasUnit_11 (by decide) ?_
    exact W.zret (v := 1) hx hb hr (by decide) (fun t ht hW => ⟨1, rfl, (bI_t (unI_y hc1)).symm, ht⟩) (fun q hq => by cases hq) d_Sh_hasUnit_15


set_option maxHeartbeats 4000000 in
set_option maxRecDepth 100000 in
theorem c_Sh_playerAtN (l : Launch) (D : va_G) (cI cZ cJ cS : ClassId) (aT : Nat) (ceT : Cell) (h0 : Nat) (tn : Int32) (qu qo qx qy qr qw : Nat) (Hu : Nat → Bool) (P Kd : Nat → Nat) (a : Nat) (hP4 : ∀ j, P j < 4) (hK2 : ∀ j, Kd j < 2) (h_a : a < 12) : Met l y_Sh_playerAt w_Sh_playerAt ({ frames := 0, cells := 0, slots := 0, locals := 0 }) (tP D cI cZ cJ cS aT ceT [.ref h0, .int (nI a)] [(h0, .inr (3, [.int tn, .ref qu, .ref qo, .ref qx, .ref qy, .ref qr, .ref qw])), (qu, .inl (cI, 12, .inl (fun j => unI (Hu j) (P j) (Kd j))))]) (vp_Si (fun r => r = nI (pOf Hu P a))) 0 0 (fun _ => False) := by
  refine Met.ofW (cc := b_Sh_playerAt) (maxL := 2) (ret := (some .int)) (by decide) rfl ?_
  intro p e s m args below meth c s₁ B hml hv
  obtain ⟨rfl, hP, hK, hX⟩ := hv
  have hx := B.exec
  have hb := B.bytes
  have hr := B.returns
  have hts0 := atoms_spec (ws := w_Sh_playerAt) B.pre
  have hts : ∀ w ∈ TB, w.before _ s = true := fun w h => hts0 w (List.mem_cons_of_mem _ h)
  have hown : s.vm.findClass R_Sh = some m.cls := findClass_of_methodNamed B.named
  have hlocks := B.notSynchronized
  have hXH : s.heap[aT]? = s.heap[aT]? := rfl
  have hl := lv_entry ([.ref h0, .int (nI a)]) (n := 2) (Nat.le_of_ble_eq_true rfl)
  rw [lg_entry_eq]
  generalize (lg_sl ([.ref h0, .int (nI a)]) ++ List.replicate (2 - (lg_sl ([.ref h0, .int (nI a)])).length) Slot.unset).toArray = ls at hl ⊢
  have hl : lv_has ls 2 [(0, .ref h0), (1, .int (nI a))] := hl
  refine lv_aload_n hx hb d_Sh_playerAt_0 rfl (lv_at hl 0 rfl) ?_
  refine va_get (D := D) (ci := 3) (v := .ref qu) (C := R_Sh) (T := T_Sh) (N := 7) hx hb hts hin_Sh hown hK hP 0 rfl rfl 1 (by decide) (hts _ wd_64) (fun _ h9 => h9) rfl d_Sh_playerAt_1 ?_
  refine lv_iload_n hx hb d_Sh_playerAt_4 rfl (lv_at hl 1 rfl) ?_
  refine tr_iald (v := unI (Hu a) (P a) (Kd a)) hx hb hK hP 1 0 rfl rfl a h_a (by decide) rfl d_Sh_playerAt_5 ?_
  refine lv_iconst (v := 2) hx hb d_Sh_playerAt_6 (by decide) ?_
  refine lv_idiv hx hb d_Sh_playerAt_7 (by decide) ?_
  exact W.iret (v := (unI (Hu a) (P a) (Kd a)) / 2) hx hb hr (fun t ht hW => ⟨(unI (Hu a) (P a) (Kd a)) / 2, rfl, unI_p (Hu a) (hP4 a) (hK2 a), ht⟩) (fun q hq => by cases hq) d_Sh_playerAt_8

theorem d_Sh_kindAt_0 : decode b_Sh_kindAt 0 = .ok (.aload_n 0, 1) := by decide +kernel
theorem d_Sh_kindAt_1 : decode b_Sh_kindAt 1 = .ok (.getfield 9, 3) := by decide +kernel
theorem d_Sh_kindAt_4 : decode b_Sh_kindAt 4 = .ok (.iload_n 1, 1) := by decide +kernel
theorem d_Sh_kindAt_5 : decode b_Sh_kindAt 5 = .ok (.iaload, 1) := by decide +kernel
theorem d_Sh_kindAt_6 : decode b_Sh_kindAt 6 = .ok (.iconst 2, 1) := by decide +kernel
theorem d_Sh_kindAt_7 : decode b_Sh_kindAt 7 = .ok (.irem, 1) := by decide +kernel
theorem d_Sh_kindAt_8 : decode b_Sh_kindAt 8 = .ok (.ireturn, 1) := by decide +kernel

set_option maxHeartbeats 4000000 in
set_option maxRecDepth 100000 in
theorem c_Sh_kindAtN (l : Launch) (D : va_G) (cI cZ cJ cS : ClassId) (aT : Nat) (ceT : Cell) (h0 : Nat) (tn : Int32) (qu qo qx qy qr qw : Nat) (Hu : Nat → Bool) (P Kd : Nat → Nat) (a : Nat) (hP4 : ∀ j, P j < 4) (hK2 : ∀ j, Kd j < 2) (h_a : a < 12) (h_u : Hu a = true) : Met l y_Sh_kindAt w_Sh_kindAt ({ frames := 0, cells := 0, slots := 0, locals := 0 }) (tP D cI cZ cJ cS aT ceT [.ref h0, .int (nI a)] [(h0, .inr (3, [.int tn, .ref qu, .ref qo, .ref qx, .ref qy, .ref qr, .ref qw])), (qu, .inl (cI, 12, .inl (fun j => unI (Hu j) (P j) (Kd j))))]) (vp_Si (fun r => r = nI (Kd a))) 0 0 (fun _ => False) := by
  refine Met.ofW (cc := b_Sh_kindAt) (maxL := 2) (ret := (some .int)) (by decide) rfl ?_
  intro p e s m args below meth c s₁ B hml hv
  obtain ⟨rfl, hP, hK, hX⟩ := hv
  have hx := B.exec
  have hb := B.bytes
  have hr := B.returns
  have hts0 := atoms_spec (ws := w_Sh_kindAt) B.pre
  have hts : ∀ w ∈ TB, w.before _ s = true := fun w h => hts0 w (List.mem_cons_of_mem _ h)
  have hown : s.vm.findClass R_Sh = some m.cls := findClass_of_methodNamed B.named
  have hlocks := B.notSynchronized
  have hXH : s.heap[aT]? = s.heap[aT]? := rfl
  have hl := lv_entry ([.ref h0, .int (nI a)]) (n := 2) (Nat.le_of_ble_eq_true rfl)
  rw [lg_entry_eq]
  generalize (lg_sl ([.ref h0, .int (nI a)]) ++ List.replicate (2 - (lg_sl ([.ref h0, .int (nI a)])).length) Slot.unset).toArray = ls at hl ⊢
  have hl : lv_has ls 2 [(0, .ref h0), (1, .int (nI a))] := hl
  refine lv_aload_n hx hb d_Sh_kindAt_0 rfl (lv_at hl 0 rfl) ?_
  refine va_get (D := D) (ci := 3) (v := .ref qu) (C := R_Sh) (T := T_Sh) (N := 7) hx hb hts hin_Sh hown hK hP 0 rfl rfl 1 (by decide) (hts _ wd_64) (fun _ h9 => h9) rfl d_Sh_kindAt_1 ?_
  refine lv_iload_n hx hb d_Sh_kindAt_4 rfl (lv_at hl 1 rfl) ?_
  refine tr_iald (v := unI (Hu a) (P a) (Kd a)) hx hb hK hP 1 0 rfl rfl a h_a (by decide) rfl d_Sh_kindAt_5 ?_
  refine lv_iconst (v := 2) hx hb d_Sh_kindAt_6 (by decide) ?_
  refine lv_irem hx hb d_Sh_kindAt_7 (by decide) ?_
  exact W.iret (v := (unI (Hu a) (P a) (Kd a)) - (unI (Hu a) (P a) (Kd a)) / 2 * 2) hx hb hr (fun t ht hW => ⟨(unI (Hu a) (P a) (Kd a)) - (unI (Hu a) (P a) (Kd a)) / 2 * 2, rfl, unI_k (hP4 a) (hK2 a) h_u, ht⟩) (fun q hq => by cases hq) d_Sh_kindAt_8

theorem d_Se_force_0 : decode b_Se_force 0 = .ok (.iload_n 3, 1) := by decide +kernel
theorem d_Se_force_1 : decode b_Se_force 1 = .ok (.ifCond .eq 15, 3) := by decide +kernel
theorem d_Se_force_4 : decode b_Se_force 4 = .ok (.aload_n 0, 1) := by decide +kernel
theorem d_Se_force_5 : decode b_Se_force 5 = .ok (.getfield 63, 3) := by decide +kernel
theorem d_Se_force_8 : decode b_Se_force 8 = .ok (.aload_n 0, 1) := by decide +kernel
theorem d_Se_force_9 : decode b_Se_force 9 = .ok (.getfield 53, 3) := by decide +kernel
theorem d_Se_force_12 : decode b_Se_force 12 = .ok (.ior, 1) := by decide +kernel
theorem d_Se_force_13 : decode b_Se_force 13 = .ok (.goto 7, 3) := by decide +kernel
theorem d_Se_force_16 : decode b_Se_force 16 = .ok (.aload_n 0, 1) := by decide +kernel
theorem d_Se_force_17 : decode b_Se_force 17 = .ok (.getfield 63, 3) := by decide +kernel
theorem d_Se_force_20 : decode b_Se_force 20 = .ok (.istore 4, 2) := by decide +kernel
theorem d_Se_force_22 : decode b_Se_force 22 = .ok (.iconst 1, 1) := by decide +kernel
theorem d_Se_force_23 : decode b_Se_force 23 = .ok (.aload_n 0, 1) := by decide +kernel
theorem d_Se_force_24 : decode b_Se_force 24 = .ok (.getfield 15, 3) := by decide +kernel
theorem d_Se_force_27 : decode b_Se_force 27 = .ok (.iload_n 1, 1) := by decide +kernel
theorem d_Se_force_28 : decode b_Se_force 28 = .ok (.iaload, 1) := by decide +kernel
theorem d_Se_force_29 : decode b_Se_force 29 = .ok (.iload 4, 2) := by decide +kernel
theorem d_Se_force_31 : decode b_Se_force 31 = .ok (.iand, 1) := by decide +kernel
theorem d_Se_force_32 : decode b_Se_force 32 = .ok (.iload_n 2, 1) := by decide +kernel
theorem d_Se_force_33 : decode b_Se_force 33 = .ok (.iconst (-1), 1) := by decide +kernel
theorem d_Se_force_34 : decode b_Se_force 34 = .ok (.ixor, 1) := by decide +kernel
theorem d_Se_force_35 : decode b_Se_force 35 = .ok (.iand, 1) := by decide +kernel
theorem d_Se_force_36 : decode b_Se_force 36 = .ok (.invokestatic 69, 3) := by decide +kernel
theorem d_Se_force_39 : decode b_Se_force 39 = .ok (.iadd, 1) := by decide +kernel
theorem d_Se_force_40 : decode b_Se_force 40 = .ok (.ireturn, 1) := by decide +kernel
theorem wd_113 : (Cond.fieldLink "SheetWar$Settling" (63 : Nat) "SheetWar$Settling" "sure" "I") ∈ TB := tb_t 113 (by decide +kernel) (by decide +kernel)
theorem wd_114 : (Cond.fieldLink "SheetWar$Settling" (53 : Nat) "SheetWar$Settling" "open" "I") ∈ TB := tb_t 114 (by decide +kernel) (by decide +kernel)
theorem wd_558 : (Cond.code ({ cls := "java/lang/Integer", name := "bitCount", desc := "(I)I" } : MethodName) prog_12_method_49_code (1 : Nat) (Option.some FieldType.int)) ∈ TB := tb_t 558 (by decide +kernel) (by decide +kernel)
theorem wd_556 : (Cond.methodLink "SheetWar$Settling" (69 : Nat) ({ cls := "java/lang/Integer", name := "bitCount", desc := "(I)I" } : MethodName)) ∈ TB := tb_t 556 (by decide +kernel) (by decide +kernel)
theorem wd_557 : (Cond.static ({ cls := "java/lang/Integer", name := "bitCount", desc := "(I)I" } : MethodName)) ∈ TB := tb_t 557 (by decide +kernel) (by decide +kernel)
theorem wd_16 : (Cond.initialized "java/lang/Integer") ∈ TB := tb_t 16 (by decide +kernel) (by decide +kernel)
set_option maxHeartbeats 4000000 in
set_option maxRecDepth 100000 in
theorem c_Se_force (l : Launch) (D : va_G) (cI cZ cJ cS : ClassId) (aT : Nat) (ceT : Cell) (h0 qm qs q1 q2 q3 q4 q5 : Nat) (St Mv Sm Ho Su Op Sd Od Sp Oq : Nat → Bool) (Bk : Nat → Nat → Bool) (L : Nat → Bool) (ms : Bool) (a : Nat)  (h_a : a < 12) : Met l y_Se_force w_Se_force ({ frames := 1, cells := 0, slots := 0, locals := 20 }) (tP D cI cZ cJ cS aT ceT [.ref h0, .int (nI a), .int (mI L), .int (bI ms)] [(h0, .inr (2, [.ref qm, .ref qs, .int (mI St), .int (mI Mv), .int (mI Sm), .int (mI Ho), .ref q1, .ref q2, .ref q3, .ref q4, .int (mI Su), .int (mI Op), .int (mI Sd), .int (mI Od), .int (mI Sp), .int (mI Oq), .ref q5])), (q2, .inl (cI, 12, .inl (fun j => mI (Bk j))))]) (vp_Si (fun r => r = nI (frcC Bk Su Op L ms a))) 0 0 (fun _ => False) := by
  refine Met.ofW (cc := b_Se_force) (maxL := 5) (ret := (some .int)) (by decide) rfl ?_
  intro p e s m args below meth c s₁ B hml hv
  obtain ⟨rfl, hP, hK, hX⟩ := hv
  have hx := B.exec
  have hb := B.bytes
  have hr := B.returns
  have hts0 := atoms_spec (ws := w_Se_force) B.pre
  have hts : ∀ w ∈ TB, w.before _ s = true := fun w h => hts0 w (List.mem_cons_of_mem _ h)
  have hown : s.vm.findClass R_Se = some m.cls := findClass_of_methodNamed B.named
  have hlocks := B.notSynchronized
  have hXH : s.heap[aT]? = s.heap[aT]? := rfl
  have hl := lv_entry ([.ref h0, .int (nI a), .int (mI L), .int (bI ms)]) (n := 5) (Nat.le_of_ble_eq_true rfl)
  rw [lg_entry_eq]
  generalize (lg_sl ([.ref h0, .int (nI a), .int (mI L), .int (bI ms)]) ++ List.replicate (5 - (lg_sl ([.ref h0, .int (nI a), .int (mI L), .int (bI ms)])).length) Slot.unset).toArray = ls at hl ⊢
  have hl : lv_has ls 5 [(0, .ref h0), (1, .int (nI a)), (2, .int (mI L)), (3, .int (bI ms))] := hl
  refine lv_iload_n hx hb d_Se_force_0 rfl (lv_at hl 3 rfl) ?_
  rcases bI_c (ms) with ⟨hb2, e9⟩ | ⟨hb2, e9⟩
  · refine tr_top e9 ?_
    refine lv_if_eq (tgt := 16) hx hb d_Se_force_1 (by decide) (fun h0 => absurd h0 (by decide)) (fun _ => ?_)
    refine lv_aload_n hx hb d_Se_force_4 rfl (lv_at hl 0 rfl) ?_
    refine va_get (D := D) (ci := 2) (v := .int (mI Su)) (C := R_Se) (T := T_Se) (N := 17) hx hb hts hin_Se hown hK hP 0 rfl rfl 10 (by decide) (hts _ wd_113) (fun _ h9 => h9) rfl d_Se_force_5 ?_
    refine lv_aload_n hx hb d_Se_force_8 rfl (lv_at hl 0 rfl) ?_
    refine va_get (D := D) (ci := 2) (v := .int (mI Op)) (C := R_Se) (T := T_Se) (N := 17) hx hb hts hin_Se hown hK hP 0 rfl rfl 11 (by decide) (hts _ wd_114) (fun _ h9 => h9) rfl d_Se_force_9 ?_
    refine lv_ior hx hb d_Se_force_12 ?_
    refine tr_top (y := mI (fun j => Su j || Op j)) (mI_or _ _) ?_
    refine lv_goto (tgt := 20) hx hb d_Se_force_13 (by decide) ?_
    refine lv_istore (lv' := [(4, .int (mI (fun j => Su j || Op j))), (0, .ref h0), (1, .int (nI a)), (2, .int (mI L)), (3, .int (bI ms))]) hx hb d_Se_force_20 hl (by decide) rfl (fun ls hl => ?_)
    refine lv_iconst (v := 1) hx hb d_Se_force_22 (by decide) ?_
    refine lv_aload_n hx hb d_Se_force_23 rfl (lv_at hl 1 rfl) ?_
    refine va_get (D := D) (ci := 2) (v := .ref q2) (C := R_Se) (T := T_Se) (N := 17) hx hb hts hin_Se hown hK hP 0 rfl rfl 7 (by decide) (hts _ wd_110) (fun _ h9 => h9) rfl d_Se_force_24 ?_
    refine lv_iload_n hx hb d_Se_force_27 rfl (lv_at hl 2 rfl) ?_
    refine tr_iald (v := mI (Bk a)) hx hb hK hP 1 0 rfl rfl a h_a (by decide) rfl d_Se_force_28 ?_
    refine lv_iload hx hb d_Se_force_29 (lv_at hl 0 rfl) ?_
    refine lv_iand hx hb d_Se_force_31 ?_
    refine tr_top (y := mI (fun j => Bk a j && (Su j || Op j))) (mI_and _ _) ?_
    refine lv_iload_n hx hb d_Se_force_32 rfl (lv_at hl 3 rfl) ?_
    refine lv_iconst (v := (-1)) hx hb d_Se_force_33 (by decide) ?_
    refine lv_ixor hx hb d_Se_force_34 ?_
    refine lv_iand hx hb d_Se_force_35 ?_
    refine tr_top (y := mI (fun j => (Bk a j && (Su j || Op j)) && !(L j))) (mI_diff _ _) ?_
    have hPc := hP.sub (ws' := []) [] rfl
    refine vp_callSi (va_Run.run (va_runS (As := [.int (mI (fun j => (Bk a j && (Su j || Op j)) && !(L j)))]) (rest := [.int 1]) ⟨hx, hb, hml, hown, hts⟩ (c_In_bitCount l D cI cZ cJ cS aT ceT  (fun j => (Bk a j && (Su j || Op j)) && !(L j)) ) (va_cwS 1 hts (tb_3 wd_556 wd_557 wd_16 (tb_c wd_558)) rfl rfl rfl ⟨by decide, by decide, by decide +kernel⟩ ⟨Nat.le_of_ble_eq_true rfl, Nat.le_of_ble_eq_true rfl⟩) (tP_S hK hX hXH hPc) rfl rfl hl.1 rfl (lv_room (Nat.le_of_ble_eq_true rfl)) d_Se_force_36 ⟨Nat.le_of_ble_eq_true rfl, Nat.le_of_ble_eq_true rfl⟩)) (fun r4 hr9 => ?_)
    rw [hr9]
    refine lv_iadd hx hb d_Se_force_39 ?_
    refine tr_top (y := nI (1 + (numB (fun j => (Bk a j && (Su j || Op j)) && !(L j)) 12))) (nI_add 1 (numB (fun j => (Bk a j && (Su j || Op j)) && !(L j)) 12)) ?_
    exact W.iret (v := nI (1 + (numB (fun j => (Bk a j && (Su j || Op j)) && !(L j)) 12))) hx hb hr (fun t ht hW => ⟨nI (1 + (numB (fun j => (Bk a j && (Su j || Op j)) && !(L j)) 12)), rfl, congrArg nI (by simp [frcC, hb2]), ht⟩) (fun q hq => by cases hq) d_Se_force_40
  · refine tr_top e9 ?_
    refine lv_if_eq (tgt := 16) hx hb d_Se_force_1 (by decide) (fun _ => ?_) (fun h0 => absurd (by decide) h0)
    refine lv_aload_n hx hb d_Se_force_16 rfl (lv_at hl 0 rfl) ?_
    refine va_get (D := D) (ci := 2) (v := .int (mI Su)) (C := R_Se) (T := T_Se) (N := 17) hx hb hts hin_Se hown hK hP 0 rfl rfl 10 (by decide) (hts _ wd_113) (fun _ h9 => h9) rfl d_Se_force_17 ?_
    refine lv_istore (lv' := [(4, .int (mI Su)), (0, .ref h0), (1, .int (nI a)), (2, .int (mI L)), (3, .int (bI ms))]) hx hb d_Se_force_20 hl (by decide) rfl (fun ls hl => ?_)
    refine lv_iconst (v := 1) hx hb d_Se_force_22 (by decide) ?_
    refine lv_aload_n hx hb d_Se_force_23 rfl (lv_at hl 1 rfl) ?_
    refine va_get (D := D) (ci := 2) (v := .ref q2) (C := R_Se) (T := T_Se) (N := 17) hx hb hts hin_Se hown hK hP 0 rfl rfl 7 (by decide) (hts _ wd_110) (fun _ h9 => h9) rfl d_Se_force_24 ?_
    refine lv_iload_n hx hb d_Se_force_27 rfl (lv_at hl 2 rfl) ?_
    refine tr_iald (v := mI (Bk a)) hx hb hK hP 1 0 rfl rfl a h_a (by decide) rfl d_Se_force_28 ?_
    refine lv_iload hx hb d_Se_force_29 (lv_at hl 0 rfl) ?_
    refine lv_iand hx hb d_Se_force_31 ?_
    refine tr_top (y := mI (fun j => Bk a j && Su j)) (mI_and _ _) ?_
    refine lv_iload_n hx hb d_Se_force_32 rfl (lv_at hl 3 rfl) ?_
    refine lv_iconst (v := (-1)) hx hb d_Se_force_33 (by decide) ?_
    refine lv_ixor hx hb d_Se_force_34 ?_
    refine lv_iand hx hb d_Se_force_35 ?_
    refine tr_top (y := mI (fun j => (Bk a j && Su j) && !(L j))) (mI_diff _ _) ?_
    have hPc := hP.sub (ws' := []) [] rfl
    refine vp_callSi (va_Run.run (va_runS (As := [.int (mI (fun j => (Bk a j && Su j) && !(L j)))]) (rest := [.int 1]) ⟨hx, hb, hml, hown, hts⟩ (c_In_bitCount l D cI cZ cJ cS aT ceT  (fun j => (Bk a j && Su j) && !(L j)) ) (va_cwS 1 hts (tb_3 wd_556 wd_557 wd_16 (tb_c wd_558)) rfl rfl rfl ⟨by decide, by decide, by decide +kernel⟩ ⟨Nat.le_of_ble_eq_true rfl, Nat.le_of_ble_eq_true rfl⟩) (tP_S hK hX hXH hPc) rfl rfl hl.1 rfl (lv_room (Nat.le_of_ble_eq_true rfl)) d_Se_force_36 ⟨Nat.le_of_ble_eq_true rfl, Nat.le_of_ble_eq_true rfl⟩)) (fun r6 hr9 => ?_)
    rw [hr9]
    refine lv_iadd hx hb d_Se_force_39 ?_
    refine tr_top (y := nI (1 + (numB (fun j => (Bk a j && Su j) && !(L j)) 12))) (nI_add 1 (numB (fun j => (Bk a j && Su j) && !(L j)) 12)) ?_
    exact W.iret (v := nI (1 + (numB (fun j => (Bk a j && Su j) && !(L j)) 12))) hx hb hr (fun t ht hW => ⟨nI (1 + (numB (fun j => (Bk a j && Su j) && !(L j)) 12)), rfl, congrArg nI (by simp [frcC, hb2]), ht⟩) (fun q hq => by cases hq) d_Se_force_40

theorem d_Se_prevention_0 : decode b_Se_prevention 0 = .ok (.iload_n 2, 1) := by decide +kernel
theorem d_Se_prevention_1 : decode b_Se_prevention 1 = .ok (.ifCond .eq 15, 3) := by decide +kernel
theorem d_Se_prevention_4 : decode b_Se_prevention 4 = .ok (.aload_n 0, 1) := by decide +kernel
theorem d_Se_prevention_5 : decode b_Se_prevention 5 = .ok (.getfield 124, 3) := by decide +kernel
theorem d_Se_prevention_8 : decode b_Se_prevention 8 = .ok (.aload_n 0, 1) := by decide +kernel
theorem d_Se_prevention_9 : decode b_Se_prevention 9 = .ok (.getfield 177, 3) := by decide +kernel
theorem d_Se_prevention_12 : decode b_Se_prevention 12 = .ok (.ior, 1) := by decide +kernel
theorem d_Se_prevention_13 : decode b_Se_prevention 13 = .ok (.goto 7, 3) := by decide +kernel
theorem d_Se_prevention_16 : decode b_Se_prevention 16 = .ok (.aload_n 0, 1) := by decide +kernel
theorem d_Se_prevention_17 : decode b_Se_prevention 17 = .ok (.getfield 124, 3) := by decide +kernel
theorem d_Se_prevention_20 : decode b_Se_prevention 20 = .ok (.iload_n 1, 1) := by decide +kernel
theorem d_Se_prevention_21 : decode b_Se_prevention 21 = .ok (.invokestatic 83, 3) := by decide +kernel
theorem d_Se_prevention_24 : decode b_Se_prevention 24 = .ok (.ifCond .ne 5, 3) := by decide +kernel
theorem d_Se_prevention_27 : decode b_Se_prevention 27 = .ok (.iconst 0, 1) := by decide +kernel
theorem d_Se_prevention_28 : decode b_Se_prevention 28 = .ok (.ireturn, 1) := by decide +kernel
theorem d_Se_prevention_29 : decode b_Se_prevention 29 = .ok (.aload_n 0, 1) := by decide +kernel
theorem d_Se_prevention_30 : decode b_Se_prevention 30 = .ok (.getfield 134, 3) := by decide +kernel
theorem d_Se_prevention_33 : decode b_Se_prevention 33 = .ok (.iload_n 1, 1) := by decide +kernel
theorem d_Se_prevention_34 : decode b_Se_prevention 34 = .ok (.invokestatic 83, 3) := by decide +kernel
theorem d_Se_prevention_37 : decode b_Se_prevention 37 = .ok (.ifCond .eq 40, 3) := by decide +kernel
theorem d_Se_prevention_40 : decode b_Se_prevention 40 = .ok (.iload_n 2, 1) := by decide +kernel
theorem d_Se_prevention_41 : decode b_Se_prevention 41 = .ok (.ifCond .eq 10, 3) := by decide +kernel
theorem d_Se_prevention_44 : decode b_Se_prevention 44 = .ok (.aload_n 0, 1) := by decide +kernel
theorem d_Se_prevention_45 : decode b_Se_prevention 45 = .ok (.getfield 63, 3) := by decide +kernel
theorem d_Se_prevention_48 : decode b_Se_prevention 48 = .ok (.goto 12, 3) := by decide +kernel
theorem d_Se_prevention_51 : decode b_Se_prevention 51 = .ok (.aload_n 0, 1) := by decide +kernel
theorem d_Se_prevention_52 : decode b_Se_prevention 52 = .ok (.getfield 63, 3) := by decide +kernel
theorem d_Se_prevention_55 : decode b_Se_prevention 55 = .ok (.aload_n 0, 1) := by decide +kernel
theorem d_Se_prevention_56 : decode b_Se_prevention 56 = .ok (.getfield 53, 3) := by decide +kernel
theorem d_Se_prevention_59 : decode b_Se_prevention 59 = .ok (.ior, 1) := by decide +kernel
theorem d_Se_prevention_60 : decode b_Se_prevention 60 = .ok (.aload_n 0, 1) := by decide +kernel
theorem d_Se_prevention_61 : decode b_Se_prevention 61 = .ok (.getfield 31, 3) := by decide +kernel
theorem d_Se_prevention_64 : decode b_Se_prevention 64 = .ok (.getfield 105, 3) := by decide +kernel
theorem d_Se_prevention_67 : decode b_Se_prevention 67 = .ok (.iload_n 1, 1) := by decide +kernel
theorem d_Se_prevention_68 : decode b_Se_prevention 68 = .ok (.iaload, 1) := by decide +kernel
theorem d_Se_prevention_69 : decode b_Se_prevention 69 = .ok (.invokestatic 83, 3) := by decide +kernel
theorem d_Se_prevention_72 : decode b_Se_prevention 72 = .ok (.ifCond .eq 5, 3) := by decide +kernel
theorem d_Se_prevention_75 : decode b_Se_prevention 75 = .ok (.iconst 0, 1) := by decide +kernel
theorem d_Se_prevention_76 : decode b_Se_prevention 76 = .ok (.ireturn, 1) := by decide +kernel
theorem d_Se_prevention_77 : decode b_Se_prevention 77 = .ok (.aload_n 0, 1) := by decide +kernel
theorem d_Se_prevention_78 : decode b_Se_prevention 78 = .ok (.iload_n 1, 1) := by decide +kernel
theorem d_Se_prevention_79 : decode b_Se_prevention 79 = .ok (.iconst 0, 1) := by decide +kernel
theorem d_Se_prevention_80 : decode b_Se_prevention 80 = .ok (.iload_n 2, 1) := by decide +kernel
theorem d_Se_prevention_81 : decode b_Se_prevention 81 = .ok (.invokevirtual 186, 3) := by decide +kernel
theorem d_Se_prevention_84 : decode b_Se_prevention 84 = .ok (.ireturn, 1) := by decide +kernel
theorem wd_117 : (Cond.fieldLink "SheetWar$Settling" (124 : Nat) "SheetWar$Settling" "surePaths" "I") ∈ TB := tb_t 117 (by decide +kernel) (by decide +kernel)
theorem wd_118 : (Cond.fieldLink "SheetWar$Settling" (177 : Nat) "SheetWar$Settling" "openPaths" "I") ∈ TB := tb_t 118 (by decide +kernel) (by decide +kernel)
theorem wd_108 : (Cond.fieldLink "SheetWar$Settling" (134 : Nat) "SheetWar$Settling" "headOn" "I") ∈ TB := tb_t 108 (by decide +kernel) (by decide +kernel)
theorem wd_72 : (Cond.fieldLink "SheetWar$Settling" (105 : Nat) "SheetWar$Sheet" "xs" "[I") ∈ TB := tb_t 72 (by decide +kernel) (by decide +kernel)
theorem wd_555 : (Cond.code ({ cls := "SheetWar$Settling", name := "force", desc := "(IIZ)I" } : MethodName) prog_4_method_19_code (5 : Nat) (Option.some FieldType.int)) ∈ TB := tb_t 555 (by decide +kernel) (by decide +kernel)
theorem wd_552 : (Cond.methodLink "SheetWar$Settling" (186 : Nat) ({ cls := "SheetWar$Settling", name := "force", desc := "(IIZ)I" } : MethodName)) ∈ TB := tb_t 552 (by decide +kernel) (by decide +kernel)
theorem wd_554 : (Cond.instanceMethod ({ cls := "SheetWar$Settling", name := "force", desc := "(IIZ)I" } : MethodName)) ∈ TB := tb_t 554 (by decide +kernel) (by decide +kernel)
theorem wp_16 : Cond.selects "SheetWar$Settling" ⟨"SheetWar$Settling", "force", "(IIZ)I"⟩ ⟨"SheetWar$Settling", "force", "(IIZ)I"⟩ ∈ TB := tb_p 16 (by decide +kernel) (by decide +kernel)
set_option maxHeartbeats 4000000 in
set_option maxRecDepth 100000 in
theorem c_Se_prevention (l : Launch) (D : va_G) (cI cZ cJ cS : ClassId) (aT : Nat) (ceT : Cell) (h0 qm qs q1 q2 q3 q4 q5 : Nat) (St Mv Sm Ho Su Op Sd Od Sp Oq : Nat → Bool) (Bk : Nat → Nat → Bool) (tn : Int32) (qu qo qx qy qr qw : Nat) (X : Nat → Nat) (ms : Bool) (a : Nat) (hX12 : ∀ j, X j < 12) (h_a : a < 12) : Met l y_Se_prevention w_Se_prevention ({ frames := 2, cells := 0, slots := 0, locals := 44 }) (tP D cI cZ cJ cS aT ceT [.ref h0, .int (nI a), .int (bI ms)] [(h0, .inr (2, [.ref qm, .ref qs, .int (mI St), .int (mI Mv), .int (mI Sm), .int (mI Ho), .ref q1, .ref q2, .ref q3, .ref q4, .int (mI Su), .int (mI Op), .int (mI Sd), .int (mI Od), .int (mI Sp), .int (mI Oq), .ref q5])), (q2, .inl (cI, 12, .inl (fun j => mI (Bk j)))), (qs, .inr (3, [.int tn, .ref qu, .ref qo, .ref qx, .ref qy, .ref qr, .ref qw])), (qx, .inl (cI, 12, .inl (fun j => nI (X j))))]) (vp_Si (fun r => r = nI (prvC Bk Su Op Sp Oq Ho X ms a))) 0 0 (fun _ => False) := by
  refine Met.ofW (cc := b_Se_prevention) (maxL := 3) (ret := (some .int)) (by decide) rfl ?_
  intro p e s m args below meth c s₁ B hml hv
  obtain ⟨rfl, hP, hK, hX⟩ := hv
  have hx := B.exec
  have hb := B.bytes
  have hr := B.returns
  have hts0 := atoms_spec (ws := w_Se_prevention) B.pre
  have hts : ∀ w ∈ TB, w.before _ s = true := fun w h => hts0 w (List.mem_cons_of_mem _ h)
  have hown : s.vm.findClass R_Se = some m.cls := findClass_of_methodNamed B.named
  have hlocks := B.notSynchronized
  have hXH : s.heap[aT]? = s.heap[aT]? := rfl
  have hl := lv_entry ([.ref h0, .int (nI a), .int (bI ms)]) (n := 3) (Nat.le_of_ble_eq_true rfl)
  rw [lg_entry_eq]
  generalize (lg_sl ([.ref h0, .int (nI a), .int (bI ms)]) ++ List.replicate (3 - (lg_sl ([.ref h0, .int (nI a), .int (bI ms)])).length) Slot.unset).toArray = ls at hl ⊢
  have hl : lv_has ls 3 [(0, .ref h0), (1, .int (nI a)), (2, .int (bI ms))] := hl
  refine lv_iload_n hx hb d_Se_prevention_0 rfl (lv_at hl 2 rfl) ?_
  rcases bI_c (ms) with ⟨hb2, e9⟩ | ⟨hb2, e9⟩
  · refine tr_top e9 ?_
    refine lv_if_eq (tgt := 16) hx hb d_Se_prevention_1 (by decide) (fun h0 => absurd h0 (by decide)) (fun _ => ?_)
    refine lv_aload_n hx hb d_Se_prevention_4 rfl (lv_at hl 0 rfl) ?_
    refine va_get (D := D) (ci := 2) (v := .int (mI Sp)) (C := R_Se) (T := T_Se) (N := 17) hx hb hts hin_Se hown hK hP 0 rfl rfl 14 (by decide) (hts _ wd_117) (fun _ h9 => h9) rfl d_Se_prevention_5 ?_
    refine lv_aload_n hx hb d_Se_prevention_8 rfl (lv_at hl 0 rfl) ?_
    refine va_get (D := D) (ci := 2) (v := .int (mI Oq)) (C := R_Se) (T := T_Se) (N := 17) hx hb hts hin_Se hown hK hP 0 rfl rfl 15 (by decide) (hts _ wd_118) (fun _ h9 => h9) rfl d_Se_prevention_9 ?_
    refine lv_ior hx hb d_Se_prevention_12 ?_
    refine tr_top (y := mI (fun j => Sp j || Oq j)) (mI_or _ _) ?_
    refine lv_goto (tgt := 20) hx hb d_Se_prevention_13 (by decide) ?_
    refine lv_iload_n hx hb d_Se_prevention_20 rfl (lv_at hl 1 rfl) ?_
    have hPc := hP.sub (ws' := []) [] rfl
    refine vp_callSi (va_Run.run (va_runSN (As := [.int (mI (fun j => Sp j || Oq j)), .int (nI a)]) (rest := []) ⟨hx, hb, hml, hown, hts⟩ (c_Sw_in l D cI cZ cJ cS aT ceT  (fun j => Sp j || Oq j) a h_a) (⟨va_cnB 2 hts (tb_c wd_285) rfl rfl rfl hX.2.2.2.2.2.2.2.1 (hts _ wd_1) ⟨by decide, by decide, by decide +kernel⟩ ⟨Nat.le_of_ble_eq_true rfl, Nat.le_of_ble_eq_true rfl⟩, hts _ wd_284, trivial⟩) (tP_S hK hX hXH hPc) rfl rfl hl.1 rfl (lv_room (Nat.le_of_ble_eq_true rfl)) d_Se_prevention_21 ⟨Nat.le_of_ble_eq_true rfl, Nat.le_of_ble_eq_true rfl⟩)) (fun r4 hr9 => ?_)
    rw [hr9]
    rcases bI_c ((fun j => Sp j || Oq j) a) with ⟨hb6, e9⟩ | ⟨hb6, e9⟩
    · refine tr_top e9 ?_
      refine lv_if_ne (tgt := 29) hx hb d_Se_prevention_24 (by decide) (fun _ => ?_) (fun h0 => absurd h0 (by decide))
      refine lv_aload_n hx hb d_Se_prevention_29 rfl (lv_at hl 0 rfl) ?_
      refine va_get (D := D) (ci := 2) (v := .int (mI Ho)) (C := R_Se) (T := T_Se) (N := 17) hx hb hts hin_Se hown hK hP 0 rfl rfl 5 (by decide) (hts _ wd_108) (fun _ h9 => h9) rfl d_Se_prevention_30 ?_
      refine lv_iload_n hx hb d_Se_prevention_33 rfl (lv_at hl 1 rfl) ?_
      have hPc := hP.sub (ws' := []) [] rfl
      refine vp_callSi (va_Run.run (va_runSN (As := [.int (mI Ho), .int (nI a)]) (rest := []) ⟨hx, hb, hml, hown, hts⟩ (c_Sw_in l D cI cZ cJ cS aT ceT  Ho a h_a) (⟨va_cnB 2 hts (tb_c wd_285) rfl rfl rfl hX.2.2.2.2.2.2.2.1 (hts _ wd_1) ⟨by decide, by decide, by decide +kernel⟩ ⟨Nat.le_of_ble_eq_true rfl, Nat.le_of_ble_eq_true rfl⟩, hts _ wd_284, trivial⟩) (tP_S hK hX hXH hPc) rfl rfl hl.1 rfl (lv_room (Nat.le_of_ble_eq_true rfl)) d_Se_prevention_34 ⟨Nat.le_of_ble_eq_true rfl, Nat.le_of_ble_eq_true rfl⟩)) (fun r8 hr9 => ?_)
      rw [hr9]
      rcases bI_c (Ho a) with ⟨hb10, e9⟩ | ⟨hb10, e9⟩
      · refine tr_top e9 ?_
        refine lv_if_eq (tgt := 77) hx hb d_Se_prevention_37 (by decide) (fun h0 => absurd h0 (by decide)) (fun _ => ?_)
        refine lv_iload_n hx hb d_Se_prevention_40 rfl (lv_at hl 2 rfl) ?_
        refine tr_top (bI_t hb2) ?_
        refine lv_if_eq (tgt := 51) hx hb d_Se_prevention_41 (by decide) (fun h0 => absurd h0 (by decide)) (fun _ => ?_)
        refine lv_aload_n hx hb d_Se_prevention_44 rfl (lv_at hl 0 rfl) ?_
        refine va_get (D := D) (ci := 2) (v := .int (mI Su)) (C := R_Se) (T := T_Se) (N := 17) hx hb hts hin_Se hown hK hP 0 rfl rfl 10 (by decide) (hts _ wd_113) (fun _ h9 => h9) rfl d_Se_prevention_45 ?_
        refine lv_goto (tgt := 60) hx hb d_Se_prevention_48 (by decide) ?_
        refine lv_aload_n hx hb d_Se_prevention_60 rfl (lv_at hl 0 rfl) ?_
        refine va_get (D := D) (ci := 2) (v := .ref qs) (C := R_Se) (T := T_Se) (N := 17) hx hb hts hin_Se hown hK hP 0 rfl rfl 1 (by decide) (hts _ wd_104) (fun _ h9 => h9) rfl d_Se_prevention_61 ?_
        refine va_get (D := D) (ci := 3) (v := .ref qx) (C := R_Sh) (T := T_Sh) (N := 7) hx hb hts hin_Sh hown hK hP 2 rfl rfl 3 (by decide) (hts _ wd_72) (fun _ h9 => h9) rfl d_Se_prevention_64 ?_
        refine lv_iload_n hx hb d_Se_prevention_67 rfl (lv_at hl 1 rfl) ?_
        refine tr_iald (v := nI (X a)) hx hb hK hP 3 0 rfl rfl a h_a (by decide) rfl d_Se_prevention_68 ?_
        have hPc := hP.sub (ws' := []) [] rfl
        refine vp_callSi (va_Run.run (va_runSN (As := [.int (mI Su), .int (nI (X a))]) (rest := []) ⟨hx, hb, hml, hown, hts⟩ (c_Sw_in l D cI cZ cJ cS aT ceT  Su (X a) (hX12 _)) (⟨va_cnB 2 hts (tb_c wd_285) rfl rfl rfl hX.2.2.2.2.2.2.2.1 (hts _ wd_1) ⟨by decide, by decide, by decide +kernel⟩ ⟨Nat.le_of_ble_eq_true rfl, Nat.le_of_ble_eq_true rfl⟩, hts _ wd_284, trivial⟩) (tP_S hK hX hXH hPc) rfl rfl hl.1 rfl (lv_room (Nat.le_of_ble_eq_true rfl)) d_Se_prevention_69 ⟨Nat.le_of_ble_eq_true rfl, Nat.le_of_ble_eq_true rfl⟩)) (fun r14 hr9 => ?_)
        rw [hr9]
        rcases bI_c (Su (X a)) with ⟨hb16, e9⟩ | ⟨hb16, e9⟩
        · refine tr_top e9 ?_
          refine lv_if_eq (tgt := 77) hx hb d_Se_prevention_72 (by decide) (fun h0 => absurd h0 (by decide)) (fun _ => ?_)
          refine lv_iconst (v := 0) hx hb d_Se_prevention_75 (by decide) ?_
          exact W.iret (v := 0) hx hb hr (fun t ht hW => ⟨0, rfl, show nI 0 = _ from congrArg nI (by simp [prvC, hb2, hb6, hb10, hb16]), ht⟩) (fun q hq => by cases hq) d_Se_prevention_76
        · refine tr_top e9 ?_
          refine lv_if_eq (tgt := 77) hx hb d_Se_prevention_72 (by decide) (fun _ => ?_) (fun h0 => absurd (by decide) h0)
          refine lv_aload_n hx hb d_Se_prevention_77 rfl (lv_at hl 0 rfl) ?_
          refine lv_iload_n hx hb d_Se_prevention_78 rfl (lv_at hl 1 rfl) ?_
          refine lv_iconst (v := 0) hx hb d_Se_prevention_79 (by decide) ?_
          refine tr_top (y := mI (fun _ => false)) mI_0.symm ?_
          refine lv_iload_n hx hb d_Se_prevention_80 rfl (lv_at hl 2 rfl) ?_
          have hPc := hP.sub (ws' := [(h0, .inr (2, [.ref qm, .ref qs, .int (mI St), .int (mI Mv), .int (mI Sm), .int (mI Ho), .ref q1, .ref q2, .ref q3, .ref q4, .int (mI Su), .int (mI Op), .int (mI Sd), .int (mI Od), .int (mI Sp), .int (mI Oq), .ref q5])), (q2, .inl (cI, 12, .inl (fun j => mI (Bk j))))]) [0, 1] rfl
          refine vp_callSi (va_Run.run (va_runV (As := [.int (nI a), .int (mI (fun _ => false)), .int (bI ms)]) (rest := []) ⟨hx, hb, hml, hown, hts⟩ (c_Se_force l D cI cZ cJ cS aT ceT  h0 qm qs q1 q2 q3 q4 q5 St Mv Sm Ho Su Op Sd Od Sp Oq Bk (fun _ => false) ms a h_a) (cwV 3 hts (tb_4 wd_552 wd_554 wp_16 wd_5 (tb_c wd_555)) rfl rfl rfl ⟨rfl, by decide, by decide, by decide +kernel⟩ ⟨Nat.le_of_ble_eq_true rfl, Nat.le_of_ble_eq_true rfl⟩) (tP_V hK hX hXH hPc (q := 0) rfl rfl) rfl rfl hl.1 rfl (lv_room (Nat.le_of_ble_eq_true rfl)) d_Se_prevention_81 ⟨Nat.le_of_ble_eq_true rfl, Nat.le_of_ble_eq_true rfl⟩)) (fun r19 hr9 => ?_)
          rw [hr9]
          exact W.iret (v := nI (frcC Bk Su Op (fun _ => false) ms a)) hx hb hr (fun t ht hW => ⟨nI (frcC Bk Su Op (fun _ => false) ms a), rfl, congrArg nI (by simp [prvC, hb2, hb6, hb10, hb16]), ht⟩) (fun q hq => by cases hq) d_Se_prevention_84
      · refine tr_top e9 ?_
        refine lv_if_eq (tgt := 77) hx hb d_Se_prevention_37 (by decide) (fun _ => ?_) (fun h0 => absurd (by decide) h0)
        refine lv_aload_n hx hb d_Se_prevention_77 rfl (lv_at hl 0 rfl) ?_
        refine lv_iload_n hx hb d_Se_prevention_78 rfl (lv_at hl 1 rfl) ?_
        refine lv_iconst (v := 0) hx hb d_Se_prevention_79 (by decide) ?_
        refine tr_top (y := mI (fun _ => false)) mI_0.symm ?_
        refine lv_iload_n hx hb d_Se_prevention_80 rfl (lv_at hl 2 rfl) ?_
        have hPc := hP.sub (ws' := [(h0, .inr (2, [.ref qm, .ref qs, .int (mI St), .int (mI Mv), .int (mI Sm), .int (mI Ho), .ref q1, .ref q2, .ref q3, .ref q4, .int (mI Su), .int (mI Op), .int (mI Sd), .int (mI Od), .int (mI Sp), .int (mI Oq), .ref q5])), (q2, .inl (cI, 12, .inl (fun j => mI (Bk j))))]) [0, 1] rfl
        refine vp_callSi (va_Run.run (va_runV (As := [.int (nI a), .int (mI (fun _ => false)), .int (bI ms)]) (rest := []) ⟨hx, hb, hml, hown, hts⟩ (c_Se_force l D cI cZ cJ cS aT ceT  h0 qm qs q1 q2 q3 q4 q5 St Mv Sm Ho Su Op Sd Od Sp Oq Bk (fun _ => false) ms a h_a) (cwV 3 hts (tb_4 wd_552 wd_554 wp_16 wd_5 (tb_c wd_555)) rfl rfl rfl ⟨rfl, by decide, by decide, by decide +kernel⟩ ⟨Nat.le_of_ble_eq_true rfl, Nat.le_of_ble_eq_true rfl⟩) (tP_V hK hX hXH hPc (q := 0) rfl rfl) rfl rfl hl.1 rfl (lv_room (Nat.le_of_ble_eq_true rfl)) d_Se_prevention_81 ⟨Nat.le_of_ble_eq_true rfl, Nat.le_of_ble_eq_true rfl⟩)) (fun r21 hr9 => ?_)
        rw [hr9]
        exact W.iret (v := nI (frcC Bk Su Op (fun _ => false) ms a)) hx hb hr (fun t ht hW => ⟨nI (frcC Bk Su Op (fun _ => false) ms a), rfl, congrArg nI (by simp [prvC, hb2, hb6, hb10]), ht⟩) (fun q hq => by cases hq) d_Se_prevention_84
    · refine tr_top e9 ?_
      refine lv_if_ne (tgt := 29) hx hb d_Se_prevention_24 (by decide) (fun h0 => absurd (by decide) h0) (fun _ => ?_)
      refine lv_iconst (v := 0) hx hb d_Se_prevention_27 (by decide) ?_
      exact W.iret (v := 0) hx hb hr (fun t ht hW => ⟨0, rfl, show nI 0 = _ from congrArg nI (by simp [prvC, hb2, hb6]), ht⟩) (fun q hq => by cases hq) d_Se_prevention_28
  · refine tr_top e9 ?_
    refine lv_if_eq (tgt := 16) hx hb d_Se_prevention_1 (by decide) (fun _ => ?_) (fun h0 => absurd (by decide) h0)
    refine lv_aload_n hx hb d_Se_prevention_16 rfl (lv_at hl 0 rfl) ?_
    refine va_get (D := D) (ci := 2) (v := .int (mI Sp)) (C := R_Se) (T := T_Se) (N := 17) hx hb hts hin_Se hown hK hP 0 rfl rfl 14 (by decide) (hts _ wd_117) (fun _ h9 => h9) rfl d_Se_prevention_17 ?_
    refine lv_iload_n hx hb d_Se_prevention_20 rfl (lv_at hl 1 rfl) ?_
    have hPc := hP.sub (ws' := []) [] rfl
    refine vp_callSi (va_Run.run (va_runSN (As := [.int (mI Sp), .int (nI a)]) (rest := []) ⟨hx, hb, hml, hown, hts⟩ (c_Sw_in l D cI cZ cJ cS aT ceT  Sp a h_a) (⟨va_cnB 2 hts (tb_c wd_285) rfl rfl rfl hX.2.2.2.2.2.2.2.1 (hts _ wd_1) ⟨by decide, by decide, by decide +kernel⟩ ⟨Nat.le_of_ble_eq_true rfl, Nat.le_of_ble_eq_true rfl⟩, hts _ wd_284, trivial⟩) (tP_S hK hX hXH hPc) rfl rfl hl.1 rfl (lv_room (Nat.le_of_ble_eq_true rfl)) d_Se_prevention_21 ⟨Nat.le_of_ble_eq_true rfl, Nat.le_of_ble_eq_true rfl⟩)) (fun r24 hr9 => ?_)
    rw [hr9]
    rcases bI_c (Sp a) with ⟨hb26, e9⟩ | ⟨hb26, e9⟩
    · refine tr_top e9 ?_
      refine lv_if_ne (tgt := 29) hx hb d_Se_prevention_24 (by decide) (fun _ => ?_) (fun h0 => absurd h0 (by decide))
      refine lv_aload_n hx hb d_Se_prevention_29 rfl (lv_at hl 0 rfl) ?_
      refine va_get (D := D) (ci := 2) (v := .int (mI Ho)) (C := R_Se) (T := T_Se) (N := 17) hx hb hts hin_Se hown hK hP 0 rfl rfl 5 (by decide) (hts _ wd_108) (fun _ h9 => h9) rfl d_Se_prevention_30 ?_
      refine lv_iload_n hx hb d_Se_prevention_33 rfl (lv_at hl 1 rfl) ?_
      have hPc := hP.sub (ws' := []) [] rfl
      refine vp_callSi (va_Run.run (va_runSN (As := [.int (mI Ho), .int (nI a)]) (rest := []) ⟨hx, hb, hml, hown, hts⟩ (c_Sw_in l D cI cZ cJ cS aT ceT  Ho a h_a) (⟨va_cnB 2 hts (tb_c wd_285) rfl rfl rfl hX.2.2.2.2.2.2.2.1 (hts _ wd_1) ⟨by decide, by decide, by decide +kernel⟩ ⟨Nat.le_of_ble_eq_true rfl, Nat.le_of_ble_eq_true rfl⟩, hts _ wd_284, trivial⟩) (tP_S hK hX hXH hPc) rfl rfl hl.1 rfl (lv_room (Nat.le_of_ble_eq_true rfl)) d_Se_prevention_34 ⟨Nat.le_of_ble_eq_true rfl, Nat.le_of_ble_eq_true rfl⟩)) (fun r28 hr9 => ?_)
      rw [hr9]
      rcases bI_c (Ho a) with ⟨hb30, e9⟩ | ⟨hb30, e9⟩
      · refine tr_top e9 ?_
        refine lv_if_eq (tgt := 77) hx hb d_Se_prevention_37 (by decide) (fun h0 => absurd h0 (by decide)) (fun _ => ?_)
        refine lv_iload_n hx hb d_Se_prevention_40 rfl (lv_at hl 2 rfl) ?_
        refine tr_top (bI_f hb2) ?_
        refine lv_if_eq (tgt := 51) hx hb d_Se_prevention_41 (by decide) (fun _ => ?_) (fun h0 => absurd (by decide) h0)
        refine lv_aload_n hx hb d_Se_prevention_51 rfl (lv_at hl 0 rfl) ?_
        refine va_get (D := D) (ci := 2) (v := .int (mI Su)) (C := R_Se) (T := T_Se) (N := 17) hx hb hts hin_Se hown hK hP 0 rfl rfl 10 (by decide) (hts _ wd_113) (fun _ h9 => h9) rfl d_Se_prevention_52 ?_
        refine lv_aload_n hx hb d_Se_prevention_55 rfl (lv_at hl 0 rfl) ?_
        refine va_get (D := D) (ci := 2) (v := .int (mI Op)) (C := R_Se) (T := T_Se) (N := 17) hx hb hts hin_Se hown hK hP 0 rfl rfl 11 (by decide) (hts _ wd_114) (fun _ h9 => h9) rfl d_Se_prevention_56 ?_
        refine lv_ior hx hb d_Se_prevention_59 ?_
        refine tr_top (y := mI (fun j => Su j || Op j)) (mI_or _ _) ?_
        refine lv_aload_n hx hb d_Se_prevention_60 rfl (lv_at hl 0 rfl) ?_
        refine va_get (D := D) (ci := 2) (v := .ref qs) (C := R_Se) (T := T_Se) (N := 17) hx hb hts hin_Se hown hK hP 0 rfl rfl 1 (by decide) (hts _ wd_104) (fun _ h9 => h9) rfl d_Se_prevention_61 ?_
        refine va_get (D := D) (ci := 3) (v := .ref qx) (C := R_Sh) (T := T_Sh) (N := 7) hx hb hts hin_Sh hown hK hP 2 rfl rfl 3 (by decide) (hts _ wd_72) (fun _ h9 => h9) rfl d_Se_prevention_64 ?_
        refine lv_iload_n hx hb d_Se_prevention_67 rfl (lv_at hl 1 rfl) ?_
        refine tr_iald (v := nI (X a)) hx hb hK hP 3 0 rfl rfl a h_a (by decide) rfl d_Se_prevention_68 ?_
        have hPc := hP.sub (ws' := []) [] rfl
        refine vp_callSi (va_Run.run (va_runSN (As := [.int (mI (fun j => Su j || Op j)), .int (nI (X a))]) (rest := []) ⟨hx, hb, hml, hown, hts⟩ (c_Sw_in l D cI cZ cJ cS aT ceT  (fun j => Su j || Op j) (X a) (hX12 _)) (⟨va_cnB 2 hts (tb_c wd_285) rfl rfl rfl hX.2.2.2.2.2.2.2.1 (hts _ wd_1) ⟨by decide, by decide, by decide +kernel⟩ ⟨Nat.le_of_ble_eq_true rfl, Nat.le_of_ble_eq_true rfl⟩, hts _ wd_284, trivial⟩) (tP_S hK hX hXH hPc) rfl rfl hl.1 rfl (lv_room (Nat.le_of_ble_eq_true rfl)) d_Se_prevention_69 ⟨Nat.le_of_ble_eq_true rfl, Nat.le_of_ble_eq_true rfl⟩)) (fun r34 hr9 => ?_)
        rw [hr9]
        rcases bI_c ((fun j => Su j || Op j) (X a)) with ⟨hb36, e9⟩ | ⟨hb36, e9⟩
        · refine tr_top e9 ?_
          refine lv_if_eq (tgt := 77) hx hb d_Se_prevention_72 (by decide) (fun h0 => absurd h0 (by decide)) (fun _ => ?_)
          refine lv_iconst (v := 0) hx hb d_Se_prevention_75 (by decide) ?_
          exact W.iret (v := 0) hx hb hr (fun t ht hW => ⟨0, rfl, show nI 0 = _ from congrArg nI (by simp [prvC, hb2, hb26, hb30, hb36]), ht⟩) (fun q hq => by cases hq) d_Se_prevention_76
        · refine tr_top e9 ?_
          refine lv_if_eq (tgt := 77) hx hb d_Se_prevention_72 (by decide) (fun _ => ?_) (fun h0 => absurd (by decide) h0)
          refine lv_aload_n hx hb d_Se_prevention_77 rfl (lv_at hl 0 rfl) ?_
          refine lv_iload_n hx hb d_Se_prevention_78 rfl (lv_at hl 1 rfl) ?_
          refine lv_iconst (v := 0) hx hb d_Se_prevention_79 (by decide) ?_
          refine tr_top (y := mI (fun _ => false)) mI_0.symm ?_
          refine lv_iload_n hx hb d_Se_prevention_80 rfl (lv_at hl 2 rfl) ?_
          have hPc := hP.sub (ws' := [(h0, .inr (2, [.ref qm, .ref qs, .int (mI St), .int (mI Mv), .int (mI Sm), .int (mI Ho), .ref q1, .ref q2, .ref q3, .ref q4, .int (mI Su), .int (mI Op), .int (mI Sd), .int (mI Od), .int (mI Sp), .int (mI Oq), .ref q5])), (q2, .inl (cI, 12, .inl (fun j => mI (Bk j))))]) [0, 1] rfl
          refine vp_callSi (va_Run.run (va_runV (As := [.int (nI a), .int (mI (fun _ => false)), .int (bI ms)]) (rest := []) ⟨hx, hb, hml, hown, hts⟩ (c_Se_force l D cI cZ cJ cS aT ceT  h0 qm qs q1 q2 q3 q4 q5 St Mv Sm Ho Su Op Sd Od Sp Oq Bk (fun _ => false) ms a h_a) (cwV 3 hts (tb_4 wd_552 wd_554 wp_16 wd_5 (tb_c wd_555)) rfl rfl rfl ⟨rfl, by decide, by decide, by decide +kernel⟩ ⟨Nat.le_of_ble_eq_true rfl, Nat.le_of_ble_eq_true rfl⟩) (tP_V hK hX hXH hPc (q := 0) rfl rfl) rfl rfl hl.1 rfl (lv_room (Nat.le_of_ble_eq_true rfl)) d_Se_prevention_81 ⟨Nat.le_of_ble_eq_true rfl, Nat.le_of_ble_eq_true rfl⟩)) (fun r39 hr9 => ?_)
          rw [hr9]
          exact W.iret (v := nI (frcC Bk Su Op (fun _ => false) ms a)) hx hb hr (fun t ht hW => ⟨nI (frcC Bk Su Op (fun _ => false) ms a), rfl, congrArg nI (by simp [prvC, hb2, hb26, hb30, hb36]), ht⟩) (fun q hq => by cases hq) d_Se_prevention_84
      · refine tr_top e9 ?_
        refine lv_if_eq (tgt := 77) hx hb d_Se_prevention_37 (by decide) (fun _ => ?_) (fun h0 => absurd (by decide) h0)
        refine lv_aload_n hx hb d_Se_prevention_77 rfl (lv_at hl 0 rfl) ?_
        refine lv_iload_n hx hb d_Se_prevention_78 rfl (lv_at hl 1 rfl) ?_
        refine lv_iconst (v := 0) hx hb d_Se_prevention_79 (by decide) ?_
        refine tr_top (y := mI (fun _ => false)) mI_0.symm ?_
        refine lv_iload_n hx hb d_Se_prevention_80 rfl (lv_at hl 2 rfl) ?_
        have hPc := hP.sub (ws' := [(h0, .inr (2, [.ref qm, .ref qs, .int (mI St), .int (mI Mv), .int (mI Sm), .int (mI Ho), .ref q1, .ref q2, .ref q3, .ref q4, .int (mI Su), .int (mI Op), .int (mI Sd), .int (mI Od), .int (mI Sp), .int (mI Oq), .ref q5])), (q2, .inl (cI, 12, .inl (fun j => mI (Bk j))))]) [0, 1] rfl
        refine vp_callSi (va_Run.run (va_runV (As := [.int (nI a), .int (mI (fun _ => false)), .int (bI ms)]) (rest := []) ⟨hx, hb, hml, hown, hts⟩ (c_Se_force l D cI cZ cJ cS aT ceT  h0 qm qs q1 q2 q3 q4 q5 St Mv Sm Ho Su Op Sd Od Sp Oq Bk (fun _ => false) ms a h_a) (cwV 3 hts (tb_4 wd_552 wd_554 wp_16 wd_5 (tb_c wd_555)) rfl rfl rfl ⟨rfl, by decide, by decide, by decide +kernel⟩ ⟨Nat.le_of_ble_eq_true rfl, Nat.le_of_ble_eq_true rfl⟩) (tP_V hK hX hXH hPc (q := 0) rfl rfl) rfl rfl hl.1 rfl (lv_room (Nat.le_of_ble_eq_true rfl)) d_Se_prevention_81 ⟨Nat.le_of_ble_eq_true rfl, Nat.le_of_ble_eq_true rfl⟩)) (fun r41 hr9 => ?_)
        rw [hr9]
        exact W.iret (v := nI (frcC Bk Su Op (fun _ => false) ms a)) hx hb hr (fun t ht hW => ⟨nI (frcC Bk Su Op (fun _ => false) ms a), rfl, congrArg nI (by simp [prvC, hb2, hb26, hb30]), ht⟩) (fun q hq => by cases hq) d_Se_prevention_84
    · refine tr_top e9 ?_
      refine lv_if_ne (tgt := 29) hx hb d_Se_prevention_24 (by decide) (fun h0 => absurd (by decide) h0) (fun _ => ?_)
      refine lv_iconst (v := 0) hx hb d_Se_prevention_27 (by decide) ?_
      exact W.iret (v := 0) hx hb hr (fun t ht hW => ⟨0, rfl, show nI 0 = _ from congrArg nI (by simp [prvC, hb2, hb26]), ht⟩) (fun q hq => by cases hq) d_Se_prevention_28

theorem d_Se_defence_0 : decode b_Se_defence 0 = .ok (.aload_n 0, 1) := by decide +kernel
theorem d_Se_defence_1 : decode b_Se_defence 1 = .ok (.getfield 80, 3) := by decide +kernel
theorem d_Se_defence_4 : decode b_Se_defence 4 = .ok (.iload_n 1, 1) := by decide +kernel
theorem d_Se_defence_5 : decode b_Se_defence 5 = .ok (.invokestatic 83, 3) := by decide +kernel
theorem d_Se_defence_8 : decode b_Se_defence 8 = .ok (.ifCond .ne 5, 3) := by decide +kernel
theorem d_Se_defence_11 : decode b_Se_defence 11 = .ok (.iconst 0, 1) := by decide +kernel
theorem d_Se_defence_12 : decode b_Se_defence 12 = .ok (.ireturn, 1) := by decide +kernel
theorem d_Se_defence_13 : decode b_Se_defence 13 = .ok (.aload_n 0, 1) := by decide +kernel
theorem d_Se_defence_14 : decode b_Se_defence 14 = .ok (.getfield 66, 3) := by decide +kernel
theorem d_Se_defence_17 : decode b_Se_defence 17 = .ok (.iload_n 1, 1) := by decide +kernel
theorem d_Se_defence_18 : decode b_Se_defence 18 = .ok (.invokestatic 83, 3) := by decide +kernel
theorem d_Se_defence_21 : decode b_Se_defence 21 = .ok (.ifCond .eq 36, 3) := by decide +kernel
theorem d_Se_defence_24 : decode b_Se_defence 24 = .ok (.iload_n 2, 1) := by decide +kernel
theorem d_Se_defence_25 : decode b_Se_defence 25 = .ok (.ifCond .eq 10, 3) := by decide +kernel
theorem d_Se_defence_28 : decode b_Se_defence 28 = .ok (.aload_n 0, 1) := by decide +kernel
theorem d_Se_defence_29 : decode b_Se_defence 29 = .ok (.getfield 63, 3) := by decide +kernel
theorem d_Se_defence_32 : decode b_Se_defence 32 = .ok (.goto 12, 3) := by decide +kernel
theorem d_Se_defence_35 : decode b_Se_defence 35 = .ok (.aload_n 0, 1) := by decide +kernel
theorem d_Se_defence_36 : decode b_Se_defence 36 = .ok (.getfield 63, 3) := by decide +kernel
theorem d_Se_defence_39 : decode b_Se_defence 39 = .ok (.aload_n 0, 1) := by decide +kernel
theorem d_Se_defence_40 : decode b_Se_defence 40 = .ok (.getfield 53, 3) := by decide +kernel
theorem d_Se_defence_43 : decode b_Se_defence 43 = .ok (.ior, 1) := by decide +kernel
theorem d_Se_defence_44 : decode b_Se_defence 44 = .ok (.iload_n 1, 1) := by decide +kernel
theorem d_Se_defence_45 : decode b_Se_defence 45 = .ok (.invokestatic 83, 3) := by decide +kernel
theorem d_Se_defence_48 : decode b_Se_defence 48 = .ok (.ifCond .eq 7, 3) := by decide +kernel
theorem d_Se_defence_51 : decode b_Se_defence 51 = .ok (.iconst 0, 1) := by decide +kernel
theorem d_Se_defence_52 : decode b_Se_defence 52 = .ok (.goto 4, 3) := by decide +kernel
theorem d_Se_defence_55 : decode b_Se_defence 55 = .ok (.iconst 1, 1) := by decide +kernel
theorem d_Se_defence_56 : decode b_Se_defence 56 = .ok (.ireturn, 1) := by decide +kernel
theorem d_Se_defence_57 : decode b_Se_defence 57 = .ok (.aload_n 0, 1) := by decide +kernel
theorem d_Se_defence_58 : decode b_Se_defence 58 = .ok (.iload_n 1, 1) := by decide +kernel
theorem d_Se_defence_59 : decode b_Se_defence 59 = .ok (.iconst 0, 1) := by decide +kernel
theorem d_Se_defence_60 : decode b_Se_defence 60 = .ok (.iload_n 2, 1) := by decide +kernel
theorem d_Se_defence_61 : decode b_Se_defence 61 = .ok (.invokevirtual 186, 3) := by decide +kernel
theorem d_Se_defence_64 : decode b_Se_defence 64 = .ok (.ireturn, 1) := by decide +kernel
theorem wd_105 : (Cond.fieldLink "SheetWar$Settling" (80 : Nat) "SheetWar$Settling" "standing" "I") ∈ TB := tb_t 105 (by decide +kernel) (by decide +kernel)
theorem wd_106 : (Cond.fieldLink "SheetWar$Settling" (66 : Nat) "SheetWar$Settling" "moves" "I") ∈ TB := tb_t 106 (by decide +kernel) (by decide +kernel)
set_option maxHeartbeats 4000000 in
set_option maxRecDepth 100000 in
theorem c_Se_defence (l : Launch) (D : va_G) (cI cZ cJ cS : ClassId) (aT : Nat) (ceT : Cell) (h0 qm qs q1 q2 q3 q4 q5 : Nat) (St Mv Sm Ho Su Op Sd Od Sp Oq : Nat → Bool) (Bk : Nat → Nat → Bool) (ms : Bool) (a : Nat)  (h_a : a < 12) : Met l y_Se_defence w_Se_defence ({ frames := 2, cells := 0, slots := 0, locals := 44 }) (tP D cI cZ cJ cS aT ceT [.ref h0, .int (nI a), .int (bI ms)] [(h0, .inr (2, [.ref qm, .ref qs, .int (mI St), .int (mI Mv), .int (mI Sm), .int (mI Ho), .ref q1, .ref q2, .ref q3, .ref q4, .int (mI Su), .int (mI Op), .int (mI Sd), .int (mI Od), .int (mI Sp), .int (mI Oq), .ref q5])), (q2, .inl (cI, 12, .inl (fun j => mI (Bk j))))]) (vp_Si (fun r => r = nI (dfcC Bk Su Op St Mv ms a))) 0 0 (fun _ => False) := by
  refine Met.ofW (cc := b_Se_defence) (maxL := 3) (ret := (some .int)) (by decide) rfl ?_
  intro p e s m args below meth c s₁ B hml hv
  obtain ⟨rfl, hP, hK, hX⟩ := hv
  have hx := B.exec
  have hb := B.bytes
  have hr := B.returns
  have hts0 := atoms_spec (ws := w_Se_defence) B.pre
  have hts : ∀ w ∈ TB, w.before _ s = true := fun w h => hts0 w (List.mem_cons_of_mem _ h)
  have hown : s.vm.findClass R_Se = some m.cls := findClass_of_methodNamed B.named
  have hlocks := B.notSynchronized
  have hXH : s.heap[aT]? = s.heap[aT]? := rfl
  have hl := lv_entry ([.ref h0, .int (nI a), .int (bI ms)]) (n := 3) (Nat.le_of_ble_eq_true rfl)
  rw [lg_entry_eq]
  generalize (lg_sl ([.ref h0, .int (nI a), .int (bI ms)]) ++ List.replicate (3 - (lg_sl ([.ref h0, .int (nI a), .int (bI ms)])).length) Slot.unset).toArray = ls at hl ⊢
  have hl : lv_has ls 3 [(0, .ref h0), (1, .int (nI a)), (2, .int (bI ms))] := hl
  refine lv_aload_n hx hb d_Se_defence_0 rfl (lv_at hl 0 rfl) ?_
  refine va_get (D := D) (ci := 2) (v := .int (mI St)) (C := R_Se) (T := T_Se) (N := 17) hx hb hts hin_Se hown hK hP 0 rfl rfl 2 (by decide) (hts _ wd_105) (fun _ h9 => h9) rfl d_Se_defence_1 ?_
  refine lv_iload_n hx hb d_Se_defence_4 rfl (lv_at hl 1 rfl) ?_
  have hPc := hP.sub (ws' := []) [] rfl
  refine vp_callSi (va_Run.run (va_runSN (As := [.int (mI St), .int (nI a)]) (rest := []) ⟨hx, hb, hml, hown, hts⟩ (c_Sw_in l D cI cZ cJ cS aT ceT  St a h_a) (⟨va_cnB 2 hts (tb_c wd_285) rfl rfl rfl hX.2.2.2.2.2.2.2.1 (hts _ wd_1) ⟨by decide, by decide, by decide +kernel⟩ ⟨Nat.le_of_ble_eq_true rfl, Nat.le_of_ble_eq_true rfl⟩, hts _ wd_284, trivial⟩) (tP_S hK hX hXH hPc) rfl rfl hl.1 rfl (lv_room (Nat.le_of_ble_eq_true rfl)) d_Se_defence_5 ⟨Nat.le_of_ble_eq_true rfl, Nat.le_of_ble_eq_true rfl⟩)) (fun r1 hr9 => ?_)
  rw [hr9]
  rcases bI_c (St a) with ⟨hb3, e9⟩ | ⟨hb3, e9⟩
  · refine tr_top e9 ?_
    refine lv_if_ne (tgt := 13) hx hb d_Se_defence_8 (by decide) (fun _ => ?_) (fun h0 => absurd h0 (by decide))
    refine lv_aload_n hx hb d_Se_defence_13 rfl (lv_at hl 0 rfl) ?_
    refine va_get (D := D) (ci := 2) (v := .int (mI Mv)) (C := R_Se) (T := T_Se) (N := 17) hx hb hts hin_Se hown hK hP 0 rfl rfl 3 (by decide) (hts _ wd_106) (fun _ h9 => h9) rfl d_Se_defence_14 ?_
    refine lv_iload_n hx hb d_Se_defence_17 rfl (lv_at hl 1 rfl) ?_
    have hPc := hP.sub (ws' := []) [] rfl
    refine vp_callSi (va_Run.run (va_runSN (As := [.int (mI Mv), .int (nI a)]) (rest := []) ⟨hx, hb, hml, hown, hts⟩ (c_Sw_in l D cI cZ cJ cS aT ceT  Mv a h_a) (⟨va_cnB 2 hts (tb_c wd_285) rfl rfl rfl hX.2.2.2.2.2.2.2.1 (hts _ wd_1) ⟨by decide, by decide, by decide +kernel⟩ ⟨Nat.le_of_ble_eq_true rfl, Nat.le_of_ble_eq_true rfl⟩, hts _ wd_284, trivial⟩) (tP_S hK hX hXH hPc) rfl rfl hl.1 rfl (lv_room (Nat.le_of_ble_eq_true rfl)) d_Se_defence_18 ⟨Nat.le_of_ble_eq_true rfl, Nat.le_of_ble_eq_true rfl⟩)) (fun r5 hr9 => ?_)
    rw [hr9]
    rcases bI_c (Mv a) with ⟨hb7, e9⟩ | ⟨hb7, e9⟩
    · refine tr_top e9 ?_
      refine lv_if_eq (tgt := 57) hx hb d_Se_defence_21 (by decide) (fun h0 => absurd h0 (by decide)) (fun _ => ?_)
      refine lv_iload_n hx hb d_Se_defence_24 rfl (lv_at hl 2 rfl) ?_
      rcases bI_c (ms) with ⟨hb10, e9⟩ | ⟨hb10, e9⟩
      · refine tr_top e9 ?_
        refine lv_if_eq (tgt := 35) hx hb d_Se_defence_25 (by decide) (fun h0 => absurd h0 (by decide)) (fun _ => ?_)
        refine lv_aload_n hx hb d_Se_defence_28 rfl (lv_at hl 0 rfl) ?_
        refine va_get (D := D) (ci := 2) (v := .int (mI Su)) (C := R_Se) (T := T_Se) (N := 17) hx hb hts hin_Se hown hK hP 0 rfl rfl 10 (by decide) (hts _ wd_113) (fun _ h9 => h9) rfl d_Se_defence_29 ?_
        refine lv_goto (tgt := 44) hx hb d_Se_defence_32 (by decide) ?_
        refine lv_iload_n hx hb d_Se_defence_44 rfl (lv_at hl 1 rfl) ?_
        have hPc := hP.sub (ws' := []) [] rfl
        refine vp_callSi (va_Run.run (va_runSN (As := [.int (mI Su), .int (nI a)]) (rest := []) ⟨hx, hb, hml, hown, hts⟩ (c_Sw_in l D cI cZ cJ cS aT ceT  Su a h_a) (⟨va_cnB 2 hts (tb_c wd_285) rfl rfl rfl hX.2.2.2.2.2.2.2.1 (hts _ wd_1) ⟨by decide, by decide, by decide +kernel⟩ ⟨Nat.le_of_ble_eq_true rfl, Nat.le_of_ble_eq_true rfl⟩, hts _ wd_284, trivial⟩) (tP_S hK hX hXH hPc) rfl rfl hl.1 rfl (lv_room (Nat.le_of_ble_eq_true rfl)) d_Se_defence_45 ⟨Nat.le_of_ble_eq_true rfl, Nat.le_of_ble_eq_true rfl⟩)) (fun r12 hr9 => ?_)
        rw [hr9]
        rcases bI_c (Su a) with ⟨hb14, e9⟩ | ⟨hb14, e9⟩
        · refine tr_top e9 ?_
          refine lv_if_eq (tgt := 55) hx hb d_Se_defence_48 (by decide) (fun h0 => absurd h0 (by decide)) (fun _ => ?_)
          refine lv_iconst (v := 0) hx hb d_Se_defence_51 (by decide) ?_
          refine lv_goto (tgt := 56) hx hb d_Se_defence_52 (by decide) ?_
          exact W.iret (v := 0) hx hb hr (fun t ht hW => ⟨0, rfl, show nI 0 = _ from congrArg nI (by simp [dfcC, hb3, hb7, hb10, hb14]), ht⟩) (fun q hq => by cases hq) d_Se_defence_56
        · refine tr_top e9 ?_
          refine lv_if_eq (tgt := 55) hx hb d_Se_defence_48 (by decide) (fun _ => ?_) (fun h0 => absurd (by decide) h0)
          refine lv_iconst (v := 1) hx hb d_Se_defence_55 (by decide) ?_
          exact W.iret (v := 1) hx hb hr (fun t ht hW => ⟨1, rfl, show nI 1 = _ from congrArg nI (by simp [dfcC, hb3, hb7, hb10, hb14]), ht⟩) (fun q hq => by cases hq) d_Se_defence_56
      · refine tr_top e9 ?_
        refine lv_if_eq (tgt := 35) hx hb d_Se_defence_25 (by decide) (fun _ => ?_) (fun h0 => absurd (by decide) h0)
        refine lv_aload_n hx hb d_Se_defence_35 rfl (lv_at hl 0 rfl) ?_
        refine va_get (D := D) (ci := 2) (v := .int (mI Su)) (C := R_Se) (T := T_Se) (N := 17) hx hb hts hin_Se hown hK hP 0 rfl rfl 10 (by decide) (hts _ wd_113) (fun _ h9 => h9) rfl d_Se_defence_36 ?_
        refine lv_aload_n hx hb d_Se_defence_39 rfl (lv_at hl 0 rfl) ?_
        refine va_get (D := D) (ci := 2) (v := .int (mI Op)) (C := R_Se) (T := T_Se) (N := 17) hx hb hts hin_Se hown hK hP 0 rfl rfl 11 (by decide) (hts _ wd_114) (fun _ h9 => h9) rfl d_Se_defence_40 ?_
        refine lv_ior hx hb d_Se_defence_43 ?_
        refine tr_top (y := mI (fun j => Su j || Op j)) (mI_or _ _) ?_
        refine lv_iload_n hx hb d_Se_defence_44 rfl (lv_at hl 1 rfl) ?_
        have hPc := hP.sub (ws' := []) [] rfl
        refine vp_callSi (va_Run.run (va_runSN (As := [.int (mI (fun j => Su j || Op j)), .int (nI a)]) (rest := []) ⟨hx, hb, hml, hown, hts⟩ (c_Sw_in l D cI cZ cJ cS aT ceT  (fun j => Su j || Op j) a h_a) (⟨va_cnB 2 hts (tb_c wd_285) rfl rfl rfl hX.2.2.2.2.2.2.2.1 (hts _ wd_1) ⟨by decide, by decide, by decide +kernel⟩ ⟨Nat.le_of_ble_eq_true rfl, Nat.le_of_ble_eq_true rfl⟩, hts _ wd_284, trivial⟩) (tP_S hK hX hXH hPc) rfl rfl hl.1 rfl (lv_room (Nat.le_of_ble_eq_true rfl)) d_Se_defence_45 ⟨Nat.le_of_ble_eq_true rfl, Nat.le_of_ble_eq_true rfl⟩)) (fun r18 hr9 => ?_)
        rw [hr9]
        rcases bI_c ((fun j => Su j || Op j) a) with ⟨hb20, e9⟩ | ⟨hb20, e9⟩
        · refine tr_top e9 ?_
          refine lv_if_eq (tgt := 55) hx hb d_Se_defence_48 (by decide) (fun h0 => absurd h0 (by decide)) (fun _ => ?_)
          refine lv_iconst (v := 0) hx hb d_Se_defence_51 (by decide) ?_
          refine lv_goto (tgt := 56) hx hb d_Se_defence_52 (by decide) ?_
          exact W.iret (v := 0) hx hb hr (fun t ht hW => ⟨0, rfl, show nI 0 = _ from congrArg nI (by simp [dfcC, hb3, hb7, hb10, hb20]), ht⟩) (fun q hq => by cases hq) d_Se_defence_56
        · refine tr_top e9 ?_
          refine lv_if_eq (tgt := 55) hx hb d_Se_defence_48 (by decide) (fun _ => ?_) (fun h0 => absurd (by decide) h0)
          refine lv_iconst (v := 1) hx hb d_Se_defence_55 (by decide) ?_
          exact W.iret (v := 1) hx hb hr (fun t ht hW => ⟨1, rfl, show nI 1 = _ from congrArg nI (by simp [dfcC, hb3, hb7, hb10, hb20]), ht⟩) (fun q hq => by cases hq) d_Se_defence_56
    · refine tr_top e9 ?_
      refine lv_if_eq (tgt := 57) hx hb d_Se_defence_21 (by decide) (fun _ => ?_) (fun h0 => absurd (by decide) h0)
      refine lv_aload_n hx hb d_Se_defence_57 rfl (lv_at hl 0 rfl) ?_
      refine lv_iload_n hx hb d_Se_defence_58 rfl (lv_at hl 1 rfl) ?_
      refine lv_iconst (v := 0) hx hb d_Se_defence_59 (by decide) ?_
      refine tr_top (y := mI (fun _ => false)) mI_0.symm ?_
      refine lv_iload_n hx hb d_Se_defence_60 rfl (lv_at hl 2 rfl) ?_
      have hPc := hP.sub (ws' := [(h0, .inr (2, [.ref qm, .ref qs, .int (mI St), .int (mI Mv), .int (mI Sm), .int (mI Ho), .ref q1, .ref q2, .ref q3, .ref q4, .int (mI Su), .int (mI Op), .int (mI Sd), .int (mI Od), .int (mI Sp), .int (mI Oq), .ref q5])), (q2, .inl (cI, 12, .inl (fun j => mI (Bk j))))]) [0, 1] rfl
      refine vp_callSi (va_Run.run (va_runV (As := [.int (nI a), .int (mI (fun _ => false)), .int (bI ms)]) (rest := []) ⟨hx, hb, hml, hown, hts⟩ (c_Se_force l D cI cZ cJ cS aT ceT  h0 qm qs q1 q2 q3 q4 q5 St Mv Sm Ho Su Op Sd Od Sp Oq Bk (fun _ => false) ms a h_a) (cwV 3 hts (tb_4 wd_552 wd_554 wp_16 wd_5 (tb_c wd_555)) rfl rfl rfl ⟨rfl, by decide, by decide, by decide +kernel⟩ ⟨Nat.le_of_ble_eq_true rfl, Nat.le_of_ble_eq_true rfl⟩) (tP_V hK hX hXH hPc (q := 0) rfl rfl) rfl rfl hl.1 rfl (lv_room (Nat.le_of_ble_eq_true rfl)) d_Se_defence_61 ⟨Nat.le_of_ble_eq_true rfl, Nat.le_of_ble_eq_true rfl⟩)) (fun r24 hr9 => ?_)
      rw [hr9]
      exact W.iret (v := nI (frcC Bk Su Op (fun _ => false) ms a)) hx hb hr (fun t ht hW => ⟨nI (frcC Bk Su Op (fun _ => false) ms a), rfl, congrArg nI (by simp [dfcC, hb3, hb7]), ht⟩) (fun q hq => by cases hq) d_Se_defence_64
  · refine tr_top e9 ?_
    refine lv_if_ne (tgt := 13) hx hb d_Se_defence_8 (by decide) (fun h0 => absurd (by decide) h0) (fun _ => ?_)
    refine lv_iconst (v := 0) hx hb d_Se_defence_11 (by decide) ?_
    exact W.iret (v := 0) hx hb hr (fun t ht hW => ⟨0, rfl, show nI 0 = _ from congrArg nI (by simp [dfcC, hb3]), ht⟩) (fun q hq => by cases hq) d_Se_defence_12

theorem d_Se_attack_0 : decode b_Se_attack 0 = .ok (.iload_n 2, 1) := by decide +kernel
theorem d_Se_attack_1 : decode b_Se_attack 1 = .ok (.ifCond .eq 15, 3) := by decide +kernel
theorem d_Se_attack_4 : decode b_Se_attack 4 = .ok (.aload_n 0, 1) := by decide +kernel
theorem d_Se_attack_5 : decode b_Se_attack 5 = .ok (.getfield 124, 3) := by decide +kernel
theorem d_Se_attack_8 : decode b_Se_attack 8 = .ok (.aload_n 0, 1) := by decide +kernel
theorem d_Se_attack_9 : decode b_Se_attack 9 = .ok (.getfield 177, 3) := by decide +kernel
theorem d_Se_attack_12 : decode b_Se_attack 12 = .ok (.ior, 1) := by decide +kernel
theorem d_Se_attack_13 : decode b_Se_attack 13 = .ok (.goto 7, 3) := by decide +kernel
theorem d_Se_attack_16 : decode b_Se_attack 16 = .ok (.aload_n 0, 1) := by decide +kernel
theorem d_Se_attack_17 : decode b_Se_attack 17 = .ok (.getfield 124, 3) := by decide +kernel
theorem d_Se_attack_20 : decode b_Se_attack 20 = .ok (.iload_n 1, 1) := by decide +kernel
theorem d_Se_attack_21 : decode b_Se_attack 21 = .ok (.invokestatic 83, 3) := by decide +kernel
theorem d_Se_attack_24 : decode b_Se_attack 24 = .ok (.ifCond .ne 5, 3) := by decide +kernel
theorem d_Se_attack_27 : decode b_Se_attack 27 = .ok (.iconst 0, 1) := by decide +kernel
theorem d_Se_attack_28 : decode b_Se_attack 28 = .ok (.ireturn, 1) := by decide +kernel
theorem d_Se_attack_29 : decode b_Se_attack 29 = .ok (.aload_n 0, 1) := by decide +kernel
theorem d_Se_attack_30 : decode b_Se_attack 30 = .ok (.getfield 31, 3) := by decide +kernel
theorem d_Se_attack_33 : decode b_Se_attack 33 = .ok (.getfield 105, 3) := by decide +kernel
theorem d_Se_attack_36 : decode b_Se_attack 36 = .ok (.iload_n 1, 1) := by decide +kernel
theorem d_Se_attack_37 : decode b_Se_attack 37 = .ok (.iaload, 1) := by decide +kernel
theorem d_Se_attack_38 : decode b_Se_attack 38 = .ok (.istore_n 3, 1) := by decide +kernel
theorem d_Se_attack_39 : decode b_Se_attack 39 = .ok (.aload_n 0, 1) := by decide +kernel
theorem d_Se_attack_40 : decode b_Se_attack 40 = .ok (.getfield 66, 3) := by decide +kernel
theorem d_Se_attack_43 : decode b_Se_attack 43 = .ok (.iload_n 2, 1) := by decide +kernel
theorem d_Se_attack_44 : decode b_Se_attack 44 = .ok (.ifCond .eq 15, 3) := by decide +kernel
theorem d_Se_attack_47 : decode b_Se_attack 47 = .ok (.aload_n 0, 1) := by decide +kernel
theorem d_Se_attack_48 : decode b_Se_attack 48 = .ok (.getfield 63, 3) := by decide +kernel
theorem d_Se_attack_51 : decode b_Se_attack 51 = .ok (.aload_n 0, 1) := by decide +kernel
theorem d_Se_attack_52 : decode b_Se_attack 52 = .ok (.getfield 53, 3) := by decide +kernel
theorem d_Se_attack_55 : decode b_Se_attack 55 = .ok (.ior, 1) := by decide +kernel
theorem d_Se_attack_56 : decode b_Se_attack 56 = .ok (.goto 7, 3) := by decide +kernel
theorem d_Se_attack_59 : decode b_Se_attack 59 = .ok (.aload_n 0, 1) := by decide +kernel
theorem d_Se_attack_60 : decode b_Se_attack 60 = .ok (.getfield 63, 3) := by decide +kernel
theorem d_Se_attack_63 : decode b_Se_attack 63 = .ok (.iand, 1) := by decide +kernel
theorem d_Se_attack_64 : decode b_Se_attack 64 = .ok (.istore 4, 2) := by decide +kernel
theorem d_Se_attack_66 : decode b_Se_attack 66 = .ok (.aload_n 0, 1) := by decide +kernel
theorem d_Se_attack_67 : decode b_Se_attack 67 = .ok (.getfield 80, 3) := by decide +kernel
theorem d_Se_attack_70 : decode b_Se_attack 70 = .ok (.iload_n 3, 1) := by decide +kernel
theorem d_Se_attack_71 : decode b_Se_attack 71 = .ok (.invokestatic 83, 3) := by decide +kernel
theorem d_Se_attack_74 : decode b_Se_attack 74 = .ok (.ifCond .eq 23, 3) := by decide +kernel
theorem d_Se_attack_77 : decode b_Se_attack 77 = .ok (.iload 4, 2) := by decide +kernel
theorem d_Se_attack_79 : decode b_Se_attack 79 = .ok (.iload_n 3, 1) := by decide +kernel
theorem d_Se_attack_80 : decode b_Se_attack 80 = .ok (.invokestatic 83, 3) := by decide +kernel
theorem d_Se_attack_83 : decode b_Se_attack 83 = .ok (.ifCond .eq 22, 3) := by decide +kernel
theorem d_Se_attack_86 : decode b_Se_attack 86 = .ok (.aload_n 0, 1) := by decide +kernel
theorem d_Se_attack_87 : decode b_Se_attack 87 = .ok (.getfield 134, 3) := by decide +kernel
theorem d_Se_attack_90 : decode b_Se_attack 90 = .ok (.iload_n 1, 1) := by decide +kernel
theorem d_Se_attack_91 : decode b_Se_attack 91 = .ok (.invokestatic 83, 3) := by decide +kernel
theorem d_Se_attack_94 : decode b_Se_attack 94 = .ok (.ifCond .ne 11, 3) := by decide +kernel
theorem d_Se_attack_97 : decode b_Se_attack 97 = .ok (.aload_n 0, 1) := by decide +kernel
theorem d_Se_attack_98 : decode b_Se_attack 98 = .ok (.iload_n 1, 1) := by decide +kernel
theorem d_Se_attack_99 : decode b_Se_attack 99 = .ok (.iconst 0, 1) := by decide +kernel
theorem d_Se_attack_100 : decode b_Se_attack 100 = .ok (.iload_n 2, 1) := by decide +kernel
theorem d_Se_attack_101 : decode b_Se_attack 101 = .ok (.invokevirtual 186, 3) := by decide +kernel
theorem d_Se_attack_104 : decode b_Se_attack 104 = .ok (.ireturn, 1) := by decide +kernel
theorem d_Se_attack_105 : decode b_Se_attack 105 = .ok (.aload_n 0, 1) := by decide +kernel
theorem d_Se_attack_106 : decode b_Se_attack 106 = .ok (.getfield 31, 3) := by decide +kernel
theorem d_Se_attack_109 : decode b_Se_attack 109 = .ok (.iload_n 3, 1) := by decide +kernel
theorem d_Se_attack_110 : decode b_Se_attack 110 = .ok (.invokevirtual 143, 3) := by decide +kernel
theorem d_Se_attack_113 : decode b_Se_attack 113 = .ok (.istore 5, 2) := by decide +kernel
theorem d_Se_attack_115 : decode b_Se_attack 115 = .ok (.iload 5, 2) := by decide +kernel
theorem d_Se_attack_117 : decode b_Se_attack 117 = .ok (.aload_n 0, 1) := by decide +kernel
theorem d_Se_attack_118 : decode b_Se_attack 118 = .ok (.getfield 31, 3) := by decide +kernel
theorem d_Se_attack_121 : decode b_Se_attack 121 = .ok (.iload_n 1, 1) := by decide +kernel
theorem d_Se_attack_122 : decode b_Se_attack 122 = .ok (.invokevirtual 143, 3) := by decide +kernel
theorem d_Se_attack_125 : decode b_Se_attack 125 = .ok (.if_icmp .ne 5, 3) := by decide +kernel
theorem d_Se_attack_128 : decode b_Se_attack 128 = .ok (.iconst 0, 1) := by decide +kernel
theorem d_Se_attack_129 : decode b_Se_attack 129 = .ok (.ireturn, 1) := by decide +kernel
theorem d_Se_attack_130 : decode b_Se_attack 130 = .ok (.aload_n 0, 1) := by decide +kernel
theorem d_Se_attack_131 : decode b_Se_attack 131 = .ok (.iload_n 1, 1) := by decide +kernel
theorem d_Se_attack_132 : decode b_Se_attack 132 = .ok (.aload_n 0, 1) := by decide +kernel
theorem d_Se_attack_133 : decode b_Se_attack 133 = .ok (.getfield 21, 3) := by decide +kernel
theorem d_Se_attack_136 : decode b_Se_attack 136 = .ok (.iload 5, 2) := by decide +kernel
theorem d_Se_attack_138 : decode b_Se_attack 138 = .ok (.iaload, 1) := by decide +kernel
theorem d_Se_attack_139 : decode b_Se_attack 139 = .ok (.iload_n 2, 1) := by decide +kernel
theorem d_Se_attack_140 : decode b_Se_attack 140 = .ok (.invokevirtual 186, 3) := by decide +kernel
theorem d_Se_attack_143 : decode b_Se_attack 143 = .ok (.ireturn, 1) := by decide +kernel
theorem wd_516 : (Cond.methodLink "SheetWar$Settling" (143 : Nat) ({ cls := "SheetWar$Sheet", name := "playerAt", desc := "(I)I" } : MethodName)) ∈ TB := tb_t 516 (by decide +kernel) (by decide +kernel)
set_option maxHeartbeats 4000000 in
set_option maxRecDepth 100000 in
theorem c_Se_attack (l : Launch) (D : va_G) (cI cZ cJ cS : ClassId) (aT : Nat) (ceT : Cell) (h0 qm qs q1 q2 q3 q4 q5 : Nat) (St Mv Sm Ho Su Op Sd Od Sp Oq : Nat → Bool) (Bk : Nat → Nat → Bool) (Up : Nat → Nat → Bool) (tn : Int32) (qu qo qx qy qr qw : Nat) (X : Nat → Nat) (Hu : Nat → Bool) (P Kd : Nat → Nat) (ms : Bool) (a : Nat) (hX12 : ∀ j, X j < 12) (hP4 : ∀ j, P j < 4) (hK2 : ∀ j, Kd j < 2) (h_a : a < 12) : Met l y_Se_attack w_Se_attack ({ frames := 2, cells := 0, slots := 0, locals := 44 }) (tP D cI cZ cJ cS aT ceT [.ref h0, .int (nI a), .int (bI ms)] [(h0, .inr (2, [.ref qm, .ref qs, .int (mI St), .int (mI Mv), .int (mI Sm), .int (mI Ho), .ref q1, .ref q2, .ref q3, .ref q4, .int (mI Su), .int (mI Op), .int (mI Sd), .int (mI Od), .int (mI Sp), .int (mI Oq), .ref q5])), (q2, .inl (cI, 12, .inl (fun j => mI (Bk j)))), (q4, .inl (cI, 4, .inl (fun j => mI (Up j)))), (qs, .inr (3, [.int tn, .ref qu, .ref qo, .ref qx, .ref qy, .ref qr, .ref qw])), (qx, .inl (cI, 12, .inl (fun j => nI (X j)))), (qu, .inl (cI, 12, .inl (fun j => unI (Hu j) (P j) (Kd j))))]) (vp_Si (fun r => r = nI (atkC Bk Up Su Op Sp Oq St Mv Ho Hu X P ms a))) 0 0 (fun _ => False) := by
  refine Met.ofW (cc := b_Se_attack) (maxL := 6) (ret := (some .int)) (by decide) rfl ?_
  intro p e s m args below meth c s₁ B hml hv
  obtain ⟨rfl, hP, hK, hX⟩ := hv
  have hx := B.exec
  have hb := B.bytes
  have hr := B.returns
  have hts0 := atoms_spec (ws := w_Se_attack) B.pre
  have hts : ∀ w ∈ TB, w.before _ s = true := fun w h => hts0 w (List.mem_cons_of_mem _ h)
  have hown : s.vm.findClass R_Se = some m.cls := findClass_of_methodNamed B.named
  have hlocks := B.notSynchronized
  have hXH : s.heap[aT]? = s.heap[aT]? := rfl
  have hl := lv_entry ([.ref h0, .int (nI a), .int (bI ms)]) (n := 6) (Nat.le_of_ble_eq_true rfl)
  rw [lg_entry_eq]
  generalize (lg_sl ([.ref h0, .int (nI a), .int (bI ms)]) ++ List.replicate (6 - (lg_sl ([.ref h0, .int (nI a), .int (bI ms)])).length) Slot.unset).toArray = ls at hl ⊢
  have hl : lv_has ls 6 [(0, .ref h0), (1, .int (nI a)), (2, .int (bI ms))] := hl
  refine lv_iload_n hx hb d_Se_attack_0 rfl (lv_at hl 2 rfl) ?_
  rcases bI_c (ms) with ⟨hb2, e9⟩ | ⟨hb2, e9⟩
  · refine tr_top e9 ?_
    refine lv_if_eq (tgt := 16) hx hb d_Se_attack_1 (by decide) (fun h0 => absurd h0 (by decide)) (fun _ => ?_)
    refine lv_aload_n hx hb d_Se_attack_4 rfl (lv_at hl 0 rfl) ?_
    refine va_get (D := D) (ci := 2) (v := .int (mI Sp)) (C := R_Se) (T := T_Se) (N := 17) hx hb hts hin_Se hown hK hP 0 rfl rfl 14 (by decide) (hts _ wd_117) (fun _ h9 => h9) rfl d_Se_attack_5 ?_
    refine lv_aload_n hx hb d_Se_attack_8 rfl (lv_at hl 0 rfl) ?_
    refine va_get (D := D) (ci := 2) (v := .int (mI Oq)) (C := R_Se) (T := T_Se) (N := 17) hx hb hts hin_Se hown hK hP 0 rfl rfl 15 (by decide) (hts _ wd_118) (fun _ h9 => h9) rfl d_Se_attack_9 ?_
    refine lv_ior hx hb d_Se_attack_12 ?_
    refine tr_top (y := mI (fun j => Sp j || Oq j)) (mI_or _ _) ?_
    refine lv_goto (tgt := 20) hx hb d_Se_attack_13 (by decide) ?_
    refine lv_iload_n hx hb d_Se_attack_20 rfl (lv_at hl 1 rfl) ?_
    have hPc := hP.sub (ws' := []) [] rfl
    refine vp_callSi (va_Run.run (va_runSN (As := [.int (mI (fun j => Sp j || Oq j)), .int (nI a)]) (rest := []) ⟨hx, hb, hml, hown, hts⟩ (c_Sw_in l D cI cZ cJ cS aT ceT  (fun j => Sp j || Oq j) a h_a) (⟨va_cnB 2 hts (tb_c wd_285) rfl rfl rfl hX.2.2.2.2.2.2.2.1 (hts _ wd_1) ⟨by decide, by decide, by decide +kernel⟩ ⟨Nat.le_of_ble_eq_true rfl, Nat.le_of_ble_eq_true rfl⟩, hts _ wd_284, trivial⟩) (tP_S hK hX hXH hPc) rfl rfl hl.1 rfl (lv_room (Nat.le_of_ble_eq_true rfl)) d_Se_attack_21 ⟨Nat.le_of_ble_eq_true rfl, Nat.le_of_ble_eq_true rfl⟩)) (fun r4 hr9 => ?_)
    rw [hr9]
    rcases bI_c ((fun j => Sp j || Oq j) a) with ⟨hb6, e9⟩ | ⟨hb6, e9⟩
    · refine tr_top e9 ?_
      refine lv_if_ne (tgt := 29) hx hb d_Se_attack_24 (by decide) (fun _ => ?_) (fun h0 => absurd h0 (by decide))
      refine lv_aload_n hx hb d_Se_attack_29 rfl (lv_at hl 0 rfl) ?_
      refine va_get (D := D) (ci := 2) (v := .ref qs) (C := R_Se) (T := T_Se) (N := 17) hx hb hts hin_Se hown hK hP 0 rfl rfl 1 (by decide) (hts _ wd_104) (fun _ h9 => h9) rfl d_Se_attack_30 ?_
      refine va_get (D := D) (ci := 3) (v := .ref qx) (C := R_Sh) (T := T_Sh) (N := 7) hx hb hts hin_Sh hown hK hP 3 rfl rfl 3 (by decide) (hts _ wd_72) (fun _ h9 => h9) rfl d_Se_attack_33 ?_
      refine lv_iload_n hx hb d_Se_attack_36 rfl (lv_at hl 1 rfl) ?_
      refine tr_iald (v := nI (X a)) hx hb hK hP 4 0 rfl rfl a h_a (by decide) rfl d_Se_attack_37 ?_
      refine lv_istore_n (lv' := [(3, .int (nI (X a))), (0, .ref h0), (1, .int (nI a)), (2, .int (bI ms))]) hx hb d_Se_attack_38 rfl hl (by decide) rfl (fun ls hl => ?_)
      refine lv_aload_n hx hb d_Se_attack_39 rfl (lv_at hl 1 rfl) ?_
      refine va_get (D := D) (ci := 2) (v := .int (mI Mv)) (C := R_Se) (T := T_Se) (N := 17) hx hb hts hin_Se hown hK hP 0 rfl rfl 3 (by decide) (hts _ wd_106) (fun _ h9 => h9) rfl d_Se_attack_40 ?_
      refine lv_iload_n hx hb d_Se_attack_43 rfl (lv_at hl 3 rfl) ?_
      refine tr_top (bI_t hb2) ?_
      refine lv_if_eq (tgt := 59) hx hb d_Se_attack_44 (by decide) (fun h0 => absurd h0 (by decide)) (fun _ => ?_)
      refine lv_aload_n hx hb d_Se_attack_47 rfl (lv_at hl 1 rfl) ?_
      refine va_get (D := D) (ci := 2) (v := .int (mI Su)) (C := R_Se) (T := T_Se) (N := 17) hx hb hts hin_Se hown hK hP 0 rfl rfl 10 (by decide) (hts _ wd_113) (fun _ h9 => h9) rfl d_Se_attack_48 ?_
      refine lv_aload_n hx hb d_Se_attack_51 rfl (lv_at hl 1 rfl) ?_
      refine va_get (D := D) (ci := 2) (v := .int (mI Op)) (C := R_Se) (T := T_Se) (N := 17) hx hb hts hin_Se hown hK hP 0 rfl rfl 11 (by decide) (hts _ wd_114) (fun _ h9 => h9) rfl d_Se_attack_52 ?_
      refine lv_ior hx hb d_Se_attack_55 ?_
      refine tr_top (y := mI (fun j => Su j || Op j)) (mI_or _ _) ?_
      refine lv_goto (tgt := 63) hx hb d_Se_attack_56 (by decide) ?_
      refine lv_iand hx hb d_Se_attack_63 ?_
      refine tr_top (y := mI (fun j => Mv j && (Su j || Op j))) (mI_and _ _) ?_
      refine lv_istore (lv' := [(4, .int (mI (fun j => Mv j && (Su j || Op j)))), (3, .int (nI (X a))), (0, .ref h0), (1, .int (nI a)), (2, .int (bI ms))]) hx hb d_Se_attack_64 hl (by decide) rfl (fun ls hl => ?_)
      refine lv_aload_n hx hb d_Se_attack_66 rfl (lv_at hl 2 rfl) ?_
      refine va_get (D := D) (ci := 2) (v := .int (mI St)) (C := R_Se) (T := T_Se) (N := 17) hx hb hts hin_Se hown hK hP 0 rfl rfl 2 (by decide) (hts _ wd_105) (fun _ h9 => h9) rfl d_Se_attack_67 ?_
      refine lv_iload_n hx hb d_Se_attack_70 rfl (lv_at hl 1 rfl) ?_
      have hPc := hP.sub (ws' := []) [] rfl
      refine vp_callSi (va_Run.run (va_runSN (As := [.int (mI St), .int (nI (X a))]) (rest := []) ⟨hx, hb, hml, hown, hts⟩ (c_Sw_in l D cI cZ cJ cS aT ceT  St (X a) (hX12 _)) (⟨va_cnB 2 hts (tb_c wd_285) rfl rfl rfl hX.2.2.2.2.2.2.2.1 (hts _ wd_1) ⟨by decide, by decide, by decide +kernel⟩ ⟨Nat.le_of_ble_eq_true rfl, Nat.le_of_ble_eq_true rfl⟩, hts _ wd_284, trivial⟩) (tP_S hK hX hXH hPc) rfl rfl hl.1 rfl (lv_room (Nat.le_of_ble_eq_true rfl)) d_Se_attack_71 ⟨Nat.le_of_ble_eq_true rfl, Nat.le_of_ble_eq_true rfl⟩)) (fun r10 hr9 => ?_)
      rw [hr9]
      rcases bI_c (St (X a)) with ⟨hb12, e9⟩ | ⟨hb12, e9⟩
      · refine tr_top e9 ?_
        refine lv_if_eq (tgt := 97) hx hb d_Se_attack_74 (by decide) (fun h0 => absurd h0 (by decide)) (fun _ => ?_)
        refine lv_iload hx hb d_Se_attack_77 (lv_at hl 0 rfl) ?_
        refine lv_iload_n hx hb d_Se_attack_79 rfl (lv_at hl 1 rfl) ?_
        have hPc := hP.sub (ws' := []) [] rfl
        refine vp_callSi (va_Run.run (va_runSN (As := [.int (mI (fun j => Mv j && (Su j || Op j))), .int (nI (X a))]) (rest := []) ⟨hx, hb, hml, hown, hts⟩ (c_Sw_in l D cI cZ cJ cS aT ceT  (fun j => Mv j && (Su j || Op j)) (X a) (hX12 _)) (⟨va_cnB 2 hts (tb_c wd_285) rfl rfl rfl hX.2.2.2.2.2.2.2.1 (hts _ wd_1) ⟨by decide, by decide, by decide +kernel⟩ ⟨Nat.le_of_ble_eq_true rfl, Nat.le_of_ble_eq_true rfl⟩, hts _ wd_284, trivial⟩) (tP_S hK hX hXH hPc) rfl rfl hl.1 rfl (lv_room (Nat.le_of_ble_eq_true rfl)) d_Se_attack_80 ⟨Nat.le_of_ble_eq_true rfl, Nat.le_of_ble_eq_true rfl⟩)) (fun r14 hr9 => ?_)
        rw [hr9]
        rcases bI_c ((fun j => Mv j && (Su j || Op j)) (X a)) with ⟨hb16, e9⟩ | ⟨hb16, e9⟩
        · refine tr_top e9 ?_
          refine lv_if_eq (tgt := 105) hx hb d_Se_attack_83 (by decide) (fun h0 => absurd h0 (by decide)) (fun _ => ?_)
          refine lv_aload_n hx hb d_Se_attack_86 rfl (lv_at hl 2 rfl) ?_
          refine va_get (D := D) (ci := 2) (v := .int (mI Ho)) (C := R_Se) (T := T_Se) (N := 17) hx hb hts hin_Se hown hK hP 0 rfl rfl 5 (by decide) (hts _ wd_108) (fun _ h9 => h9) rfl d_Se_attack_87 ?_
          refine lv_iload_n hx hb d_Se_attack_90 rfl (lv_at hl 3 rfl) ?_
          have hPc := hP.sub (ws' := []) [] rfl
          refine vp_callSi (va_Run.run (va_runSN (As := [.int (mI Ho), .int (nI a)]) (rest := []) ⟨hx, hb, hml, hown, hts⟩ (c_Sw_in l D cI cZ cJ cS aT ceT  Ho a h_a) (⟨va_cnB 2 hts (tb_c wd_285) rfl rfl rfl hX.2.2.2.2.2.2.2.1 (hts _ wd_1) ⟨by decide, by decide, by decide +kernel⟩ ⟨Nat.le_of_ble_eq_true rfl, Nat.le_of_ble_eq_true rfl⟩, hts _ wd_284, trivial⟩) (tP_S hK hX hXH hPc) rfl rfl hl.1 rfl (lv_room (Nat.le_of_ble_eq_true rfl)) d_Se_attack_91 ⟨Nat.le_of_ble_eq_true rfl, Nat.le_of_ble_eq_true rfl⟩)) (fun r18 hr9 => ?_)
          rw [hr9]
          rcases bI_c (Ho a) with ⟨hb20, e9⟩ | ⟨hb20, e9⟩
          · refine tr_top e9 ?_
            refine lv_if_ne (tgt := 105) hx hb d_Se_attack_94 (by decide) (fun _ => ?_) (fun h0 => absurd h0 (by decide))
            refine lv_aload_n hx hb d_Se_attack_105 rfl (lv_at hl 2 rfl) ?_
            refine va_get (D := D) (ci := 2) (v := .ref qs) (C := R_Se) (T := T_Se) (N := 17) hx hb hts hin_Se hown hK hP 0 rfl rfl 1 (by decide) (hts _ wd_104) (fun _ h9 => h9) rfl d_Se_attack_106 ?_
            refine lv_iload_n hx hb d_Se_attack_109 rfl (lv_at hl 1 rfl) ?_
            have hPc := hP.sub (ws' := [(qs, .inr (3, [.int tn, .ref qu, .ref qo, .ref qx, .ref qy, .ref qr, .ref qw])), (qu, .inl (cI, 12, .inl (fun j => unI (Hu j) (P j) (Kd j))))]) [3, 5] rfl
            refine vp_callSi (va_Run.run (va_runV (As := [.int (nI (X a))]) (rest := []) ⟨hx, hb, hml, hown, hts⟩ (c_Sh_playerAtN l D cI cZ cJ cS aT ceT  qs tn qu qo qx qy qr qw Hu P Kd (X a) hP4 hK2 (hX12 _)) (cwV 1 hts (tb_4 wd_516 wd_312 wd_313 wd_3 (tb_c wd_314)) rfl rfl rfl ⟨rfl, by decide, by decide, by decide +kernel⟩ ⟨Nat.le_of_ble_eq_true rfl, Nat.le_of_ble_eq_true rfl⟩) (tP_V hK hX hXH hPc (q := 0) rfl rfl) rfl rfl hl.1 rfl (lv_room (Nat.le_of_ble_eq_true rfl)) d_Se_attack_110 ⟨Nat.le_of_ble_eq_true rfl, Nat.le_of_ble_eq_true rfl⟩)) (fun r22 hr9 => ?_)
            rw [hr9]
            refine lv_istore (lv' := [(5, .int (nI (pOf Hu P (X a)))), (4, .int (mI (fun j => Mv j && (Su j || Op j)))), (3, .int (nI (X a))), (0, .ref h0), (1, .int (nI a)), (2, .int (bI ms))]) hx hb d_Se_attack_113 hl (by decide) rfl (fun ls hl => ?_)
            refine lv_iload hx hb d_Se_attack_115 (lv_at hl 0 rfl) ?_
            refine lv_aload_n hx hb d_Se_attack_117 rfl (lv_at hl 3 rfl) ?_
            refine va_get (D := D) (ci := 2) (v := .ref qs) (C := R_Se) (T := T_Se) (N := 17) hx hb hts hin_Se hown hK hP 0 rfl rfl 1 (by decide) (hts _ wd_104) (fun _ h9 => h9) rfl d_Se_attack_118 ?_
            refine lv_iload_n hx hb d_Se_attack_121 rfl (lv_at hl 4 rfl) ?_
            have hPc := hP.sub (ws' := [(qs, .inr (3, [.int tn, .ref qu, .ref qo, .ref qx, .ref qy, .ref qr, .ref qw])), (qu, .inl (cI, 12, .inl (fun j => unI (Hu j) (P j) (Kd j))))]) [3, 5] rfl
            refine vp_callSi (va_Run.run (va_runV (As := [.int (nI a)]) (rest := [.int (nI (pOf Hu P (X a)))]) ⟨hx, hb, hml, hown, hts⟩ (c_Sh_playerAtN l D cI cZ cJ cS aT ceT  qs tn qu qo qx qy qr qw Hu P Kd a hP4 hK2 h_a) (cwV 1 hts (tb_4 wd_516 wd_312 wd_313 wd_3 (tb_c wd_314)) rfl rfl rfl ⟨rfl, by decide, by decide, by decide +kernel⟩ ⟨Nat.le_of_ble_eq_true rfl, Nat.le_of_ble_eq_true rfl⟩) (tP_V hK hX hXH hPc (q := 0) rfl rfl) rfl rfl hl.1 rfl (lv_room (Nat.le_of_ble_eq_true rfl)) d_Se_attack_122 ⟨Nat.le_of_ble_eq_true rfl, Nat.le_of_ble_eq_true rfl⟩)) (fun r23 hr9 => ?_)
            rw [hr9]
            refine lv_icmp_ne (tgt := 130) hx hb d_Se_attack_125 (by decide) (fun hc24 => ?_) (fun hc24 => ?_)
            · -- 125 taken
              have hc24 : ¬ pOf Hu P (X a) = pOf Hu P a := fun h9 => hc24 (congrArg nI h9)
              refine lv_aload_n hx hb d_Se_attack_130 rfl (lv_at hl 3 rfl) ?_
              refine lv_iload_n hx hb d_Se_attack_131 rfl (lv_at hl 4 rfl) ?_
              refine lv_aload_n hx hb d_Se_attack_132 rfl (lv_at hl 3 rfl) ?_
              refine va_get (D := D) (ci := 2) (v := .ref q4) (C := R_Se) (T := T_Se) (N := 17) hx hb hts hin_Se hown hK hP 0 rfl rfl 9 (by decide) (hts _ wd_112) (fun _ h9 => h9) rfl d_Se_attack_133 ?_
              refine lv_iload hx hb d_Se_attack_136 (lv_at hl 0 rfl) ?_
              refine tr_iald (v := mI (Up (pOf Hu P (X a)))) hx hb hK hP 2 0 rfl rfl (pOf Hu P (X a)) (pOf_lt hP4 _) (by decide) rfl d_Se_attack_138 ?_
              refine lv_iload_n hx hb d_Se_attack_139 rfl (lv_at hl 5 rfl) ?_
              have hPc := hP.sub (ws' := [(h0, .inr (2, [.ref qm, .ref qs, .int (mI St), .int (mI Mv), .int (mI Sm), .int (mI Ho), .ref q1, .ref q2, .ref q3, .ref q4, .int (mI Su), .int (mI Op), .int (mI Sd), .int (mI Od), .int (mI Sp), .int (mI Oq), .ref q5])), (q2, .inl (cI, 12, .inl (fun j => mI (Bk j))))]) [0, 1] rfl
              refine vp_callSi (va_Run.run (va_runV (As := [.int (nI a), .int (mI (Up (pOf Hu P (X a)))), .int (bI ms)]) (rest := []) ⟨hx, hb, hml, hown, hts⟩ (c_Se_force l D cI cZ cJ cS aT ceT  h0 qm qs q1 q2 q3 q4 q5 St Mv Sm Ho Su Op Sd Od Sp Oq Bk (Up (pOf Hu P (X a))) ms a h_a) (cwV 3 hts (tb_4 wd_552 wd_554 wp_16 wd_5 (tb_c wd_555)) rfl rfl rfl ⟨rfl, by decide, by decide, by decide +kernel⟩ ⟨Nat.le_of_ble_eq_true rfl, Nat.le_of_ble_eq_true rfl⟩) (tP_V hK hX hXH hPc (q := 0) rfl rfl) rfl rfl hl.1 rfl (lv_room (Nat.le_of_ble_eq_true rfl)) d_Se_attack_140 ⟨Nat.le_of_ble_eq_true rfl, Nat.le_of_ble_eq_true rfl⟩)) (fun r25 hr9 => ?_)
              rw [hr9]
              exact W.iret (v := nI (frcC Bk Su Op (Up (pOf Hu P (X a))) ms a)) hx hb hr (fun t ht hW => ⟨nI (frcC Bk Su Op (Up (pOf Hu P (X a))) ms a), rfl, congrArg nI (by simp [atkC, hb2, hb6, hb12, hb16, hb20, hc24]), ht⟩) (fun q hq => by cases hq) d_Se_attack_143
            · -- 125 not taken
              have hc24 : pOf Hu P (X a) = pOf Hu P a := (nI_lit (Nat.lt_trans (pOf_lt hP4 _) (by decide)) (Nat.lt_trans (pOf_lt hP4 _) (by decide))).mp hc24
              refine lv_iconst (v := 0) hx hb d_Se_attack_128 (by decide) ?_
              exact W.iret (v := 0) hx hb hr (fun t ht hW => ⟨0, rfl, show nI 0 = _ from congrArg nI (by simp [atkC, hb2, hb6, hb12, hb16, hb20, hc24]), ht⟩) (fun q hq => by cases hq) d_Se_attack_129
          · refine tr_top e9 ?_
            refine lv_if_ne (tgt := 105) hx hb d_Se_attack_94 (by decide) (fun h0 => absurd (by decide) h0) (fun _ => ?_)
            refine lv_aload_n hx hb d_Se_attack_97 rfl (lv_at hl 2 rfl) ?_
            refine lv_iload_n hx hb d_Se_attack_98 rfl (lv_at hl 3 rfl) ?_
            refine lv_iconst (v := 0) hx hb d_Se_attack_99 (by decide) ?_
            refine tr_top (y := mI (fun _ => false)) mI_0.symm ?_
            refine lv_iload_n hx hb d_Se_attack_100 rfl (lv_at hl 4 rfl) ?_
            have hPc := hP.sub (ws' := [(h0, .inr (2, [.ref qm, .ref qs, .int (mI St), .int (mI Mv), .int (mI Sm), .int (mI Ho), .ref q1, .ref q2, .ref q3, .ref q4, .int (mI Su), .int (mI Op), .int (mI Sd), .int (mI Od), .int (mI Sp), .int (mI Oq), .ref q5])), (q2, .inl (cI, 12, .inl (fun j => mI (Bk j))))]) [0, 1] rfl
            refine vp_callSi (va_Run.run (va_runV (As := [.int (nI a), .int (mI (fun _ => false)), .int (bI ms)]) (rest := []) ⟨hx, hb, hml, hown, hts⟩ (c_Se_force l D cI cZ cJ cS aT ceT  h0 qm qs q1 q2 q3 q4 q5 St Mv Sm Ho Su Op Sd Od Sp Oq Bk (fun _ => false) ms a h_a) (cwV 3 hts (tb_4 wd_552 wd_554 wp_16 wd_5 (tb_c wd_555)) rfl rfl rfl ⟨rfl, by decide, by decide, by decide +kernel⟩ ⟨Nat.le_of_ble_eq_true rfl, Nat.le_of_ble_eq_true rfl⟩) (tP_V hK hX hXH hPc (q := 0) rfl rfl) rfl rfl hl.1 rfl (lv_room (Nat.le_of_ble_eq_true rfl)) d_Se_attack_101 ⟨Nat.le_of_ble_eq_true rfl, Nat.le_of_ble_eq_true rfl⟩)) (fun r27 hr9 => ?_)
            rw [hr9]
            exact W.iret (v := nI (frcC Bk Su Op (fun _ => false) ms a)) hx hb hr (fun t ht hW => ⟨nI (frcC Bk Su Op (fun _ => false) ms a), rfl, congrArg nI (by simp [atkC, hb2, hb6, hb12, hb16, hb20]), ht⟩) (fun q hq => by cases hq) d_Se_attack_104
        · refine tr_top e9 ?_
          refine lv_if_eq (tgt := 105) hx hb d_Se_attack_83 (by decide) (fun _ => ?_) (fun h0 => absurd (by decide) h0)
          refine lv_aload_n hx hb d_Se_attack_105 rfl (lv_at hl 2 rfl) ?_
          refine va_get (D := D) (ci := 2) (v := .ref qs) (C := R_Se) (T := T_Se) (N := 17) hx hb hts hin_Se hown hK hP 0 rfl rfl 1 (by decide) (hts _ wd_104) (fun _ h9 => h9) rfl d_Se_attack_106 ?_
          refine lv_iload_n hx hb d_Se_attack_109 rfl (lv_at hl 1 rfl) ?_
          have hPc := hP.sub (ws' := [(qs, .inr (3, [.int tn, .ref qu, .ref qo, .ref qx, .ref qy, .ref qr, .ref qw])), (qu, .inl (cI, 12, .inl (fun j => unI (Hu j) (P j) (Kd j))))]) [3, 5] rfl
          refine vp_callSi (va_Run.run (va_runV (As := [.int (nI (X a))]) (rest := []) ⟨hx, hb, hml, hown, hts⟩ (c_Sh_playerAtN l D cI cZ cJ cS aT ceT  qs tn qu qo qx qy qr qw Hu P Kd (X a) hP4 hK2 (hX12 _)) (cwV 1 hts (tb_4 wd_516 wd_312 wd_313 wd_3 (tb_c wd_314)) rfl rfl rfl ⟨rfl, by decide, by decide, by decide +kernel⟩ ⟨Nat.le_of_ble_eq_true rfl, Nat.le_of_ble_eq_true rfl⟩) (tP_V hK hX hXH hPc (q := 0) rfl rfl) rfl rfl hl.1 rfl (lv_room (Nat.le_of_ble_eq_true rfl)) d_Se_attack_110 ⟨Nat.le_of_ble_eq_true rfl, Nat.le_of_ble_eq_true rfl⟩)) (fun r29 hr9 => ?_)
          rw [hr9]
          refine lv_istore (lv' := [(5, .int (nI (pOf Hu P (X a)))), (4, .int (mI (fun j => Mv j && (Su j || Op j)))), (3, .int (nI (X a))), (0, .ref h0), (1, .int (nI a)), (2, .int (bI ms))]) hx hb d_Se_attack_113 hl (by decide) rfl (fun ls hl => ?_)
          refine lv_iload hx hb d_Se_attack_115 (lv_at hl 0 rfl) ?_
          refine lv_aload_n hx hb d_Se_attack_117 rfl (lv_at hl 3 rfl) ?_
          refine va_get (D := D) (ci := 2) (v := .ref qs) (C := R_Se) (T := T_Se) (N := 17) hx hb hts hin_Se hown hK hP 0 rfl rfl 1 (by decide) (hts _ wd_104) (fun _ h9 => h9) rfl d_Se_attack_118 ?_
          refine lv_iload_n hx hb d_Se_attack_121 rfl (lv_at hl 4 rfl) ?_
          have hPc := hP.sub (ws' := [(qs, .inr (3, [.int tn, .ref qu, .ref qo, .ref qx, .ref qy, .ref qr, .ref qw])), (qu, .inl (cI, 12, .inl (fun j => unI (Hu j) (P j) (Kd j))))]) [3, 5] rfl
          refine vp_callSi (va_Run.run (va_runV (As := [.int (nI a)]) (rest := [.int (nI (pOf Hu P (X a)))]) ⟨hx, hb, hml, hown, hts⟩ (c_Sh_playerAtN l D cI cZ cJ cS aT ceT  qs tn qu qo qx qy qr qw Hu P Kd a hP4 hK2 h_a) (cwV 1 hts (tb_4 wd_516 wd_312 wd_313 wd_3 (tb_c wd_314)) rfl rfl rfl ⟨rfl, by decide, by decide, by decide +kernel⟩ ⟨Nat.le_of_ble_eq_true rfl, Nat.le_of_ble_eq_true rfl⟩) (tP_V hK hX hXH hPc (q := 0) rfl rfl) rfl rfl hl.1 rfl (lv_room (Nat.le_of_ble_eq_true rfl)) d_Se_attack_122 ⟨Nat.le_of_ble_eq_true rfl, Nat.le_of_ble_eq_true rfl⟩)) (fun r30 hr9 => ?_)
          rw [hr9]
          refine lv_icmp_ne (tgt := 130) hx hb d_Se_attack_125 (by decide) (fun hc31 => ?_) (fun hc31 => ?_)
          · -- 125 taken
            have hc31 : ¬ pOf Hu P (X a) = pOf Hu P a := fun h9 => hc31 (congrArg nI h9)
            refine lv_aload_n hx hb d_Se_attack_130 rfl (lv_at hl 3 rfl) ?_
            refine lv_iload_n hx hb d_Se_attack_131 rfl (lv_at hl 4 rfl) ?_
            refine lv_aload_n hx hb d_Se_attack_132 rfl (lv_at hl 3 rfl) ?_
            refine va_get (D := D) (ci := 2) (v := .ref q4) (C := R_Se) (T := T_Se) (N := 17) hx hb hts hin_Se hown hK hP 0 rfl rfl 9 (by decide) (hts _ wd_112) (fun _ h9 => h9) rfl d_Se_attack_133 ?_
            refine lv_iload hx hb d_Se_attack_136 (lv_at hl 0 rfl) ?_
            refine tr_iald (v := mI (Up (pOf Hu P (X a)))) hx hb hK hP 2 0 rfl rfl (pOf Hu P (X a)) (pOf_lt hP4 _) (by decide) rfl d_Se_attack_138 ?_
            refine lv_iload_n hx hb d_Se_attack_139 rfl (lv_at hl 5 rfl) ?_
            have hPc := hP.sub (ws' := [(h0, .inr (2, [.ref qm, .ref qs, .int (mI St), .int (mI Mv), .int (mI Sm), .int (mI Ho), .ref q1, .ref q2, .ref q3, .ref q4, .int (mI Su), .int (mI Op), .int (mI Sd), .int (mI Od), .int (mI Sp), .int (mI Oq), .ref q5])), (q2, .inl (cI, 12, .inl (fun j => mI (Bk j))))]) [0, 1] rfl
            refine vp_callSi (va_Run.run (va_runV (As := [.int (nI a), .int (mI (Up (pOf Hu P (X a)))), .int (bI ms)]) (rest := []) ⟨hx, hb, hml, hown, hts⟩ (c_Se_force l D cI cZ cJ cS aT ceT  h0 qm qs q1 q2 q3 q4 q5 St Mv Sm Ho Su Op Sd Od Sp Oq Bk (Up (pOf Hu P (X a))) ms a h_a) (cwV 3 hts (tb_4 wd_552 wd_554 wp_16 wd_5 (tb_c wd_555)) rfl rfl rfl ⟨rfl, by decide, by decide, by decide +kernel⟩ ⟨Nat.le_of_ble_eq_true rfl, Nat.le_of_ble_eq_true rfl⟩) (tP_V hK hX hXH hPc (q := 0) rfl rfl) rfl rfl hl.1 rfl (lv_room (Nat.le_of_ble_eq_true rfl)) d_Se_attack_140 ⟨Nat.le_of_ble_eq_true rfl, Nat.le_of_ble_eq_true rfl⟩)) (fun r32 hr9 => ?_)
            rw [hr9]
            exact W.iret (v := nI (frcC Bk Su Op (Up (pOf Hu P (X a))) ms a)) hx hb hr (fun t ht hW => ⟨nI (frcC Bk Su Op (Up (pOf Hu P (X a))) ms a), rfl, congrArg nI (by simp [atkC, hb2, hb6, hb12, hb16, hc31]), ht⟩) (fun q hq => by cases hq) d_Se_attack_143
          · -- 125 not taken
            have hc31 : pOf Hu P (X a) = pOf Hu P a := (nI_lit (Nat.lt_trans (pOf_lt hP4 _) (by decide)) (Nat.lt_trans (pOf_lt hP4 _) (by decide))).mp hc31
            refine lv_iconst (v := 0) hx hb d_Se_attack_128 (by decide) ?_
            exact W.iret (v := 0) hx hb hr (fun t ht hW => ⟨0, rfl, show nI 0 = _ from congrArg nI (by simp [atkC, hb2, hb6, hb12, hb16, hc31]), ht⟩) (fun q hq => by cases hq) d_Se_attack_129
      · refine tr_top e9 ?_
        refine lv_if_eq (tgt := 97) hx hb d_Se_attack_74 (by decide) (fun _ => ?_) (fun h0 => absurd (by decide) h0)
        refine lv_aload_n hx hb d_Se_attack_97 rfl (lv_at hl 2 rfl) ?_
        refine lv_iload_n hx hb d_Se_attack_98 rfl (lv_at hl 3 rfl) ?_
        refine lv_iconst (v := 0) hx hb d_Se_attack_99 (by decide) ?_
        refine tr_top (y := mI (fun _ => false)) mI_0.symm ?_
        refine lv_iload_n hx hb d_Se_attack_100 rfl (lv_at hl 4 rfl) ?_
        have hPc := hP.sub (ws' := [(h0, .inr (2, [.ref qm, .ref qs, .int (mI St), .int (mI Mv), .int (mI Sm), .int (mI Ho), .ref q1, .ref q2, .ref q3, .ref q4, .int (mI Su), .int (mI Op), .int (mI Sd), .int (mI Od), .int (mI Sp), .int (mI Oq), .ref q5])), (q2, .inl (cI, 12, .inl (fun j => mI (Bk j))))]) [0, 1] rfl
        refine vp_callSi (va_Run.run (va_runV (As := [.int (nI a), .int (mI (fun _ => false)), .int (bI ms)]) (rest := []) ⟨hx, hb, hml, hown, hts⟩ (c_Se_force l D cI cZ cJ cS aT ceT  h0 qm qs q1 q2 q3 q4 q5 St Mv Sm Ho Su Op Sd Od Sp Oq Bk (fun _ => false) ms a h_a) (cwV 3 hts (tb_4 wd_552 wd_554 wp_16 wd_5 (tb_c wd_555)) rfl rfl rfl ⟨rfl, by decide, by decide, by decide +kernel⟩ ⟨Nat.le_of_ble_eq_true rfl, Nat.le_of_ble_eq_true rfl⟩) (tP_V hK hX hXH hPc (q := 0) rfl rfl) rfl rfl hl.1 rfl (lv_room (Nat.le_of_ble_eq_true rfl)) d_Se_attack_101 ⟨Nat.le_of_ble_eq_true rfl, Nat.le_of_ble_eq_true rfl⟩)) (fun r34 hr9 => ?_)
        rw [hr9]
        exact W.iret (v := nI (frcC Bk Su Op (fun _ => false) ms a)) hx hb hr (fun t ht hW => ⟨nI (frcC Bk Su Op (fun _ => false) ms a), rfl, congrArg nI (by simp [atkC, hb2, hb6, hb12]), ht⟩) (fun q hq => by cases hq) d_Se_attack_104
    · refine tr_top e9 ?_
      refine lv_if_ne (tgt := 29) hx hb d_Se_attack_24 (by decide) (fun h0 => absurd (by decide) h0) (fun _ => ?_)
      refine lv_iconst (v := 0) hx hb d_Se_attack_27 (by decide) ?_
      exact W.iret (v := 0) hx hb hr (fun t ht hW => ⟨0, rfl, show nI 0 = _ from congrArg nI (by simp [atkC, hb2, hb6]), ht⟩) (fun q hq => by cases hq) d_Se_attack_28
  · refine tr_top e9 ?_
    refine lv_if_eq (tgt := 16) hx hb d_Se_attack_1 (by decide) (fun _ => ?_) (fun h0 => absurd (by decide) h0)
    refine lv_aload_n hx hb d_Se_attack_16 rfl (lv_at hl 0 rfl) ?_
    refine va_get (D := D) (ci := 2) (v := .int (mI Sp)) (C := R_Se) (T := T_Se) (N := 17) hx hb hts hin_Se hown hK hP 0 rfl rfl 14 (by decide) (hts _ wd_117) (fun _ h9 => h9) rfl d_Se_attack_17 ?_
    refine lv_iload_n hx hb d_Se_attack_20 rfl (lv_at hl 1 rfl) ?_
    have hPc := hP.sub (ws' := []) [] rfl
    refine vp_callSi (va_Run.run (va_runSN (As := [.int (mI Sp), .int (nI a)]) (rest := []) ⟨hx, hb, hml, hown, hts⟩ (c_Sw_in l D cI cZ cJ cS aT ceT  Sp a h_a) (⟨va_cnB 2 hts (tb_c wd_285) rfl rfl rfl hX.2.2.2.2.2.2.2.1 (hts _ wd_1) ⟨by decide, by decide, by decide +kernel⟩ ⟨Nat.le_of_ble_eq_true rfl, Nat.le_of_ble_eq_true rfl⟩, hts _ wd_284, trivial⟩) (tP_S hK hX hXH hPc) rfl rfl hl.1 rfl (lv_room (Nat.le_of_ble_eq_true rfl)) d_Se_attack_21 ⟨Nat.le_of_ble_eq_true rfl, Nat.le_of_ble_eq_true rfl⟩)) (fun r37 hr9 => ?_)
    rw [hr9]
    rcases bI_c (Sp a) with ⟨hb39, e9⟩ | ⟨hb39, e9⟩
    · refine tr_top e9 ?_
      refine lv_if_ne (tgt := 29) hx hb d_Se_attack_24 (by decide) (fun _ => ?_) (fun h0 => absurd h0 (by decide))
      refine lv_aload_n hx hb d_Se_attack_29 rfl (lv_at hl 0 rfl) ?_
      refine va_get (D := D) (ci := 2) (v := .ref qs) (C := R_Se) (T := T_Se) (N := 17) hx hb hts hin_Se hown hK hP 0 rfl rfl 1 (by decide) (hts _ wd_104) (fun _ h9 => h9) rfl d_Se_attack_30 ?_
      refine va_get (D := D) (ci := 3) (v := .ref qx) (C := R_Sh) (T := T_Sh) (N := 7) hx hb hts hin_Sh hown hK hP 3 rfl rfl 3 (by decide) (hts _ wd_72) (fun _ h9 => h9) rfl d_Se_attack_33 ?_
      refine lv_iload_n hx hb d_Se_attack_36 rfl (lv_at hl 1 rfl) ?_
      refine tr_iald (v := nI (X a)) hx hb hK hP 4 0 rfl rfl a h_a (by decide) rfl d_Se_attack_37 ?_
      refine lv_istore_n (lv' := [(3, .int (nI (X a))), (0, .ref h0), (1, .int (nI a)), (2, .int (bI ms))]) hx hb d_Se_attack_38 rfl hl (by decide) rfl (fun ls hl => ?_)
      refine lv_aload_n hx hb d_Se_attack_39 rfl (lv_at hl 1 rfl) ?_
      refine va_get (D := D) (ci := 2) (v := .int (mI Mv)) (C := R_Se) (T := T_Se) (N := 17) hx hb hts hin_Se hown hK hP 0 rfl rfl 3 (by decide) (hts _ wd_106) (fun _ h9 => h9) rfl d_Se_attack_40 ?_
      refine lv_iload_n hx hb d_Se_attack_43 rfl (lv_at hl 3 rfl) ?_
      refine tr_top (bI_f hb2) ?_
      refine lv_if_eq (tgt := 59) hx hb d_Se_attack_44 (by decide) (fun _ => ?_) (fun h0 => absurd (by decide) h0)
      refine lv_aload_n hx hb d_Se_attack_59 rfl (lv_at hl 1 rfl) ?_
      refine va_get (D := D) (ci := 2) (v := .int (mI Su)) (C := R_Se) (T := T_Se) (N := 17) hx hb hts hin_Se hown hK hP 0 rfl rfl 10 (by decide) (hts _ wd_113) (fun _ h9 => h9) rfl d_Se_attack_60 ?_
      refine lv_iand hx hb d_Se_attack_63 ?_
      refine tr_top (y := mI (fun j => Mv j && Su j)) (mI_and _ _) ?_
      refine lv_istore (lv' := [(4, .int (mI (fun j => Mv j && Su j))), (3, .int (nI (X a))), (0, .ref h0), (1, .int (nI a)), (2, .int (bI ms))]) hx hb d_Se_attack_64 hl (by decide) rfl (fun ls hl => ?_)
      refine lv_aload_n hx hb d_Se_attack_66 rfl (lv_at hl 2 rfl) ?_
      refine va_get (D := D) (ci := 2) (v := .int (mI St)) (C := R_Se) (T := T_Se) (N := 17) hx hb hts hin_Se hown hK hP 0 rfl rfl 2 (by decide) (hts _ wd_105) (fun _ h9 => h9) rfl d_Se_attack_67 ?_
      refine lv_iload_n hx hb d_Se_attack_70 rfl (lv_at hl 1 rfl) ?_
      have hPc := hP.sub (ws' := []) [] rfl
      refine vp_callSi (va_Run.run (va_runSN (As := [.int (mI St), .int (nI (X a))]) (rest := []) ⟨hx, hb, hml, hown, hts⟩ (c_Sw_in l D cI cZ cJ cS aT ceT  St (X a) (hX12 _)) (⟨va_cnB 2 hts (tb_c wd_285) rfl rfl rfl hX.2.2.2.2.2.2.2.1 (hts _ wd_1) ⟨by decide, by decide, by decide +kernel⟩ ⟨Nat.le_of_ble_eq_true rfl, Nat.le_of_ble_eq_true rfl⟩, hts _ wd_284, trivial⟩) (tP_S hK hX hXH hPc) rfl rfl hl.1 rfl (lv_room (Nat.le_of_ble_eq_true rfl)) d_Se_attack_71 ⟨Nat.le_of_ble_eq_true rfl, Nat.le_of_ble_eq_true rfl⟩)) (fun r43 hr9 => ?_)
      rw [hr9]
      rcases bI_c (St (X a)) with ⟨hb45, e9⟩ | ⟨hb45, e9⟩
      · refine tr_top e9 ?_
        refine lv_if_eq (tgt := 97) hx hb d_Se_attack_74 (by decide) (fun h0 => absurd h0 (by decide)) (fun _ => ?_)
        refine lv_iload hx hb d_Se_attack_77 (lv_at hl 0 rfl) ?_
        refine lv_iload_n hx hb d_Se_attack_79 rfl (lv_at hl 1 rfl) ?_
        have hPc := hP.sub (ws' := []) [] rfl
        refine vp_callSi (va_Run.run (va_runSN (As := [.int (mI (fun j => Mv j && Su j)), .int (nI (X a))]) (rest := []) ⟨hx, hb, hml, hown, hts⟩ (c_Sw_in l D cI cZ cJ cS aT ceT  (fun j => Mv j && Su j) (X a) (hX12 _)) (⟨va_cnB 2 hts (tb_c wd_285) rfl rfl rfl hX.2.2.2.2.2.2.2.1 (hts _ wd_1) ⟨by decide, by decide, by decide +kernel⟩ ⟨Nat.le_of_ble_eq_true rfl, Nat.le_of_ble_eq_true rfl⟩, hts _ wd_284, trivial⟩) (tP_S hK hX hXH hPc) rfl rfl hl.1 rfl (lv_room (Nat.le_of_ble_eq_true rfl)) d_Se_attack_80 ⟨Nat.le_of_ble_eq_true rfl, Nat.le_of_ble_eq_true rfl⟩)) (fun r47 hr9 => ?_)
        rw [hr9]
        rcases bI_c ((fun j => Mv j && Su j) (X a)) with ⟨hb49, e9⟩ | ⟨hb49, e9⟩
        · refine tr_top e9 ?_
          refine lv_if_eq (tgt := 105) hx hb d_Se_attack_83 (by decide) (fun h0 => absurd h0 (by decide)) (fun _ => ?_)
          refine lv_aload_n hx hb d_Se_attack_86 rfl (lv_at hl 2 rfl) ?_
          refine va_get (D := D) (ci := 2) (v := .int (mI Ho)) (C := R_Se) (T := T_Se) (N := 17) hx hb hts hin_Se hown hK hP 0 rfl rfl 5 (by decide) (hts _ wd_108) (fun _ h9 => h9) rfl d_Se_attack_87 ?_
          refine lv_iload_n hx hb d_Se_attack_90 rfl (lv_at hl 3 rfl) ?_
          have hPc := hP.sub (ws' := []) [] rfl
          refine vp_callSi (va_Run.run (va_runSN (As := [.int (mI Ho), .int (nI a)]) (rest := []) ⟨hx, hb, hml, hown, hts⟩ (c_Sw_in l D cI cZ cJ cS aT ceT  Ho a h_a) (⟨va_cnB 2 hts (tb_c wd_285) rfl rfl rfl hX.2.2.2.2.2.2.2.1 (hts _ wd_1) ⟨by decide, by decide, by decide +kernel⟩ ⟨Nat.le_of_ble_eq_true rfl, Nat.le_of_ble_eq_true rfl⟩, hts _ wd_284, trivial⟩) (tP_S hK hX hXH hPc) rfl rfl hl.1 rfl (lv_room (Nat.le_of_ble_eq_true rfl)) d_Se_attack_91 ⟨Nat.le_of_ble_eq_true rfl, Nat.le_of_ble_eq_true rfl⟩)) (fun r51 hr9 => ?_)
          rw [hr9]
          rcases bI_c (Ho a) with ⟨hb53, e9⟩ | ⟨hb53, e9⟩
          · refine tr_top e9 ?_
            refine lv_if_ne (tgt := 105) hx hb d_Se_attack_94 (by decide) (fun _ => ?_) (fun h0 => absurd h0 (by decide))
            refine lv_aload_n hx hb d_Se_attack_105 rfl (lv_at hl 2 rfl) ?_
            refine va_get (D := D) (ci := 2) (v := .ref qs) (C := R_Se) (T := T_Se) (N := 17) hx hb hts hin_Se hown hK hP 0 rfl rfl 1 (by decide) (hts _ wd_104) (fun _ h9 => h9) rfl d_Se_attack_106 ?_
            refine lv_iload_n hx hb d_Se_attack_109 rfl (lv_at hl 1 rfl) ?_
            have hPc := hP.sub (ws' := [(qs, .inr (3, [.int tn, .ref qu, .ref qo, .ref qx, .ref qy, .ref qr, .ref qw])), (qu, .inl (cI, 12, .inl (fun j => unI (Hu j) (P j) (Kd j))))]) [3, 5] rfl
            refine vp_callSi (va_Run.run (va_runV (As := [.int (nI (X a))]) (rest := []) ⟨hx, hb, hml, hown, hts⟩ (c_Sh_playerAtN l D cI cZ cJ cS aT ceT  qs tn qu qo qx qy qr qw Hu P Kd (X a) hP4 hK2 (hX12 _)) (cwV 1 hts (tb_4 wd_516 wd_312 wd_313 wd_3 (tb_c wd_314)) rfl rfl rfl ⟨rfl, by decide, by decide, by decide +kernel⟩ ⟨Nat.le_of_ble_eq_true rfl, Nat.le_of_ble_eq_true rfl⟩) (tP_V hK hX hXH hPc (q := 0) rfl rfl) rfl rfl hl.1 rfl (lv_room (Nat.le_of_ble_eq_true rfl)) d_Se_attack_110 ⟨Nat.le_of_ble_eq_true rfl, Nat.le_of_ble_eq_true rfl⟩)) (fun r55 hr9 => ?_)
            rw [hr9]
            refine lv_istore (lv' := [(5, .int (nI (pOf Hu P (X a)))), (4, .int (mI (fun j => Mv j && Su j))), (3, .int (nI (X a))), (0, .ref h0), (1, .int (nI a)), (2, .int (bI ms))]) hx hb d_Se_attack_113 hl (by decide) rfl (fun ls hl => ?_)
            refine lv_iload hx hb d_Se_attack_115 (lv_at hl 0 rfl) ?_
            refine lv_aload_n hx hb d_Se_attack_117 rfl (lv_at hl 3 rfl) ?_
            refine va_get (D := D) (ci := 2) (v := .ref qs) (C := R_Se) (T := T_Se) (N := 17) hx hb hts hin_Se hown hK hP 0 rfl rfl 1 (by decide) (hts _ wd_104) (fun _ h9 => h9) rfl d_Se_attack_118 ?_
            refine lv_iload_n hx hb d_Se_attack_121 rfl (lv_at hl 4 rfl) ?_
            have hPc := hP.sub (ws' := [(qs, .inr (3, [.int tn, .ref qu, .ref qo, .ref qx, .ref qy, .ref qr, .ref qw])), (qu, .inl (cI, 12, .inl (fun j => unI (Hu j) (P j) (Kd j))))]) [3, 5] rfl
            refine vp_callSi (va_Run.run (va_runV (As := [.int (nI a)]) (rest := [.int (nI (pOf Hu P (X a)))]) ⟨hx, hb, hml, hown, hts⟩ (c_Sh_playerAtN l D cI cZ cJ cS aT ceT  qs tn qu qo qx qy qr qw Hu P Kd a hP4 hK2 h_a) (cwV 1 hts (tb_4 wd_516 wd_312 wd_313 wd_3 (tb_c wd_314)) rfl rfl rfl ⟨rfl, by decide, by decide, by decide +kernel⟩ ⟨Nat.le_of_ble_eq_true rfl, Nat.le_of_ble_eq_true rfl⟩) (tP_V hK hX hXH hPc (q := 0) rfl rfl) rfl rfl hl.1 rfl (lv_room (Nat.le_of_ble_eq_true rfl)) d_Se_attack_122 ⟨Nat.le_of_ble_eq_true rfl, Nat.le_of_ble_eq_true rfl⟩)) (fun r56 hr9 => ?_)
            rw [hr9]
            refine lv_icmp_ne (tgt := 130) hx hb d_Se_attack_125 (by decide) (fun hc57 => ?_) (fun hc57 => ?_)
            · -- 125 taken
              have hc57 : ¬ pOf Hu P (X a) = pOf Hu P a := fun h9 => hc57 (congrArg nI h9)
              refine lv_aload_n hx hb d_Se_attack_130 rfl (lv_at hl 3 rfl) ?_
              refine lv_iload_n hx hb d_Se_attack_131 rfl (lv_at hl 4 rfl) ?_
              refine lv_aload_n hx hb d_Se_attack_132 rfl (lv_at hl 3 rfl) ?_
              refine va_get (D := D) (ci := 2) (v := .ref q4) (C := R_Se) (T := T_Se) (N := 17) hx hb hts hin_Se hown hK hP 0 rfl rfl 9 (by decide) (hts _ wd_112) (fun _ h9 => h9) rfl d_Se_attack_133 ?_
              refine lv_iload hx hb d_Se_attack_136 (lv_at hl 0 rfl) ?_
              refine tr_iald (v := mI (Up (pOf Hu P (X a)))) hx hb hK hP 2 0 rfl rfl (pOf Hu P (X a)) (pOf_lt hP4 _) (by decide) rfl d_Se_attack_138 ?_
              refine lv_iload_n hx hb d_Se_attack_139 rfl (lv_at hl 5 rfl) ?_
              have hPc := hP.sub (ws' := [(h0, .inr (2, [.ref qm, .ref qs, .int (mI St), .int (mI Mv), .int (mI Sm), .int (mI Ho), .ref q1, .ref q2, .ref q3, .ref q4, .int (mI Su), .int (mI Op), .int (mI Sd), .int (mI Od), .int (mI Sp), .int (mI Oq), .ref q5])), (q2, .inl (cI, 12, .inl (fun j => mI (Bk j))))]) [0, 1] rfl
              refine vp_callSi (va_Run.run (va_runV (As := [.int (nI a), .int (mI (Up (pOf Hu P (X a)))), .int (bI ms)]) (rest := []) ⟨hx, hb, hml, hown, hts⟩ (c_Se_force l D cI cZ cJ cS aT ceT  h0 qm qs q1 q2 q3 q4 q5 St Mv Sm Ho Su Op Sd Od Sp Oq Bk (Up (pOf Hu P (X a))) ms a h_a) (cwV 3 hts (tb_4 wd_552 wd_554 wp_16 wd_5 (tb_c wd_555)) rfl rfl rfl ⟨rfl, by decide, by decide, by decide +kernel⟩ ⟨Nat.le_of_ble_eq_true rfl, Nat.le_of_ble_eq_true rfl⟩) (tP_V hK hX hXH hPc (q := 0) rfl rfl) rfl rfl hl.1 rfl (lv_room (Nat.le_of_ble_eq_true rfl)) d_Se_attack_140 ⟨Nat.le_of_ble_eq_true rfl, Nat.le_of_ble_eq_true rfl⟩)) (fun r58 hr9 => ?_)
              rw [hr9]
              exact W.iret (v := nI (frcC Bk Su Op (Up (pOf Hu P (X a))) ms a)) hx hb hr (fun t ht hW => ⟨nI (frcC Bk Su Op (Up (pOf Hu P (X a))) ms a), rfl, congrArg nI (by simp [atkC, hb2, hb39, hb45, hb49, hb53, hc57]), ht⟩) (fun q hq => by cases hq) d_Se_attack_143
            · -- 125 not taken
              have hc57 : pOf Hu P (X a) = pOf Hu P a := (nI_lit (Nat.lt_trans (pOf_lt hP4 _) (by decide)) (Nat.lt_trans (pOf_lt hP4 _) (by decide))).mp hc57
              refine lv_iconst (v := 0) hx hb d_Se_attack_128 (by decide) ?_
              exact W.iret (v := 0) hx hb hr (fun t ht hW => ⟨0, rfl, show nI 0 = _ from congrArg nI (by simp [atkC, hb2, hb39, hb45, hb49, hb53, hc57]), ht⟩) (fun q hq => by cases hq) d_Se_attack_129
          · refine tr_top e9 ?_
            refine lv_if_ne (tgt := 105) hx hb d_Se_attack_94 (by decide) (fun h0 => absurd (by decide) h0) (fun _ => ?_)
            refine lv_aload_n hx hb d_Se_attack_97 rfl (lv_at hl 2 rfl) ?_
            refine lv_iload_n hx hb d_Se_attack_98 rfl (lv_at hl 3 rfl) ?_
            refine lv_iconst (v := 0) hx hb d_Se_attack_99 (by decide) ?_
            refine tr_top (y := mI (fun _ => false)) mI_0.symm ?_
            refine lv_iload_n hx hb d_Se_attack_100 rfl (lv_at hl 4 rfl) ?_
            have hPc := hP.sub (ws' := [(h0, .inr (2, [.ref qm, .ref qs, .int (mI St), .int (mI Mv), .int (mI Sm), .int (mI Ho), .ref q1, .ref q2, .ref q3, .ref q4, .int (mI Su), .int (mI Op), .int (mI Sd), .int (mI Od), .int (mI Sp), .int (mI Oq), .ref q5])), (q2, .inl (cI, 12, .inl (fun j => mI (Bk j))))]) [0, 1] rfl
            refine vp_callSi (va_Run.run (va_runV (As := [.int (nI a), .int (mI (fun _ => false)), .int (bI ms)]) (rest := []) ⟨hx, hb, hml, hown, hts⟩ (c_Se_force l D cI cZ cJ cS aT ceT  h0 qm qs q1 q2 q3 q4 q5 St Mv Sm Ho Su Op Sd Od Sp Oq Bk (fun _ => false) ms a h_a) (cwV 3 hts (tb_4 wd_552 wd_554 wp_16 wd_5 (tb_c wd_555)) rfl rfl rfl ⟨rfl, by decide, by decide, by decide +kernel⟩ ⟨Nat.le_of_ble_eq_true rfl, Nat.le_of_ble_eq_true rfl⟩) (tP_V hK hX hXH hPc (q := 0) rfl rfl) rfl rfl hl.1 rfl (lv_room (Nat.le_of_ble_eq_true rfl)) d_Se_attack_101 ⟨Nat.le_of_ble_eq_true rfl, Nat.le_of_ble_eq_true rfl⟩)) (fun r60 hr9 => ?_)
            rw [hr9]
            exact W.iret (v := nI (frcC Bk Su Op (fun _ => false) ms a)) hx hb hr (fun t ht hW => ⟨nI (frcC Bk Su Op (fun _ => false) ms a), rfl, congrArg nI (by simp [atkC, hb2, hb39, hb45, hb49, hb53]), ht⟩) (fun q hq => by cases hq) d_Se_attack_104
        · refine tr_top e9 ?_
          refine lv_if_eq (tgt := 105) hx hb d_Se_attack_83 (by decide) (fun _ => ?_) (fun h0 => absurd (by decide) h0)
          refine lv_aload_n hx hb d_Se_attack_105 rfl (lv_at hl 2 rfl) ?_
          refine va_get (D := D) (ci := 2) (v := .ref qs) (C := R_Se) (T := T_Se) (N := 17) hx hb hts hin_Se hown hK hP 0 rfl rfl 1 (by decide) (hts _ wd_104) (fun _ h9 => h9) rfl d_Se_attack_106 ?_
          refine lv_iload_n hx hb d_Se_attack_109 rfl (lv_at hl 1 rfl) ?_
          have hPc := hP.sub (ws' := [(qs, .inr (3, [.int tn, .ref qu, .ref qo, .ref qx, .ref qy, .ref qr, .ref qw])), (qu, .inl (cI, 12, .inl (fun j => unI (Hu j) (P j) (Kd j))))]) [3, 5] rfl
          refine vp_callSi (va_Run.run (va_runV (As := [.int (nI (X a))]) (rest := []) ⟨hx, hb, hml, hown, hts⟩ (c_Sh_playerAtN l D cI cZ cJ cS aT ceT  qs tn qu qo qx qy qr qw Hu P Kd (X a) hP4 hK2 (hX12 _)) (cwV 1 hts (tb_4 wd_516 wd_312 wd_313 wd_3 (tb_c wd_314)) rfl rfl rfl ⟨rfl, by decide, by decide, by decide +kernel⟩ ⟨Nat.le_of_ble_eq_true rfl, Nat.le_of_ble_eq_true rfl⟩) (tP_V hK hX hXH hPc (q := 0) rfl rfl) rfl rfl hl.1 rfl (lv_room (Nat.le_of_ble_eq_true rfl)) d_Se_attack_110 ⟨Nat.le_of_ble_eq_true rfl, Nat.le_of_ble_eq_true rfl⟩)) (fun r62 hr9 => ?_)
          rw [hr9]
          refine lv_istore (lv' := [(5, .int (nI (pOf Hu P (X a)))), (4, .int (mI (fun j => Mv j && Su j))), (3, .int (nI (X a))), (0, .ref h0), (1, .int (nI a)), (2, .int (bI ms))]) hx hb d_Se_attack_113 hl (by decide) rfl (fun ls hl => ?_)
          refine lv_iload hx hb d_Se_attack_115 (lv_at hl 0 rfl) ?_
          refine lv_aload_n hx hb d_Se_attack_117 rfl (lv_at hl 3 rfl) ?_
          refine va_get (D := D) (ci := 2) (v := .ref qs) (C := R_Se) (T := T_Se) (N := 17) hx hb hts hin_Se hown hK hP 0 rfl rfl 1 (by decide) (hts _ wd_104) (fun _ h9 => h9) rfl d_Se_attack_118 ?_
          refine lv_iload_n hx hb d_Se_attack_121 rfl (lv_at hl 4 rfl) ?_
          have hPc := hP.sub (ws' := [(qs, .inr (3, [.int tn, .ref qu, .ref qo, .ref qx, .ref qy, .ref qr, .ref qw])), (qu, .inl (cI, 12, .inl (fun j => unI (Hu j) (P j) (Kd j))))]) [3, 5] rfl
          refine vp_callSi (va_Run.run (va_runV (As := [.int (nI a)]) (rest := [.int (nI (pOf Hu P (X a)))]) ⟨hx, hb, hml, hown, hts⟩ (c_Sh_playerAtN l D cI cZ cJ cS aT ceT  qs tn qu qo qx qy qr qw Hu P Kd a hP4 hK2 h_a) (cwV 1 hts (tb_4 wd_516 wd_312 wd_313 wd_3 (tb_c wd_314)) rfl rfl rfl ⟨rfl, by decide, by decide, by decide +kernel⟩ ⟨Nat.le_of_ble_eq_true rfl, Nat.le_of_ble_eq_true rfl⟩) (tP_V hK hX hXH hPc (q := 0) rfl rfl) rfl rfl hl.1 rfl (lv_room (Nat.le_of_ble_eq_true rfl)) d_Se_attack_122 ⟨Nat.le_of_ble_eq_true rfl, Nat.le_of_ble_eq_true rfl⟩)) (fun r63 hr9 => ?_)
          rw [hr9]
          refine lv_icmp_ne (tgt := 130) hx hb d_Se_attack_125 (by decide) (fun hc64 => ?_) (fun hc64 => ?_)
          · -- 125 taken
            have hc64 : ¬ pOf Hu P (X a) = pOf Hu P a := fun h9 => hc64 (congrArg nI h9)
            refine lv_aload_n hx hb d_Se_attack_130 rfl (lv_at hl 3 rfl) ?_
            refine lv_iload_n hx hb d_Se_attack_131 rfl (lv_at hl 4 rfl) ?_
            refine lv_aload_n hx hb d_Se_attack_132 rfl (lv_at hl 3 rfl) ?_
            refine va_get (D := D) (ci := 2) (v := .ref q4) (C := R_Se) (T := T_Se) (N := 17) hx hb hts hin_Se hown hK hP 0 rfl rfl 9 (by decide) (hts _ wd_112) (fun _ h9 => h9) rfl d_Se_attack_133 ?_
            refine lv_iload hx hb d_Se_attack_136 (lv_at hl 0 rfl) ?_
            refine tr_iald (v := mI (Up (pOf Hu P (X a)))) hx hb hK hP 2 0 rfl rfl (pOf Hu P (X a)) (pOf_lt hP4 _) (by decide) rfl d_Se_attack_138 ?_
            refine lv_iload_n hx hb d_Se_attack_139 rfl (lv_at hl 5 rfl) ?_
            have hPc := hP.sub (ws' := [(h0, .inr (2, [.ref qm, .ref qs, .int (mI St), .int (mI Mv), .int (mI Sm), .int (mI Ho), .ref q1, .ref q2, .ref q3, .ref q4, .int (mI Su), .int (mI Op), .int (mI Sd), .int (mI Od), .int (mI Sp), .int (mI Oq), .ref q5])), (q2, .inl (cI, 12, .inl (fun j => mI (Bk j))))]) [0, 1] rfl
            refine vp_callSi (va_Run.run (va_runV (As := [.int (nI a), .int (mI (Up (pOf Hu P (X a)))), .int (bI ms)]) (rest := []) ⟨hx, hb, hml, hown, hts⟩ (c_Se_force l D cI cZ cJ cS aT ceT  h0 qm qs q1 q2 q3 q4 q5 St Mv Sm Ho Su Op Sd Od Sp Oq Bk (Up (pOf Hu P (X a))) ms a h_a) (cwV 3 hts (tb_4 wd_552 wd_554 wp_16 wd_5 (tb_c wd_555)) rfl rfl rfl ⟨rfl, by decide, by decide, by decide +kernel⟩ ⟨Nat.le_of_ble_eq_true rfl, Nat.le_of_ble_eq_true rfl⟩) (tP_V hK hX hXH hPc (q := 0) rfl rfl) rfl rfl hl.1 rfl (lv_room (Nat.le_of_ble_eq_true rfl)) d_Se_attack_140 ⟨Nat.le_of_ble_eq_true rfl, Nat.le_of_ble_eq_true rfl⟩)) (fun r65 hr9 => ?_)
            rw [hr9]
            exact W.iret (v := nI (frcC Bk Su Op (Up (pOf Hu P (X a))) ms a)) hx hb hr (fun t ht hW => ⟨nI (frcC Bk Su Op (Up (pOf Hu P (X a))) ms a), rfl, congrArg nI (by simp [atkC, hb2, hb39, hb45, hb49, hc64]), ht⟩) (fun q hq => by cases hq) d_Se_attack_143
          · -- 125 not taken
            have hc64 : pOf Hu P (X a) = pOf Hu P a := (nI_lit (Nat.lt_trans (pOf_lt hP4 _) (by decide)) (Nat.lt_trans (pOf_lt hP4 _) (by decide))).mp hc64
            refine lv_iconst (v := 0) hx hb d_Se_attack_128 (by decide) ?_
            exact W.iret (v := 0) hx hb hr (fun t ht hW => ⟨0, rfl, show nI 0 = _ from congrArg nI (by simp [atkC, hb2, hb39, hb45, hb49, hc64]), ht⟩) (fun q hq => by cases hq) d_Se_attack_129
      · refine tr_top e9 ?_
        refine lv_if_eq (tgt := 97) hx hb d_Se_attack_74 (by decide) (fun _ => ?_) (fun h0 => absurd (by decide) h0)
        refine lv_aload_n hx hb d_Se_attack_97 rfl (lv_at hl 2 rfl) ?_
        refine lv_iload_n hx hb d_Se_attack_98 rfl (lv_at hl 3 rfl) ?_
        refine lv_iconst (v := 0) hx hb d_Se_attack_99 (by decide) ?_
        refine tr_top (y := mI (fun _ => false)) mI_0.symm ?_
        refine lv_iload_n hx hb d_Se_attack_100 rfl (lv_at hl 4 rfl) ?_
        have hPc := hP.sub (ws' := [(h0, .inr (2, [.ref qm, .ref qs, .int (mI St), .int (mI Mv), .int (mI Sm), .int (mI Ho), .ref q1, .ref q2, .ref q3, .ref q4, .int (mI Su), .int (mI Op), .int (mI Sd), .int (mI Od), .int (mI Sp), .int (mI Oq), .ref q5])), (q2, .inl (cI, 12, .inl (fun j => mI (Bk j))))]) [0, 1] rfl
        refine vp_callSi (va_Run.run (va_runV (As := [.int (nI a), .int (mI (fun _ => false)), .int (bI ms)]) (rest := []) ⟨hx, hb, hml, hown, hts⟩ (c_Se_force l D cI cZ cJ cS aT ceT  h0 qm qs q1 q2 q3 q4 q5 St Mv Sm Ho Su Op Sd Od Sp Oq Bk (fun _ => false) ms a h_a) (cwV 3 hts (tb_4 wd_552 wd_554 wp_16 wd_5 (tb_c wd_555)) rfl rfl rfl ⟨rfl, by decide, by decide, by decide +kernel⟩ ⟨Nat.le_of_ble_eq_true rfl, Nat.le_of_ble_eq_true rfl⟩) (tP_V hK hX hXH hPc (q := 0) rfl rfl) rfl rfl hl.1 rfl (lv_room (Nat.le_of_ble_eq_true rfl)) d_Se_attack_101 ⟨Nat.le_of_ble_eq_true rfl, Nat.le_of_ble_eq_true rfl⟩)) (fun r67 hr9 => ?_)
        rw [hr9]
        exact W.iret (v := nI (frcC Bk Su Op (fun _ => false) ms a)) hx hb hr (fun t ht hW => ⟨nI (frcC Bk Su Op (fun _ => false) ms a), rfl, congrArg nI (by simp [atkC, hb2, hb39, hb45]), ht⟩) (fun q hq => by cases hq) d_Se_attack_104
    · refine tr_top e9 ?_
      refine lv_if_ne (tgt := 29) hx hb d_Se_attack_24 (by decide) (fun h0 => absurd (by decide) h0) (fun _ => ?_)
      refine lv_iconst (v := 0) hx hb d_Se_attack_27 (by decide) ?_
      exact W.iret (v := 0) hx hb hr (fun t ht hW => ⟨0, rfl, show nI 0 = _ from congrArg nI (by simp [atkC, hb2, hb39]), ht⟩) (fun q hq => by cases hq) d_Se_attack_28
