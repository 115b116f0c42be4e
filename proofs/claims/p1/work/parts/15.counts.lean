theorem d_Sh_centersOf_0 : decode b_Sh_centersOf 0 = .ok (.iconst 0, 1) := by decide +kernel
theorem d_Sh_centersOf_1 : decode b_Sh_centersOf 1 = .ok (.istore_n 2, 1) := by decide +kernel
theorem d_Sh_centersOf_2 : decode b_Sh_centersOf 2 = .ok (.iconst 0, 1) := by decide +kernel
theorem d_Sh_centersOf_3 : decode b_Sh_centersOf 3 = .ok (.istore_n 3, 1) := by decide +kernel
theorem d_Sh_centersOf_4 : decode b_Sh_centersOf 4 = .ok (.iload_n 3, 1) := by decide +kernel
theorem d_Sh_centersOf_5 : decode b_Sh_centersOf 5 = .ok (.bipush 12, 2) := by decide +kernel
theorem d_Sh_centersOf_7 : decode b_Sh_centersOf 7 = .ok (.if_icmp .ge 22, 3) := by decide +kernel
theorem d_Sh_centersOf_10 : decode b_Sh_centersOf 10 = .ok (.aload_n 0, 1) := by decide +kernel
theorem d_Sh_centersOf_11 : decode b_Sh_centersOf 11 = .ok (.getfield 27, 3) := by decide +kernel
theorem d_Sh_centersOf_14 : decode b_Sh_centersOf 14 = .ok (.iload_n 3, 1) := by decide +kernel
theorem d_Sh_centersOf_15 : decode b_Sh_centersOf 15 = .ok (.iaload, 1) := by decide +kernel
theorem d_Sh_centersOf_16 : decode b_Sh_centersOf 16 = .ok (.iload_n 1, 1) := by decide +kernel
theorem d_Sh_centersOf_17 : decode b_Sh_centersOf 17 = .ok (.if_icmp .ne 6, 3) := by decide +kernel
theorem d_Sh_centersOf_20 : decode b_Sh_centersOf 20 = .ok (.iinc 2 1, 3) := by decide +kernel
theorem d_Sh_centersOf_23 : decode b_Sh_centersOf 23 = .ok (.iinc 3 1, 3) := by decide +kernel
theorem d_Sh_centersOf_26 : decode b_Sh_centersOf 26 = .ok (.goto (-22), 3) := by decide +kernel
theorem d_Sh_centersOf_29 : decode b_Sh_centersOf 29 = .ok (.iload_n 2, 1) := by decide +kernel
theorem d_Sh_centersOf_30 : decode b_Sh_centersOf 30 = .ok (.ireturn, 1) := by decide +kernel

set_option maxHeartbeats 4000000 in
set_option maxRecDepth 100000 in
theorem c_Sh_centersOf (l : Launch) (D : va_G) (cI cZ cJ cS : ClassId) (aT : Nat) (ceT : Cell) (h0 : Nat) (tn : Int32) (qu qo qx qy qr qw : Nat) (fw : Nat → Int32) (pl : Int32)  : Met l y_Sh_centersOf w_Sh_centersOf ({ frames := 0, cells := 0, slots := 0, locals := 0 }) (tP D cI cZ cJ cS aT ceT [.ref h0, .int pl] [(h0, .inr (3, [.int tn, .ref qu, .ref qo, .ref qx, .ref qy, .ref qr, .ref qw])), (qw, .inl (cI, 12, .inl fw))]) (vp_Si (fun r => r = nI (cnt fw pl 12))) 0 0 (fun _ => False) := by
  refine Met.ofW (cc := b_Sh_centersOf) (maxL := 4) (ret := (some .int)) (by decide) rfl ?_
  intro p e s m args below meth c s₁ B hml hv
  obtain ⟨rfl, hP, hK, hX⟩ := hv
  have hx := B.exec
  have hb := B.bytes
  have hr := B.returns
  have hts0 := atoms_spec (ws := w_Sh_centersOf) B.pre
  have hts : ∀ w ∈ TB, w.before _ s = true := fun w h => hts0 w (List.mem_cons_of_mem _ h)
  have hown : s.vm.findClass R_Sh = some m.cls := findClass_of_methodNamed B.named
  have hlocks := B.notSynchronized
  have hXH : s.heap[aT]? = s.heap[aT]? := rfl
  have hl := lv_entry ([.ref h0, .int pl]) (n := 4) (Nat.le_of_ble_eq_true rfl)
  rw [lg_entry_eq]
  generalize (lg_sl ([.ref h0, .int pl]) ++ List.replicate (4 - (lg_sl ([.ref h0, .int pl])).length) Slot.unset).toArray = ls at hl ⊢
  have hl : lv_has ls 4 [(0, .ref h0), (1, .int pl)] := hl
  refine lv_iconst (v := 0) hx hb d_Sh_centersOf_0 (by decide) ?_
  refine lv_istore_n (lv' := [(2, .int 0), (0, .ref h0), (1, .int pl)]) hx hb d_Sh_centersOf_1 rfl hl (by decide) rfl (fun ls hl => ?_)
  refine lv_iconst (v := 0) hx hb d_Sh_centersOf_2 (by decide) ?_
  refine lv_istore_n (lv' := [(3, .int 0), (2, .int 0), (0, .ref h0), (1, .int pl)]) hx hb d_Sh_centersOf_3 rfl hl (by decide) rfl (fun ls hl => ?_)
  have loop : ∀ (k i : Nat) (ls : Array Slot), i + k = 12 → lv_has ls 4 [(3, .int (nI i)), (2, .int (nI (cnt fw pl i))), (0, .ref h0), (1, .int pl)] → W p l e (headSpec w_Sh_centersOf ({ frames := 0, cells := 0, slots := 0, locals := 0 })).room s m ([.ref h0, .int pl]).toArray below meth c s.heap [] 0 0 (MQ below (vp_Si (fun r => r = nI (cnt fw pl 12))) ([.ref h0, .int pl]).toArray s 0 0 (fun _ => False)) (F0 m 4 ls []) := by
    intro k
    induction k with
    | zero =>
      intro i ls hi hl
      obtain rfl : i = 12 := by omega
      refine lv_iload_n hx hb d_Sh_centersOf_4 rfl (lv_at hl 0 rfl) ?_
      refine lv_bipush (v := 12) hx hb d_Sh_centersOf_5 (by decide) ?_
      refine lv_icmp_ge (tgt := 29) hx hb d_Sh_centersOf_7 (by decide) (fun _ => ?_) (fun h0 => absurd (by decide) h0)
      refine lv_iload_n hx hb d_Sh_centersOf_29 rfl (lv_at hl 1 rfl) ?_
      exact W.iret (v := nI (cnt fw pl 12)) hx hb hr (fun t ht hW => ⟨nI (cnt fw pl 12), rfl, rfl, ht⟩) (fun q hq => by cases hq) d_Sh_centersOf_30
    | succ k ih =>
      intro i ls hi hl
      have hlt : i < 12 := by omega
      refine lv_iload_n hx hb d_Sh_centersOf_4 rfl (lv_at hl 0 rfl) ?_
      refine lv_bipush (v := 12) hx hb d_Sh_centersOf_5 (by decide) ?_
      refine lv_icmp_ge (tgt := 29) hx hb d_Sh_centersOf_7 (by decide) (fun h0 => absurd h0 (nI_ge hlt (by decide))) (fun _ => ?_)
      refine lv_aload_n hx hb d_Sh_centersOf_10 rfl (lv_at hl 2 rfl) ?_
      refine va_get (D := D) (ci := 3) (v := .ref qw) (C := R_Sh) (T := T_Sh) (N := 7) hx hb hts hin_Sh hown hK hP 0 rfl rfl 6 (by decide) (hts _ wd_80) (fun _ h9 => h9) rfl d_Sh_centersOf_11 ?_
      refine lv_iload_n hx hb d_Sh_centersOf_14 rfl (lv_at hl 0 rfl) ?_
      refine va_iald hx hb hK hP 1 0 rfl rfl (vp_in_nI hlt (by decide)) d_Sh_centersOf_15 ?_
      refine lv_iload_n hx hb d_Sh_centersOf_16 rfl (lv_at hl 3 rfl) ?_
      refine lv_icmp_ne (tgt := 23) hx hb d_Sh_centersOf_17 (by decide) (fun hc3 => ?_) (fun hc3 => ?_)
      · -- 17 taken
        refine lv_iinc (lv' := [(3, .int ((nI i) + 1)), (2, .int (nI (cnt fw pl i))), (0, .ref h0), (1, .int pl)]) hx hb d_Sh_centersOf_23 hl (k := 0) rfl rfl (by decide) rfl (fun ls hl => ?_)
        refine lv_goto (tgt := 4) hx hb d_Sh_centersOf_26 (by decide) ?_
        have e4 : (nI i) + 1 = nI (i + 1) := nI_1 i
        have e5 : nI (cnt fw pl i) = nI (cnt fw pl (i + 1)) := by rw [cnt, if_neg (by rw [nI_clamp (Nat.lt_trans hlt (by decide))] at hc3; exact hc3), Nat.add_zero]
        rw [e4, e5] at hl
        exact ih (i + 1) ls (by omega) (lv_sub hl [0, 1, 2, 3] rfl)
      · -- 17 not taken
        refine lv_iinc (lv' := [(2, .int ((nI (cnt fw pl i)) + 1)), (3, .int (nI i)), (0, .ref h0), (1, .int pl)]) hx hb d_Sh_centersOf_20 hl (k := 1) rfl rfl (by decide) rfl (fun ls hl => ?_)
        refine lv_iinc (lv' := [(3, .int ((nI i) + 1)), (2, .int ((nI (cnt fw pl i)) + 1)), (0, .ref h0), (1, .int pl)]) hx hb d_Sh_centersOf_23 hl (k := 1) rfl rfl (by decide) rfl (fun ls hl => ?_)
        refine lv_goto (tgt := 4) hx hb d_Sh_centersOf_26 (by decide) ?_
        have e6 : (nI i) + 1 = nI (i + 1) := nI_1 i
        have e7 : (nI (cnt fw pl i)) + 1 = nI (cnt fw pl (i + 1)) := by rw [cnt, if_pos (by rw [nI_clamp (Nat.lt_trans hlt (by decide))] at hc3; exact hc3)]; exact nI_1 _
        rw [e6, e7] at hl
        exact ih (i + 1) ls (by omega) (lv_sub hl [0, 1, 2, 3] rfl)
  exact loop 12 0 ls rfl hl

/-- the units of a player: a place that is -1 counts for none -/
def cntU (f : Nat → Int32) (p : Int32) : Nat → Nat
  | 0 => 0
  | k + 1 => cntU f p k + if (¬ f k = -1) ∧ f k / 2 = p then 1 else 0

theorem d_Sh_unitsOf_0 : decode b_Sh_unitsOf 0 = .ok (.iconst 0, 1) := by decide +kernel
theorem d_Sh_unitsOf_1 : decode b_Sh_unitsOf 1 = .ok (.istore_n 2, 1) := by decide +kernel
theorem d_Sh_unitsOf_2 : decode b_Sh_unitsOf 2 = .ok (.iconst 0, 1) := by decide +kernel
theorem d_Sh_unitsOf_3 : decode b_Sh_unitsOf 3 = .ok (.istore_n 3, 1) := by decide +kernel
theorem d_Sh_unitsOf_4 : decode b_Sh_unitsOf 4 = .ok (.iload_n 3, 1) := by decide +kernel
theorem d_Sh_unitsOf_5 : decode b_Sh_unitsOf 5 = .ok (.bipush 12, 2) := by decide +kernel
theorem d_Sh_unitsOf_7 : decode b_Sh_unitsOf 7 = .ok (.if_icmp .ge 29, 3) := by decide +kernel
theorem d_Sh_unitsOf_10 : decode b_Sh_unitsOf 10 = .ok (.aload_n 0, 1) := by decide +kernel
theorem d_Sh_unitsOf_11 : decode b_Sh_unitsOf 11 = .ok (.iload_n 3, 1) := by decide +kernel
theorem d_Sh_unitsOf_12 : decode b_Sh_unitsOf 12 = .ok (.invokevirtual 46, 3) := by decide +kernel
theorem d_Sh_unitsOf_15 : decode b_Sh_unitsOf 15 = .ok (.ifCond .eq 15, 3) := by decide +kernel
theorem d_Sh_unitsOf_18 : decode b_Sh_unitsOf 18 = .ok (.aload_n 0, 1) := by decide +kernel
theorem d_Sh_unitsOf_19 : decode b_Sh_unitsOf 19 = .ok (.iload_n 3, 1) := by decide +kernel
theorem d_Sh_unitsOf_20 : decode b_Sh_unitsOf 20 = .ok (.invokevirtual 50, 3) := by decide +kernel
theorem d_Sh_unitsOf_23 : decode b_Sh_unitsOf 23 = .ok (.iload_n 1, 1) := by decide +kernel
theorem d_Sh_unitsOf_24 : decode b_Sh_unitsOf 24 = .ok (.if_icmp .ne 6, 3) := by decide +kernel
theorem d_Sh_unitsOf_27 : decode b_Sh_unitsOf 27 = .ok (.iinc 2 1, 3) := by decide +kernel
theorem d_Sh_unitsOf_30 : decode b_Sh_unitsOf 30 = .ok (.iinc 3 1, 3) := by decide +kernel
theorem d_Sh_unitsOf_33 : decode b_Sh_unitsOf 33 = .ok (.goto (-29), 3) := by decide +kernel
theorem d_Sh_unitsOf_36 : decode b_Sh_unitsOf 36 = .ok (.iload_n 2, 1) := by decide +kernel
theorem d_Sh_unitsOf_37 : decode b_Sh_unitsOf 37 = .ok (.ireturn, 1) := by decide +kernel
theorem wd_289 : (Cond.code ({ cls := "SheetWar$Sheet", name := "hasUnit", desc := "(I)Z" } : MethodName) prog_5_method_3_code (2 : Nat) (Option.some FieldType.boolean)) ∈ TB := tb_t 289 (by decide +kernel) (by decide +kernel)
theorem wd_310 : (Cond.methodLink "SheetWar$Sheet" (46 : Nat) ({ cls := "SheetWar$Sheet", name := "hasUnit", desc := "(I)Z" } : MethodName)) ∈ TB := tb_t 310 (by decide +kernel) (by decide +kernel)
theorem wd_287 : (Cond.instanceMethod ({ cls := "SheetWar$Sheet", name := "hasUnit", desc := "(I)Z" } : MethodName)) ∈ TB := tb_t 287 (by decide +kernel) (by decide +kernel)
theorem wd_288 : (Cond.selects "SheetWar$Sheet" ({ cls := "SheetWar$Sheet", name := "hasUnit", desc := "(I)Z" } : MethodName) ({ cls := "SheetWar$Sheet", name := "hasUnit", desc := "(I)Z" } : MethodName)) ∈ TB := tb_t 288 (by decide +kernel) (by decide +kernel)
theorem wd_314 : (Cond.code ({ cls := "SheetWar$Sheet", name := "playerAt", desc := "(I)I" } : MethodName) prog_5_method_4_code (2 : Nat) (Option.some FieldType.int)) ∈ TB := tb_t 314 (by decide +kernel) (by decide +kernel)
theorem wd_311 : (Cond.methodLink "SheetWar$Sheet" (50 : Nat) ({ cls := "SheetWar$Sheet", name := "playerAt", desc := "(I)I" } : MethodName)) ∈ TB := tb_t 311 (by decide +kernel) (by decide +kernel)
theorem wd_312 : (Cond.instanceMethod ({ cls := "SheetWar$Sheet", name := "playerAt", desc := "(I)I" } : MethodName)) ∈ TB := tb_t 312 (by decide +kernel) (by decide +kernel)
theorem wd_313 : (Cond.selects "SheetWar$Sheet" ({ cls := "SheetWar$Sheet", name := "playerAt", desc := "(I)I" } : MethodName) ({ cls := "SheetWar$Sheet", name := "playerAt", desc := "(I)I" } : MethodName)) ∈ TB := tb_t 313 (by decide +kernel) (by decide +kernel)
set_option maxHeartbeats 4000000 in
set_option maxRecDepth 100000 in
theorem c_Sh_unitsOf (l : Launch) (D : va_G) (cI cZ cJ cS : ClassId) (aT : Nat) (ceT : Cell) (h0 : Nat) (tn : Int32) (qu qo qx qy qr qw : Nat) (fu : Nat → Int32) (pl : Int32)  : Met l y_Sh_unitsOf w_Sh_unitsOf ({ frames := 1, cells := 0, slots := 0, locals := 21 }) (tP D cI cZ cJ cS aT ceT [.ref h0, .int pl] [(h0, .inr (3, [.int tn, .ref qu, .ref qo, .ref qx, .ref qy, .ref qr, .ref qw])), (qu, .inl (cI, 12, .inl fu))]) (vp_Si (fun r => r = nI (cntU fu pl 12))) 0 0 (fun _ => False) := by
  refine Met.ofW (cc := b_Sh_unitsOf) (maxL := 4) (ret := (some .int)) (by decide) rfl ?_
  intro p e s m args below meth c s₁ B hml hv
  obtain ⟨rfl, hP, hK, hX⟩ := hv
  have hx := B.exec
  have hb := B.bytes
  have hr := B.returns
  have hts0 := atoms_spec (ws := w_Sh_unitsOf) B.pre
  have hts : ∀ w ∈ TB, w.before _ s = true := fun w h => hts0 w (List.mem_cons_of_mem _ h)
  have hown : s.vm.findClass R_Sh = some m.cls := findClass_of_methodNamed B.named
  have hlocks := B.notSynchronized
  have hXH : s.heap[aT]? = s.heap[aT]? := rfl
  have hl := lv_entry ([.ref h0, .int pl]) (n := 4) (Nat.le_of_ble_eq_true rfl)
  rw [lg_entry_eq]
  generalize (lg_sl ([.ref h0, .int pl]) ++ List.replicate (4 - (lg_sl ([.ref h0, .int pl])).length) Slot.unset).toArray = ls at hl ⊢
  have hl : lv_has ls 4 [(0, .ref h0), (1, .int pl)] := hl
  refine lv_iconst (v := 0) hx hb d_Sh_unitsOf_0 (by decide) ?_
  refine lv_istore_n (lv' := [(2, .int 0), (0, .ref h0), (1, .int pl)]) hx hb d_Sh_unitsOf_1 rfl hl (by decide) rfl (fun ls hl => ?_)
  refine lv_iconst (v := 0) hx hb d_Sh_unitsOf_2 (by decide) ?_
  refine lv_istore_n (lv' := [(3, .int 0), (2, .int 0), (0, .ref h0), (1, .int pl)]) hx hb d_Sh_unitsOf_3 rfl hl (by decide) rfl (fun ls hl => ?_)
  have loop : ∀ (k i : Nat) (ls : Array Slot), i + k = 12 → lv_has ls 4 [(3, .int (nI i)), (2, .int (nI (cntU fu pl i))), (0, .ref h0), (1, .int pl)] → W p l e (headSpec w_Sh_unitsOf ({ frames := 1, cells := 0, slots := 0, locals := 21 })).room s m ([.ref h0, .int pl]).toArray below meth c s.heap [] 0 0 (MQ below (vp_Si (fun r => r = nI (cntU fu pl 12))) ([.ref h0, .int pl]).toArray s 0 0 (fun _ => False)) (F0 m 4 ls []) := by
    intro k
    induction k with
    | zero =>
      intro i ls hi hl
      obtain rfl : i = 12 := by omega
      refine lv_iload_n hx hb d_Sh_unitsOf_4 rfl (lv_at hl 0 rfl) ?_
      refine lv_bipush (v := 12) hx hb d_Sh_unitsOf_5 (by decide) ?_
      refine lv_icmp_ge (tgt := 36) hx hb d_Sh_unitsOf_7 (by decide) (fun _ => ?_) (fun h0 => absurd (by decide) h0)
      refine lv_iload_n hx hb d_Sh_unitsOf_36 rfl (lv_at hl 1 rfl) ?_
      exact W.iret (v := nI (cntU fu pl 12)) hx hb hr (fun t ht hW => ⟨nI (cntU fu pl 12), rfl, rfl, ht⟩) (fun q hq => by cases hq) d_Sh_unitsOf_37
    | succ k ih =>
      intro i ls hi hl
      have hlt : i < 12 := by omega
      refine lv_iload_n hx hb d_Sh_unitsOf_4 rfl (lv_at hl 0 rfl) ?_
      refine lv_bipush (v := 12) hx hb d_Sh_unitsOf_5 (by decide) ?_
      refine lv_icmp_ge (tgt := 36) hx hb d_Sh_unitsOf_7 (by decide) (fun h0 => absurd h0 (nI_ge hlt (by decide))) (fun _ => ?_)
      refine lv_aload_n hx hb d_Sh_unitsOf_10 rfl (lv_at hl 2 rfl) ?_
      refine lv_iload_n hx hb d_Sh_unitsOf_11 rfl (lv_at hl 0 rfl) ?_
      have hPc := hP.sub (ws' := [(h0, .inr (3, [.int tn, .ref qu, .ref qo, .ref qx, .ref qy, .ref qr, .ref qw])), (qu, .inl (cI, 12, .inl fu))]) [0, 1] rfl
      refine vp_callSi (va_Run.run (va_runV (As := [.int (nI i)]) (rest := []) ⟨hx, hb, hml, hown, hts⟩ (c_Sh_hasUnit l D cI cZ cJ cS aT ceT  h0 tn qu qo qx qy qr qw fu (nI i) (vp_in_nI hlt (by decide))) (cwV 1 hts (tb_4 wd_310 wd_287 wd_288 wd_3 (tb_c wd_289)) rfl rfl rfl ⟨rfl, by decide, by decide, by decide +kernel⟩ ⟨Nat.le_of_ble_eq_true rfl, Nat.le_of_ble_eq_true rfl⟩) (tP_V hK hX hXH hPc (q := 0) rfl rfl) rfl rfl hl.1 rfl (lv_room (Nat.le_of_ble_eq_true rfl)) d_Sh_unitsOf_12 ⟨Nat.le_of_ble_eq_true rfl, Nat.le_of_ble_eq_true rfl⟩)) (fun r3 hr9 => ?_)
      rcases hr9 with ⟨rfl, hq4⟩ | ⟨rfl, hq4⟩
      · -- 12: true
        refine lv_if_eq (tgt := 30) hx hb d_Sh_unitsOf_15 (by decide) (fun h0 => absurd h0 (by decide)) (fun _ => ?_)
        refine lv_aload_n hx hb d_Sh_unitsOf_18 rfl (lv_at hl 2 rfl) ?_
        refine lv_iload_n hx hb d_Sh_unitsOf_19 rfl (lv_at hl 0 rfl) ?_
        have hPc := hP.sub (ws' := [(h0, .inr (3, [.int tn, .ref qu, .ref qo, .ref qx, .ref qy, .ref qr, .ref qw])), (qu, .inl (cI, 12, .inl fu))]) [0, 1] rfl
        refine vp_callSi (va_Run.run (va_runV (As := [.int (nI i)]) (rest := []) ⟨hx, hb, hml, hown, hts⟩ (c_Sh_playerAt l D cI cZ cJ cS aT ceT  h0 tn qu qo qx qy qr qw fu (nI i) (vp_in_nI hlt (by decide))) (cwV 1 hts (tb_4 wd_311 wd_312 wd_313 wd_3 (tb_c wd_314)) rfl rfl rfl ⟨rfl, by decide, by decide, by decide +kernel⟩ ⟨Nat.le_of_ble_eq_true rfl, Nat.le_of_ble_eq_true rfl⟩) (tP_V hK hX hXH hPc (q := 0) rfl rfl) rfl rfl hl.1 rfl (lv_room (Nat.le_of_ble_eq_true rfl)) d_Sh_unitsOf_20 ⟨Nat.le_of_ble_eq_true rfl, Nat.le_of_ble_eq_true rfl⟩)) (fun r6 hr9 => ?_)
        rw [hr9]
        refine lv_iload_n hx hb d_Sh_unitsOf_23 rfl (lv_at hl 3 rfl) ?_
        refine lv_icmp_ne (tgt := 30) hx hb d_Sh_unitsOf_24 (by decide) (fun hc7 => ?_) (fun hc7 => ?_)
        · -- 24 taken
          refine lv_iinc (lv' := [(3, .int ((nI i) + 1)), (2, .int (nI (cntU fu pl i))), (0, .ref h0), (1, .int pl)]) hx hb d_Sh_unitsOf_30 hl (k := 0) rfl rfl (by decide) rfl (fun ls hl => ?_)
          refine lv_goto (tgt := 4) hx hb d_Sh_unitsOf_33 (by decide) ?_
          have e8 : (nI i) + 1 = nI (i + 1) := nI_1 i
          have e9 : nI (cntU fu pl i) = nI (cntU fu pl (i + 1)) := by rw [nI_clamp (Nat.lt_trans hlt (by decide))] at hq4; rw [nI_clamp (Nat.lt_trans hlt (by decide))] at hc7; rw [cntU, if_neg (fun h => hc7 h.2), Nat.add_zero]
          rw [e8, e9] at hl
          exact ih (i + 1) ls (by omega) (lv_sub hl [0, 1, 2, 3] rfl)
        · -- 24 not taken
          refine lv_iinc (lv' := [(2, .int ((nI (cntU fu pl i)) + 1)), (3, .int (nI i)), (0, .ref h0), (1, .int pl)]) hx hb d_Sh_unitsOf_27 hl (k := 1) rfl rfl (by decide) rfl (fun ls hl => ?_)
          refine lv_iinc (lv' := [(3, .int ((nI i) + 1)), (2, .int ((nI (cntU fu pl i)) + 1)), (0, .ref h0), (1, .int pl)]) hx hb d_Sh_unitsOf_30 hl (k := 1) rfl rfl (by decide) rfl (fun ls hl => ?_)
          refine lv_goto (tgt := 4) hx hb d_Sh_unitsOf_33 (by decide) ?_
          have e10 : (nI i) + 1 = nI (i + 1) := nI_1 i
          have e11 : (nI (cntU fu pl i)) + 1 = nI (cntU fu pl (i + 1)) := by rw [nI_clamp (Nat.lt_trans hlt (by decide))] at hq4; rw [nI_clamp (Nat.lt_trans hlt (by decide))] at hc7; rw [cntU, if_pos ⟨hq4, hc7⟩]; exact nI_1 _
          rw [e10, e11] at hl
          exact ih (i + 1) ls (by omega) (lv_sub hl [0, 1, 2, 3] rfl)
      · -- 12: false
        refine lv_if_eq (tgt := 30) hx hb d_Sh_unitsOf_15 (by decide) (fun _ => ?_) (fun h0 => absurd (by decide) h0)
        refine lv_iinc (lv' := [(3, .int ((nI i) + 1)), (2, .int (nI (cntU fu pl i))), (0, .ref h0), (1, .int pl)]) hx hb d_Sh_unitsOf_30 hl (k := 0) rfl rfl (by decide) rfl (fun ls hl => ?_)
        refine lv_goto (tgt := 4) hx hb d_Sh_unitsOf_33 (by decide) ?_
        have e13 : (nI i) + 1 = nI (i + 1) := nI_1 i
        have e14 : nI (cntU fu pl i) = nI (cntU fu pl (i + 1)) := by rw [nI_clamp (Nat.lt_trans hlt (by decide))] at hq4; rw [cntU, if_neg (fun h => hq4 h.1), Nat.add_zero]
        rw [e13, e14] at hl
        exact ih (i + 1) ls (by omega) (lv_sub hl [0, 1, 2, 3] rfl)
  exact loop 12 0 ls rfl hl

theorem d_Sw_count_0 : decode b_Sw_count 0 = .ok (.iload_n 1, 1) := by decide +kernel
theorem d_Sw_count_1 : decode b_Sw_count 1 = .ok (.invokestatic 53, 3) := by decide +kernel
theorem d_Sw_count_4 : decode b_Sw_count 4 = .ok (.ifCond .ne 5, 3) := by decide +kernel
theorem d_Sw_count_7 : decode b_Sw_count 7 = .ok (.iconst 0, 1) := by decide +kernel
theorem d_Sw_count_8 : decode b_Sw_count 8 = .ok (.ireturn, 1) := by decide +kernel
theorem d_Sw_count_9 : decode b_Sw_count 9 = .ok (.iload_n 2, 1) := by decide +kernel
theorem d_Sw_count_10 : decode b_Sw_count 10 = .ok (.ifCond .ne 12, 3) := by decide +kernel
theorem d_Sw_count_13 : decode b_Sw_count 13 = .ok (.aload_n 0, 1) := by decide +kernel
theorem d_Sw_count_14 : decode b_Sw_count 14 = .ok (.getfield 19, 3) := by decide +kernel
theorem d_Sw_count_17 : decode b_Sw_count 17 = .ok (.iload_n 1, 1) := by decide +kernel
theorem d_Sw_count_18 : decode b_Sw_count 18 = .ok (.invokevirtual 171, 3) := by decide +kernel
theorem d_Sw_count_21 : decode b_Sw_count 21 = .ok (.ireturn, 1) := by decide +kernel
theorem d_Sw_count_22 : decode b_Sw_count 22 = .ok (.iload_n 2, 1) := by decide +kernel
theorem d_Sw_count_23 : decode b_Sw_count 23 = .ok (.iconst 1, 1) := by decide +kernel
theorem d_Sw_count_24 : decode b_Sw_count 24 = .ok (.if_icmp .ne 14, 3) := by decide +kernel
theorem d_Sw_count_27 : decode b_Sw_count 27 = .ok (.aload_n 0, 1) := by decide +kernel
theorem d_Sw_count_28 : decode b_Sw_count 28 = .ok (.getfield 19, 3) := by decide +kernel
theorem d_Sw_count_31 : decode b_Sw_count 31 = .ok (.iload_n 1, 1) := by decide +kernel
theorem d_Sw_count_32 : decode b_Sw_count 32 = .ok (.invokevirtual 174, 3) := by decide +kernel
theorem d_Sw_count_35 : decode b_Sw_count 35 = .ok (.goto 4, 3) := by decide +kernel
theorem d_Sw_count_38 : decode b_Sw_count 38 = .ok (.iconst 0, 1) := by decide +kernel
theorem d_Sw_count_39 : decode b_Sw_count 39 = .ok (.ireturn, 1) := by decide +kernel
theorem wd_301 : (Cond.code ({ cls := "SheetWar", name := "isPlayer", desc := "(I)Z" } : MethodName) prog_1_method_21_code (1 : Nat) (Option.some FieldType.boolean)) ∈ TB := tb_t 301 (by decide +kernel) (by decide +kernel)
theorem wd_299 : (Cond.methodLink "SheetWar" (53 : Nat) ({ cls := "SheetWar", name := "isPlayer", desc := "(I)Z" } : MethodName)) ∈ TB := tb_t 299 (by decide +kernel) (by decide +kernel)
theorem wd_300 : (Cond.static ({ cls := "SheetWar", name := "isPlayer", desc := "(I)Z" } : MethodName)) ∈ TB := tb_t 300 (by decide +kernel) (by decide +kernel)
theorem wd_1 : (Cond.initialized "SheetWar") ∈ TB := tb_t 1 (by decide +kernel) (by decide +kernel)
theorem wd_309 : (Cond.code ({ cls := "SheetWar$Sheet", name := "unitsOf", desc := "(I)I" } : MethodName) prog_5_method_9_code (4 : Nat) (Option.some FieldType.int)) ∈ TB := tb_t 309 (by decide +kernel) (by decide +kernel)
theorem wd_306 : (Cond.methodLink "SheetWar" (174 : Nat) ({ cls := "SheetWar$Sheet", name := "unitsOf", desc := "(I)I" } : MethodName)) ∈ TB := tb_t 306 (by decide +kernel) (by decide +kernel)
theorem wd_307 : (Cond.instanceMethod ({ cls := "SheetWar$Sheet", name := "unitsOf", desc := "(I)I" } : MethodName)) ∈ TB := tb_t 307 (by decide +kernel) (by decide +kernel)
theorem wd_308 : (Cond.selects "SheetWar$Sheet" ({ cls := "SheetWar$Sheet", name := "unitsOf", desc := "(I)I" } : MethodName) ({ cls := "SheetWar$Sheet", name := "unitsOf", desc := "(I)I" } : MethodName)) ∈ TB := tb_t 308 (by decide +kernel) (by decide +kernel)
theorem wd_305 : (Cond.code ({ cls := "SheetWar$Sheet", name := "centersOf", desc := "(I)I" } : MethodName) prog_5_method_8_code (4 : Nat) (Option.some FieldType.int)) ∈ TB := tb_t 305 (by decide +kernel) (by decide +kernel)
theorem wd_302 : (Cond.methodLink "SheetWar" (171 : Nat) ({ cls := "SheetWar$Sheet", name := "centersOf", desc := "(I)I" } : MethodName)) ∈ TB := tb_t 302 (by decide +kernel) (by decide +kernel)
theorem wd_303 : (Cond.instanceMethod ({ cls := "SheetWar$Sheet", name := "centersOf", desc := "(I)I" } : MethodName)) ∈ TB := tb_t 303 (by decide +kernel) (by decide +kernel)
theorem wd_304 : (Cond.selects "SheetWar$Sheet" ({ cls := "SheetWar$Sheet", name := "centersOf", desc := "(I)I" } : MethodName) ({ cls := "SheetWar$Sheet", name := "centersOf", desc := "(I)I" } : MethodName)) ∈ TB := tb_t 304 (by decide +kernel) (by decide +kernel)
set_option maxHeartbeats 4000000 in
set_option maxRecDepth 100000 in
theorem c_Sw_count (l : Launch) (D : va_G) (cI cZ cJ cS : ClassId) (aT : Nat) (ceT : Cell) (h0 hm hh he ha hp : Nat) (ph : Int32) (tn : Int32) (qu qo qx qy qr qw : Nat) (fu fw : Nat → Int32) (pl w : Int32)  : Met l y_Sw_count w_Sw_count ({ frames := 2, cells := 0, slots := 0, locals := 44 }) (tP D cI cZ cJ cS aT ceT [.ref h0, .int pl, .int w] [(h0, .inr (5, [.ref hm, .ref hh, .ref he, .ref ha, .ref hp, .int ph])), (hh, .inr (3, [.int tn, .ref qu, .ref qo, .ref qx, .ref qy, .ref qr, .ref qw])), (qu, .inl (cI, 12, .inl fu)), (qw, .inl (cI, 12, .inl fw))]) (vp_Si (fun r => r = if 0 ≤ pl ∧ pl < 4 then (if w = 0 then nI (cnt fw pl 12) else if w = 1 then nI (cntU fu pl 12) else 0) else 0)) 0 0 (fun _ => False) := by
  refine Met.ofW (cc := b_Sw_count) (maxL := 3) (ret := (some .int)) (by decide) rfl ?_
  intro p e s m args below meth c s₁ B hml hv
  obtain ⟨rfl, hP, hK, hX⟩ := hv
  have hx := B.exec
  have hb := B.bytes
  have hr := B.returns
  have hts0 := atoms_spec (ws := w_Sw_count) B.pre
  have hts : ∀ w ∈ TB, w.before _ s = true := fun w h => hts0 w (List.mem_cons_of_mem _ h)
  have hown : s.vm.findClass R_Sw = some m.cls := findClass_of_methodNamed B.named
  have hlocks := B.notSynchronized
  have hXH : s.heap[aT]? = s.heap[aT]? := rfl
  have hl := lv_entry ([.ref h0, .int pl, .int w]) (n := 3) (Nat.le_of_ble_eq_true rfl)
  rw [lg_entry_eq]
  generalize (lg_sl ([.ref h0, .int pl, .int w]) ++ List.replicate (3 - (lg_sl ([.ref h0, .int pl, .int w])).length) Slot.unset).toArray = ls at hl ⊢
  have hl : lv_has ls 3 [(0, .ref h0), (1, .int pl), (2, .int w)] := hl
  refine lv_iload_n hx hb d_Sw_count_0 rfl (lv_at hl 1 rfl) ?_
  have hPc := hP.sub (ws' := []) [] rfl
  refine vp_callSi (va_Run.run (va_runS (As := [.int pl]) (rest := []) ⟨hx, hb, hml, hown, hts⟩ (c_Sw_isPlayer l D cI cZ cJ cS aT ceT  pl ) (va_cwS 1 hts (tb_3 wd_299 wd_300 wd_1 (tb_c wd_301)) rfl rfl rfl ⟨by decide, by decide, by decide +kernel⟩ ⟨Nat.le_of_ble_eq_true rfl, Nat.le_of_ble_eq_true rfl⟩) (tP_S hK hX hXH hPc) rfl rfl hl.1 rfl (lv_room (Nat.le_of_ble_eq_true rfl)) d_Sw_count_1 ⟨Nat.le_of_ble_eq_true rfl, Nat.le_of_ble_eq_true rfl⟩)) (fun r1 hr9 => ?_)
  rcases hr9 with ⟨rfl, hq2⟩ | ⟨rfl, hq2⟩
  · -- 1: true
    refine lv_if_ne (tgt := 9) hx hb d_Sw_count_4 (by decide) (fun _ => ?_) (fun h0 => absurd h0 (by decide))
    refine lv_iload_n hx hb d_Sw_count_9 rfl (lv_at hl 2 rfl) ?_
    refine lv_if_ne (tgt := 22) hx hb d_Sw_count_10 (by decide) (fun hc4 => ?_) (fun hc4 => ?_)
    · -- 10 taken
      refine lv_iload_n hx hb d_Sw_count_22 rfl (lv_at hl 2 rfl) ?_
      refine lv_iconst (v := 1) hx hb d_Sw_count_23 (by decide) ?_
      refine lv_icmp_ne (tgt := 38) hx hb d_Sw_count_24 (by decide) (fun hc5 => ?_) (fun hc5 => ?_)
      · -- 24 taken
        refine lv_iconst (v := 0) hx hb d_Sw_count_38 (by decide) ?_
        exact W.iret (v := 0) hx hb hr (fun t ht hW => ⟨0, rfl, by rw [if_pos hq2, if_neg hc4, if_neg hc5], ht⟩) (fun q hq => by cases hq) d_Sw_count_39
      · -- 24 not taken
        refine lv_aload_n hx hb d_Sw_count_27 rfl (lv_at hl 0 rfl) ?_
        refine va_get (D := D) (ci := 5) (v := .ref hh) (C := R_Sw) (T := T_Sw) (N := 6) hx hb hts hin_Sw hown hK hP 0 rfl rfl 1 (by decide) (hts _ wd_202) (fun _ h9 => h9) rfl d_Sw_count_28 ?_
        refine lv_iload_n hx hb d_Sw_count_31 rfl (lv_at hl 1 rfl) ?_
        have hPc := hP.sub (ws' := [(hh, .inr (3, [.int tn, .ref qu, .ref qo, .ref qx, .ref qy, .ref qr, .ref qw])), (qu, .inl (cI, 12, .inl fu))]) [1, 2] rfl
        refine vp_callSi (va_Run.run (va_runV (As := [.int pl]) (rest := []) ⟨hx, hb, hml, hown, hts⟩ (c_Sh_unitsOf l D cI cZ cJ cS aT ceT  hh tn qu qo qx qy qr qw fu pl ) (cwV 1 hts (tb_4 wd_306 wd_307 wd_308 wd_3 (tb_c wd_309)) rfl rfl rfl ⟨rfl, by decide, by decide, by decide +kernel⟩ ⟨Nat.le_of_ble_eq_true rfl, Nat.le_of_ble_eq_true rfl⟩) (tP_V hK hX hXH hPc (q := 0) rfl rfl) rfl rfl hl.1 rfl (lv_room (Nat.le_of_ble_eq_true rfl)) d_Sw_count_32 ⟨Nat.le_of_ble_eq_true rfl, Nat.le_of_ble_eq_true rfl⟩)) (fun r6 hr9 => ?_)
        rw [hr9]
        refine lv_goto (tgt := 39) hx hb d_Sw_count_35 (by decide) ?_
        exact W.iret (v := nI (cntU fu pl 12)) hx hb hr (fun t ht hW => ⟨nI (cntU fu pl 12), rfl, by rw [if_pos hq2, if_neg hc4, if_pos hc5], ht⟩) (fun q hq => by cases hq) d_Sw_count_39
    · -- 10 not taken
      refine lv_aload_n hx hb d_Sw_count_13 rfl (lv_at hl 0 rfl) ?_
      refine va_get (D := D) (ci := 5) (v := .ref hh) (C := R_Sw) (T := T_Sw) (N := 6) hx hb hts hin_Sw hown hK hP 0 rfl rfl 1 (by decide) (hts _ wd_202) (fun _ h9 => h9) rfl d_Sw_count_14 ?_
      refine lv_iload_n hx hb d_Sw_count_17 rfl (lv_at hl 1 rfl) ?_
      have hPc := hP.sub (ws' := [(hh, .inr (3, [.int tn, .ref qu, .ref qo, .ref qx, .ref qy, .ref qr, .ref qw])), (qw, .inl (cI, 12, .inl fw))]) [1, 3] rfl
      refine vp_callSi (va_Run.run (va_runV (As := [.int pl]) (rest := []) ⟨hx, hb, hml, hown, hts⟩ (c_Sh_centersOf l D cI cZ cJ cS aT ceT  hh tn qu qo qx qy qr qw fw pl ) (cwV 1 hts (tb_4 wd_302 wd_303 wd_304 wd_3 (tb_c wd_305)) rfl rfl rfl ⟨rfl, by decide, by decide, by decide +kernel⟩ ⟨Nat.le_of_ble_eq_true rfl, Nat.le_of_ble_eq_true rfl⟩) (tP_V hK hX hXH hPc (q := 0) rfl rfl) rfl rfl hl.1 rfl (lv_room (Nat.le_of_ble_eq_true rfl)) d_Sw_count_18 ⟨Nat.le_of_ble_eq_true rfl, Nat.le_of_ble_eq_true rfl⟩)) (fun r7 hr9 => ?_)
      rw [hr9]
      exact W.iret (v := nI (cnt fw pl 12)) hx hb hr (fun t ht hW => ⟨nI (cnt fw pl 12), rfl, by rw [if_pos hq2, if_pos hc4], ht⟩) (fun q hq => by cases hq) d_Sw_count_21
  · -- 1: false
    refine lv_if_ne (tgt := 9) hx hb d_Sw_count_4 (by decide) (fun h0 => absurd (by decide) h0) (fun _ => ?_)
    refine lv_iconst (v := 0) hx hb d_Sw_count_7 (by decide) ?_
    exact W.iret (v := 0) hx hb hr (fun t ht hW => ⟨0, rfl, by rw [if_neg hq2], ht⟩) (fun q hq => by cases hq) d_Sw_count_8

theorem d_Pa_takeBack_0 : decode b_Pa_takeBack 0 = .ok (.aload_n 0, 1) := by decide +kernel
theorem d_Pa_takeBack_1 : decode b_Pa_takeBack 1 = .ok (.getfield 24, 3) := by decide +kernel
theorem d_Pa_takeBack_4 : decode b_Pa_takeBack 4 = .ok (.ifCond .ne 5, 3) := by decide +kernel
theorem d_Pa_takeBack_7 : decode b_Pa_takeBack 7 = .ok (.iconst 0, 1) := by decide +kernel
theorem d_Pa_takeBack_8 : decode b_Pa_takeBack 8 = .ok (.ireturn, 1) := by decide +kernel
theorem d_Pa_takeBack_9 : decode b_Pa_takeBack 9 = .ok (.aload_n 0, 1) := by decide +kernel
theorem d_Pa_takeBack_10 : decode b_Pa_takeBack 10 = .ok (.aload_n 0, 1) := by decide +kernel
theorem d_Pa_takeBack_11 : decode b_Pa_takeBack 11 = .ok (.getfield 16, 3) := by decide +kernel
theorem d_Pa_takeBack_14 : decode b_Pa_takeBack 14 = .ok (.bipush 8, 2) := by decide +kernel
theorem d_Pa_takeBack_16 : decode b_Pa_takeBack 16 = .ok (.iadd, 1) := by decide +kernel
theorem d_Pa_takeBack_17 : decode b_Pa_takeBack 17 = .ok (.iconst 1, 1) := by decide +kernel
theorem d_Pa_takeBack_18 : decode b_Pa_takeBack 18 = .ok (.isub, 1) := by decide +kernel
theorem d_Pa_takeBack_19 : decode b_Pa_takeBack 19 = .ok (.bipush 8, 2) := by decide +kernel
theorem d_Pa_takeBack_21 : decode b_Pa_takeBack 21 = .ok (.irem, 1) := by decide +kernel
theorem d_Pa_takeBack_22 : decode b_Pa_takeBack 22 = .ok (.putfield 16, 3) := by decide +kernel
theorem d_Pa_takeBack_25 : decode b_Pa_takeBack 25 = .ok (.aload_n 0, 1) := by decide +kernel
theorem d_Pa_takeBack_26 : decode b_Pa_takeBack 26 = .ok (.dup, 1) := by decide +kernel
theorem d_Pa_takeBack_27 : decode b_Pa_takeBack 27 = .ok (.getfield 24, 3) := by decide +kernel
theorem d_Pa_takeBack_30 : decode b_Pa_takeBack 30 = .ok (.iconst 1, 1) := by decide +kernel
theorem d_Pa_takeBack_31 : decode b_Pa_takeBack 31 = .ok (.isub, 1) := by decide +kernel
theorem d_Pa_takeBack_32 : decode b_Pa_takeBack 32 = .ok (.putfield 24, 3) := by decide +kernel
theorem d_Pa_takeBack_35 : decode b_Pa_takeBack 35 = .ok (.aload_n 1, 1) := by decide +kernel
theorem d_Pa_takeBack_36 : decode b_Pa_takeBack 36 = .ok (.aload_n 0, 1) := by decide +kernel
theorem d_Pa_takeBack_37 : decode b_Pa_takeBack 37 = .ok (.getfield 11, 3) := by decide +kernel
theorem d_Pa_takeBack_40 : decode b_Pa_takeBack 40 = .ok (.aload_n 0, 1) := by decide +kernel
theorem d_Pa_takeBack_41 : decode b_Pa_takeBack 41 = .ok (.getfield 16, 3) := by decide +kernel
theorem d_Pa_takeBack_44 : decode b_Pa_takeBack 44 = .ok (.aaload, 1) := by decide +kernel
theorem d_Pa_takeBack_45 : decode b_Pa_takeBack 45 = .ok (.invokevirtual 20, 3) := by decide +kernel
theorem d_Pa_takeBack_48 : decode b_Pa_takeBack 48 = .ok (.iconst 1, 1) := by decide +kernel
theorem d_Pa_takeBack_49 : decode b_Pa_takeBack 49 = .ok (.ireturn, 1) := by decide +kernel
theorem wd_193 : (Cond.fieldLink "SheetWar$Past" (24 : Nat) "SheetWar$Past" "left" "I") ∈ TB := tb_t 193 (by decide +kernel) (by decide +kernel)
set_option maxHeartbeats 4000000 in
set_option maxRecDepth 100000 in
theorem c_Pa_takeBack0 (l : Launch) (D : va_G) (cI cZ cJ cS : ClassId) (aT : Nat) (ceT : Cell) (h0 hk hs : Nat) (nx : Int32)  : Met l y_Pa_takeBack w_Pa_takeBack ({ frames := 0, cells := 0, slots := 0, locals := 0 }) (tP D cI cZ cJ cS aT ceT [.ref h0, .ref hs] [(h0, .inr (1, [.ref hk, .int nx, .int 0]))]) (vp_Si (fun r => r = 0)) 0 0 (fun _ => False) := by
  refine Met.ofW (cc := b_Pa_takeBack) (maxL := 2) (ret := (some .boolean)) (by decide) rfl ?_
  intro p e s m args below meth c s₁ B hml hv
  obtain ⟨rfl, hP, hK, hX⟩ := hv
  have hx := B.exec
  have hb := B.bytes
  have hr := B.returns
  have hts0 := atoms_spec (ws := w_Pa_takeBack) B.pre
  have hts : ∀ w ∈ TB, w.before _ s = true := fun w h => hts0 w (List.mem_cons_of_mem _ h)
  have hown : s.vm.findClass R_Pa = some m.cls := findClass_of_methodNamed B.named
  have hlocks := B.notSynchronized
  have hXH : s.heap[aT]? = s.heap[aT]? := rfl
  have hl := lv_entry ([.ref h0, .ref hs]) (n := 2) (Nat.le_of_ble_eq_true rfl)
  rw [lg_entry_eq]
  generalize (lg_sl ([.ref h0, .ref hs]) ++ List.replicate (2 - (lg_sl ([.ref h0, .ref hs])).length) Slot.unset).toArray = ls at hl ⊢
  have hl : lv_has ls 2 [(0, .ref h0), (1, .ref hs)] := hl
  refine lv_aload_n hx hb d_Pa_takeBack_0 rfl (lv_at hl 0 rfl) ?_
  refine va_get (D := D) (ci := 1) (v := .int 0) (C := R_Pa) (T := T_Pa) (N := 3) hx hb hts hin_Pa hown hK hP 0 rfl rfl 2 (by decide) (hts _ wd_193) (fun _ h9 => h9) rfl d_Pa_takeBack_1 ?_
  refine lv_if_ne (tgt := 9) hx hb d_Pa_takeBack_4 (by decide) (fun h0 => absurd (by decide) h0) (fun _ => ?_)
  refine lv_iconst (v := 0) hx hb d_Pa_takeBack_7 (by decide) ?_
  exact W.zret (v := 0) hx hb hr (by decide) (fun t ht hW => ⟨0, rfl, rfl, ht⟩) (fun q hq => by cases hq) d_Pa_takeBack_8

theorem d_Sw_undo_0 : decode b_Sw_undo 0 = .ok (.aload_n 0, 1) := by decide +kernel
theorem d_Sw_undo_1 : decode b_Sw_undo 1 = .ok (.getfield 42, 3) := by decide +kernel
theorem d_Sw_undo_4 : decode b_Sw_undo 4 = .ok (.aload_n 0, 1) := by decide +kernel
theorem d_Sw_undo_5 : decode b_Sw_undo 5 = .ok (.getfield 19, 3) := by decide +kernel
theorem d_Sw_undo_8 : decode b_Sw_undo 8 = .ok (.invokevirtual 161, 3) := by decide +kernel
theorem d_Sw_undo_11 : decode b_Sw_undo 11 = .ok (.ifCond .ne 5, 3) := by decide +kernel
theorem d_Sw_undo_14 : decode b_Sw_undo 14 = .ok (.iconst 0, 1) := by decide +kernel
theorem d_Sw_undo_15 : decode b_Sw_undo 15 = .ok (.ireturn, 1) := by decide +kernel
theorem d_Sw_undo_16 : decode b_Sw_undo 16 = .ok (.aload_n 0, 1) := by decide +kernel
theorem d_Sw_undo_17 : decode b_Sw_undo 17 = .ok (.getfield 35, 3) := by decide +kernel
theorem d_Sw_undo_20 : decode b_Sw_undo 20 = .ok (.invokevirtual 165, 3) := by decide +kernel
theorem d_Sw_undo_23 : decode b_Sw_undo 23 = .ok (.aload_n 0, 1) := by decide +kernel
theorem d_Sw_undo_24 : decode b_Sw_undo 24 = .ok (.iconst 1, 1) := by decide +kernel
theorem d_Sw_undo_25 : decode b_Sw_undo 25 = .ok (.putfield 46, 3) := by decide +kernel
theorem d_Sw_undo_28 : decode b_Sw_undo 28 = .ok (.iconst 1, 1) := by decide +kernel
theorem d_Sw_undo_29 : decode b_Sw_undo 29 = .ok (.ireturn, 1) := by decide +kernel
theorem wd_235 : (Cond.code ({ cls := "SheetWar$Past", name := "takeBack", desc := "(LSheetWar$Sheet;)Z" } : MethodName) prog_3_method_3_code (2 : Nat) (Option.some FieldType.boolean)) ∈ TB := tb_t 235 (by decide +kernel) (by decide +kernel)
theorem wd_232 : (Cond.methodLink "SheetWar" (161 : Nat) ({ cls := "SheetWar$Past", name := "takeBack", desc := "(LSheetWar$Sheet;)Z" } : MethodName)) ∈ TB := tb_t 232 (by decide +kernel) (by decide +kernel)
theorem wd_233 : (Cond.instanceMethod ({ cls := "SheetWar$Past", name := "takeBack", desc := "(LSheetWar$Sheet;)Z" } : MethodName)) ∈ TB := tb_t 233 (by decide +kernel) (by decide +kernel)
theorem wd_234 : (Cond.selects "SheetWar$Past" ({ cls := "SheetWar$Past", name := "takeBack", desc := "(LSheetWar$Sheet;)Z" } : MethodName) ({ cls := "SheetWar$Past", name := "takeBack", desc := "(LSheetWar$Sheet;)Z" } : MethodName)) ∈ TB := tb_t 234 (by decide +kernel) (by decide +kernel)
set_option maxHeartbeats 4000000 in
set_option maxRecDepth 100000 in
theorem c_Sw_undo0 (l : Launch) (D : va_G) (cI cZ cJ cS : ClassId) (aT : Nat) (ceT : Cell) (h0 hm hh he ha hp : Nat) (ph : Int32) (hk : Nat) (nx : Int32)  : Met l y_Sw_undo w_Sw_undo ({ frames := 1, cells := 0, slots := 0, locals := 21 }) (tP D cI cZ cJ cS aT ceT [.ref h0] [(h0, .inr (5, [.ref hm, .ref hh, .ref he, .ref ha, .ref hp, .int ph])), (hp, .inr (1, [.ref hk, .int nx, .int 0]))]) (vp_Si (fun r => r = 0)) 0 0 (fun _ => False) := by
  refine Met.ofW (cc := b_Sw_undo) (maxL := 1) (ret := (some .boolean)) (by decide) rfl ?_
  intro p e s m args below meth c s₁ B hml hv
  obtain ⟨rfl, hP, hK, hX⟩ := hv
  have hx := B.exec
  have hb := B.bytes
  have hr := B.returns
  have hts0 := atoms_spec (ws := w_Sw_undo) B.pre
  have hts : ∀ w ∈ TB, w.before _ s = true := fun w h => hts0 w (List.mem_cons_of_mem _ h)
  have hown : s.vm.findClass R_Sw = some m.cls := findClass_of_methodNamed B.named
  have hlocks := B.notSynchronized
  have hXH : s.heap[aT]? = s.heap[aT]? := rfl
  have hl := lv_entry ([.ref h0]) (n := 1) (Nat.le_of_ble_eq_true rfl)
  rw [lg_entry_eq]
  generalize (lg_sl ([.ref h0]) ++ List.replicate (1 - (lg_sl ([.ref h0])).length) Slot.unset).toArray = ls at hl ⊢
  have hl : lv_has ls 1 [(0, .ref h0)] := hl
  refine lv_aload_n hx hb d_Sw_undo_0 rfl (lv_at hl 0 rfl) ?_
  refine va_get (D := D) (ci := 5) (v := .ref hp) (C := R_Sw) (T := T_Sw) (N := 6) hx hb hts hin_Sw hown hK hP 0 rfl rfl 4 (by decide) (hts _ wd_205) (fun _ h9 => h9) rfl d_Sw_undo_1 ?_
  refine lv_aload_n hx hb d_Sw_undo_4 rfl (lv_at hl 0 rfl) ?_
  refine va_get (D := D) (ci := 5) (v := .ref hh) (C := R_Sw) (T := T_Sw) (N := 6) hx hb hts hin_Sw hown hK hP 0 rfl rfl 1 (by decide) (hts _ wd_202) (fun _ h9 => h9) rfl d_Sw_undo_5 ?_
  have hPc := hP.sub (ws' := [(hp, .inr (1, [.ref hk, .int nx, .int 0]))]) [1] rfl
  refine vp_callSi (va_Run.run (va_runV (As := [.ref hh]) (rest := []) ⟨hx, hb, hml, hown, hts⟩ (c_Pa_takeBack0 l D cI cZ cJ cS aT ceT  hp hk hh nx ) (cwV 1 hts (tb_4 wd_232 wd_233 wd_234 wd_7 (tb_c wd_235)) rfl rfl rfl ⟨rfl, by decide, by decide, by decide +kernel⟩ ⟨Nat.le_of_ble_eq_true rfl, Nat.le_of_ble_eq_true rfl⟩) (tP_V hK hX hXH hPc (q := 0) rfl rfl) rfl rfl hl.1 rfl (lv_room (Nat.le_of_ble_eq_true rfl)) d_Sw_undo_8 ⟨Nat.le_of_ble_eq_true rfl, Nat.le_of_ble_eq_true rfl⟩)) (fun r1 hr9 => ?_)
  rw [hr9]
  refine lv_if_ne (tgt := 16) hx hb d_Sw_undo_11 (by decide) (fun h0 => absurd (by decide) h0) (fun _ => ?_)
  refine lv_iconst (v := 0) hx hb d_Sw_undo_14 (by decide) ?_
  exact W.zret (v := 0) hx hb hr (by decide) (fun t ht hW => ⟨0, rfl, rfl, ht⟩) (fun q hq => by cases hq) d_Sw_undo_15

theorem d_Sw_mayGo_0 : decode b_Sw_mayGo 0 = .ok (.aload_n 0, 1) := by decide +kernel
theorem d_Sw_mayGo_1 : decode b_Sw_mayGo 1 = .ok (.getfield 13, 3) := by decide +kernel
theorem d_Sw_mayGo_4 : decode b_Sw_mayGo 4 = .ok (.iload_n 1, 1) := by decide +kernel
theorem d_Sw_mayGo_5 : decode b_Sw_mayGo 5 = .ok (.invokevirtual 71, 3) := by decide +kernel
theorem d_Sw_mayGo_8 : decode b_Sw_mayGo 8 = .ok (.ifCond .eq 38, 3) := by decide +kernel
theorem d_Sw_mayGo_11 : decode b_Sw_mayGo 11 = .ok (.aload_n 0, 1) := by decide +kernel
theorem d_Sw_mayGo_12 : decode b_Sw_mayGo 12 = .ok (.getfield 13, 3) := by decide +kernel
theorem d_Sw_mayGo_15 : decode b_Sw_mayGo 15 = .ok (.iload_n 2, 1) := by decide +kernel
theorem d_Sw_mayGo_16 : decode b_Sw_mayGo 16 = .ok (.invokevirtual 71, 3) := by decide +kernel
theorem d_Sw_mayGo_19 : decode b_Sw_mayGo 19 = .ok (.ifCond .eq 27, 3) := by decide +kernel
theorem d_Sw_mayGo_22 : decode b_Sw_mayGo 22 = .ok (.aload_n 0, 1) := by decide +kernel
theorem d_Sw_mayGo_23 : decode b_Sw_mayGo 23 = .ok (.getfield 35, 3) := by decide +kernel
theorem d_Sw_mayGo_26 : decode b_Sw_mayGo 26 = .ok (.iload_n 1, 1) := by decide +kernel
theorem d_Sw_mayGo_27 : decode b_Sw_mayGo 27 = .ok (.invokevirtual 140, 3) := by decide +kernel
theorem d_Sw_mayGo_30 : decode b_Sw_mayGo 30 = .ok (.ifCond .eq 16, 3) := by decide +kernel
theorem d_Sw_mayGo_33 : decode b_Sw_mayGo 33 = .ok (.aload_n 0, 1) := by decide +kernel
theorem d_Sw_mayGo_34 : decode b_Sw_mayGo 34 = .ok (.iload_n 1, 1) := by decide +kernel
theorem d_Sw_mayGo_35 : decode b_Sw_mayGo 35 = .ok (.iload_n 2, 1) := by decide +kernel
theorem d_Sw_mayGo_36 : decode b_Sw_mayGo 36 = .ok (.invokevirtual 142, 3) := by decide +kernel
theorem d_Sw_mayGo_39 : decode b_Sw_mayGo 39 = .ok (.ifCond .eq 7, 3) := by decide +kernel
theorem d_Sw_mayGo_42 : decode b_Sw_mayGo 42 = .ok (.iconst 1, 1) := by decide +kernel
theorem d_Sw_mayGo_43 : decode b_Sw_mayGo 43 = .ok (.goto 4, 3) := by decide +kernel
theorem d_Sw_mayGo_46 : decode b_Sw_mayGo 46 = .ok (.iconst 0, 1) := by decide +kernel
theorem d_Sw_mayGo_47 : decode b_Sw_mayGo 47 = .ok (.ireturn, 1) := by decide +kernel

set_option maxHeartbeats 4000000 in
set_option maxRecDepth 100000 in
theorem c_Sw_mayGo0 (l : Launch) (D : va_G) (cI cZ cJ cS : ClassId) (aT : Nat) (ceT : Cell) (h0 hm hh he ha hp : Nat) (ph : Int32) (qh qn : Nat) (seas cen : Int32) (a b : Int32)  : Met l y_Sw_mayGo w_Sw_mayGo ({ frames := 1, cells := 0, slots := 0, locals := 21 }) (tP D cI cZ cJ cS aT ceT [.ref h0, .int a, .int b] [(h0, .inr (5, [.ref hm, .ref hh, .ref he, .ref ha, .ref hp, .int ph])), (hm, .inr (4, [.int 0, .int seas, .int cen, .ref qh, .ref qn]))]) (vp_Si (fun r => r = 0)) 0 0 (fun _ => False) := by
  refine Met.ofW (cc := b_Sw_mayGo) (maxL := 3) (ret := (some .boolean)) (by decide) rfl ?_
  intro p e s m args below meth c s₁ B hml hv
  obtain ⟨rfl, hP, hK, hX⟩ := hv
  have hx := B.exec
  have hb := B.bytes
  have hr := B.returns
  have hts0 := atoms_spec (ws := w_Sw_mayGo) B.pre
  have hts : ∀ w ∈ TB, w.before _ s = true := fun w h => hts0 w (List.mem_cons_of_mem _ h)
  have hown : s.vm.findClass R_Sw = some m.cls := findClass_of_methodNamed B.named
  have hlocks := B.notSynchronized
  have hXH : s.heap[aT]? = s.heap[aT]? := rfl
  have hl := lv_entry ([.ref h0, .int a, .int b]) (n := 3) (Nat.le_of_ble_eq_true rfl)
  rw [lg_entry_eq]
  generalize (lg_sl ([.ref h0, .int a, .int b]) ++ List.replicate (3 - (lg_sl ([.ref h0, .int a, .int b])).length) Slot.unset).toArray = ls at hl ⊢
  have hl : lv_has ls 3 [(0, .ref h0), (1, .int a), (2, .int b)] := hl
  refine lv_aload_n hx hb d_Sw_mayGo_0 rfl (lv_at hl 0 rfl) ?_
  refine va_get (D := D) (ci := 5) (v := .ref hm) (C := R_Sw) (T := T_Sw) (N := 6) hx hb hts hin_Sw hown hK hP 0 rfl rfl 0 (by decide) (hts _ wd_201) (fun _ h9 => h9) rfl d_Sw_mayGo_1 ?_
  refine lv_iload_n hx hb d_Sw_mayGo_4 rfl (lv_at hl 1 rfl) ?_
  have hPc := hP.sub (ws' := [(hm, .inr (4, [.int 0, .int seas, .int cen, .ref qh, .ref qn]))]) [1] rfl
  refine vp_callSi (va_Run.run (va_runV (As := [.int a]) (rest := []) ⟨hx, hb, hml, hown, hts⟩ (c_Wm_has l D cI cZ cJ cS aT ceT  hm qh qn 0 seas cen a ) (cwV 1 hts (tb_4 wd_224 wd_225 wd_226 wd_2 (tb_c wd_227)) rfl rfl rfl ⟨rfl, by decide, by decide, by decide +kernel⟩ ⟨Nat.le_of_ble_eq_true rfl, Nat.le_of_ble_eq_true rfl⟩) (tP_V hK hX hXH hPc (q := 0) rfl rfl) rfl rfl hl.1 rfl (lv_room (Nat.le_of_ble_eq_true rfl)) d_Sw_mayGo_5 ⟨Nat.le_of_ble_eq_true rfl, Nat.le_of_ble_eq_true rfl⟩)) (fun r1 hr9 => ?_)
  rcases hr9 with ⟨rfl, hq2⟩ | ⟨rfl, hq2⟩
  · exact absurd hq2 tn_no
  · -- 5: false
    refine lv_if_eq (tgt := 46) hx hb d_Sw_mayGo_8 (by decide) (fun _ => ?_) (fun h0 => absurd (by decide) h0)
    refine lv_iconst (v := 0) hx hb d_Sw_mayGo_46 (by decide) ?_
    exact W.zret (v := 0) hx hb hr (by decide) (fun t ht hW => ⟨0, rfl, rfl, ht⟩) (fun q hq => by cases hq) d_Sw_mayGo_47

theorem d_Sw_told_0 : decode b_Sw_told 0 = .ok (.aload_n 0, 1) := by decide +kernel
theorem d_Sw_told_1 : decode b_Sw_told 1 = .ok (.getfield 46, 3) := by decide +kernel
theorem d_Sw_told_4 : decode b_Sw_told 4 = .ok (.iconst 1, 1) := by decide +kernel
theorem d_Sw_told_5 : decode b_Sw_told 5 = .ok (.if_icmp .ne 25, 3) := by decide +kernel
theorem d_Sw_told_8 : decode b_Sw_told 8 = .ok (.aload_n 0, 1) := by decide +kernel
theorem d_Sw_told_9 : decode b_Sw_told 9 = .ok (.getfield 13, 3) := by decide +kernel
theorem d_Sw_told_12 : decode b_Sw_told 12 = .ok (.iload_n 1, 1) := by decide +kernel
theorem d_Sw_told_13 : decode b_Sw_told 13 = .ok (.invokevirtual 71, 3) := by decide +kernel
theorem d_Sw_told_16 : decode b_Sw_told 16 = .ok (.ifCond .eq 14, 3) := by decide +kernel
theorem d_Sw_told_19 : decode b_Sw_told 19 = .ok (.aload_n 0, 1) := by decide +kernel
theorem d_Sw_told_20 : decode b_Sw_told 20 = .ok (.getfield 19, 3) := by decide +kernel
theorem d_Sw_told_23 : decode b_Sw_told 23 = .ok (.iload_n 1, 1) := by decide +kernel
theorem d_Sw_told_24 : decode b_Sw_told 24 = .ok (.invokevirtual 78, 3) := by decide +kernel
theorem d_Sw_told_27 : decode b_Sw_told 27 = .ok (.ifCond .ne 5, 3) := by decide +kernel
theorem d_Sw_told_30 : decode b_Sw_told 30 = .ok (.iconst (-1), 1) := by decide +kernel
theorem d_Sw_told_31 : decode b_Sw_told 31 = .ok (.ireturn, 1) := by decide +kernel
theorem d_Sw_told_32 : decode b_Sw_told 32 = .ok (.iload_n 2, 1) := by decide +kernel
theorem d_Sw_told_33 : decode b_Sw_told 33 = .ok (.tableswitch 57 0 2 #[27, 37, 47], 27) := by decide +kernel
theorem d_Sw_told_60 : decode b_Sw_told 60 = .ok (.aload_n 0, 1) := by decide +kernel
theorem d_Sw_told_61 : decode b_Sw_told 61 = .ok (.getfield 19, 3) := by decide +kernel
theorem d_Sw_told_64 : decode b_Sw_told 64 = .ok (.getfield 177, 3) := by decide +kernel
theorem d_Sw_told_67 : decode b_Sw_told 67 = .ok (.iload_n 1, 1) := by decide +kernel
theorem d_Sw_told_68 : decode b_Sw_told 68 = .ok (.iaload, 1) := by decide +kernel
theorem d_Sw_told_69 : decode b_Sw_told 69 = .ok (.ireturn, 1) := by decide +kernel
theorem d_Sw_told_70 : decode b_Sw_told 70 = .ok (.aload_n 0, 1) := by decide +kernel
theorem d_Sw_told_71 : decode b_Sw_told 71 = .ok (.getfield 19, 3) := by decide +kernel
theorem d_Sw_told_74 : decode b_Sw_told 74 = .ok (.getfield 180, 3) := by decide +kernel
theorem d_Sw_told_77 : decode b_Sw_told 77 = .ok (.iload_n 1, 1) := by decide +kernel
theorem d_Sw_told_78 : decode b_Sw_told 78 = .ok (.iaload, 1) := by decide +kernel
theorem d_Sw_told_79 : decode b_Sw_told 79 = .ok (.ireturn, 1) := by decide +kernel
theorem d_Sw_told_80 : decode b_Sw_told 80 = .ok (.aload_n 0, 1) := by decide +kernel
theorem d_Sw_told_81 : decode b_Sw_told 81 = .ok (.getfield 19, 3) := by decide +kernel
theorem d_Sw_told_84 : decode b_Sw_told 84 = .ok (.getfield 183, 3) := by decide +kernel
theorem d_Sw_told_87 : decode b_Sw_told 87 = .ok (.iload_n 1, 1) := by decide +kernel
theorem d_Sw_told_88 : decode b_Sw_told 88 = .ok (.iaload, 1) := by decide +kernel
theorem d_Sw_told_89 : decode b_Sw_told 89 = .ok (.ireturn, 1) := by decide +kernel
theorem d_Sw_told_90 : decode b_Sw_told 90 = .ok (.iconst (-1), 1) := by decide +kernel
theorem d_Sw_told_91 : decode b_Sw_told 91 = .ok (.ireturn, 1) := by decide +kernel

set_option maxHeartbeats 4000000 in
set_option maxRecDepth 100000 in
theorem c_Sw_told0 (l : Launch) (D : va_G) (cI cZ cJ cS : ClassId) (aT : Nat) (ceT : Cell) (h0 hm hh he ha hp : Nat) (ph : Int32) (a b : Int32) (hph : ¬ ph = 1) : Met l y_Sw_told w_Sw_told ({ frames := 0, cells := 0, slots := 0, locals := 0 }) (tP D cI cZ cJ cS aT ceT [.ref h0, .int a, .int b] [(h0, .inr (5, [.ref hm, .ref hh, .ref he, .ref ha, .ref hp, .int ph]))]) (vp_Si (fun r => r = (-1))) 0 0 (fun _ => False) := by
  refine Met.ofW (cc := b_Sw_told) (maxL := 3) (ret := (some .int)) (by decide) rfl ?_
  intro p e s m args below meth c s₁ B hml hv
  obtain ⟨rfl, hP, hK, hX⟩ := hv
  have hx := B.exec
  have hb := B.bytes
  have hr := B.returns
  have hts0 := atoms_spec (ws := w_Sw_told) B.pre
  have hts : ∀ w ∈ TB, w.before _ s = true := fun w h => hts0 w (List.mem_cons_of_mem _ h)
  have hown : s.vm.findClass R_Sw = some m.cls := findClass_of_methodNamed B.named
  have hlocks := B.notSynchronized
  have hXH : s.heap[aT]? = s.heap[aT]? := rfl
  have hl := lv_entry ([.ref h0, .int a, .int b]) (n := 3) (Nat.le_of_ble_eq_true rfl)
  rw [lg_entry_eq]
  generalize (lg_sl ([.ref h0, .int a, .int b]) ++ List.replicate (3 - (lg_sl ([.ref h0, .int a, .int b])).length) Slot.unset).toArray = ls at hl ⊢
  have hl : lv_has ls 3 [(0, .ref h0), (1, .int a), (2, .int b)] := hl
  refine lv_aload_n hx hb d_Sw_told_0 rfl (lv_at hl 0 rfl) ?_
  refine va_get (D := D) (ci := 5) (v := .int ph) (C := R_Sw) (T := T_Sw) (N := 6) hx hb hts hin_Sw hown hK hP 0 rfl rfl 5 (by decide) (hts _ wd_206) (fun _ h9 => h9) rfl d_Sw_told_1 ?_
  refine lv_iconst (v := 1) hx hb d_Sw_told_4 (by decide) ?_
  refine lv_icmp_ne (tgt := 30) hx hb d_Sw_told_5 (by decide) (fun hc1 => ?_) (fun hc1 => ?_)
  · -- 5 taken
    refine lv_iconst (v := (-1)) hx hb d_Sw_told_30 (by decide) ?_
    exact W.iret (v := (-1)) hx hb hr (fun t ht hW => ⟨(-1), rfl, rfl, ht⟩) (fun q hq => by cases hq) d_Sw_told_31
  · -- 5 not taken
    exact absurd (by simpa using hc1) hph
