/-- the greatest of what the moves below k have against a's, and of z -/
def rstF (Bk Mt : Nat → Nat → Bool) (Su Op Sp Oq Ho : Nat → Bool) (X : Nat → Nat) (z a : Nat) (ms : Bool) : Nat → Nat
  | 0 => z
  | k + 1 => if (!decide (k = a) && Mt (X a) k) = true then max (rstF Bk Mt Su Op Sp Oq Ho X z a ms k) (prvC Bk Su Op Sp Oq Ho X ms k) else rstF Bk Mt Su Op Sp Oq Ho X z a ms k
theorem rstF_lt (Bk Mt : Nat → Nat → Bool) (Su Op Sp Oq Ho : Nat → Bool) (X : Nat → Nat) {z : Nat} (hz : z < 14) (a : Nat) (ms : Bool) : ∀ k, rstF Bk Mt Su Op Sp Oq Ho X z a ms k < 14
  | 0 => hz
  | k + 1 => by
    have h := rstF_lt Bk Mt Su Op Sp Oq Ho X hz a ms k
    have h2 := prvC_lt Bk Su Op Sp Oq Ho X ms k
    rw [rstF]
    split <;> omega
def rstC (Bk Mt : Nat → Nat → Bool) (Su Op Sp Oq Ho : Nat → Bool) (X : Nat → Nat) (St Mv : Nat → Bool) (n : Nat) (ms : Bool) (a : Nat) : Nat := rstF Bk Mt Su Op Sp Oq Ho X (if Ho a = true then frcC Bk Su Op (fun _ => false) ms (X a) else dfcC Bk Su Op St Mv ms (X a)) a ms n
theorem rstC_lt (Bk Mt : Nat → Nat → Bool) (Su Op Sp Oq Ho : Nat → Bool) (X : Nat → Nat) (St Mv : Nat → Bool) (n : Nat) (ms : Bool) (a : Nat) : rstC Bk Mt Su Op Sp Oq Ho X St Mv n ms a < 14 := by
  unfold rstC
  refine rstF_lt _ _ _ _ _ _ _ _ ?_ _ _ _
  split
  · exact frcC_lt ..
  · exact dfcC_lt ..

theorem d_Se_resistance_0 : decode b_Se_resistance 0 = .ok (.aload_n 0, 1) := by decide +kernel
theorem d_Se_resistance_1 : decode b_Se_resistance 1 = .ok (.getfield 31, 3) := by decide +kernel
theorem d_Se_resistance_4 : decode b_Se_resistance 4 = .ok (.getfield 105, 3) := by decide +kernel
theorem d_Se_resistance_7 : decode b_Se_resistance 7 = .ok (.iload_n 1, 1) := by decide +kernel
theorem d_Se_resistance_8 : decode b_Se_resistance 8 = .ok (.iaload, 1) := by decide +kernel
theorem d_Se_resistance_9 : decode b_Se_resistance 9 = .ok (.istore_n 3, 1) := by decide +kernel
theorem d_Se_resistance_10 : decode b_Se_resistance 10 = .ok (.aload_n 0, 1) := by decide +kernel
theorem d_Se_resistance_11 : decode b_Se_resistance 11 = .ok (.getfield 134, 3) := by decide +kernel
theorem d_Se_resistance_14 : decode b_Se_resistance 14 = .ok (.iload_n 1, 1) := by decide +kernel
theorem d_Se_resistance_15 : decode b_Se_resistance 15 = .ok (.invokestatic 83, 3) := by decide +kernel
theorem d_Se_resistance_18 : decode b_Se_resistance 18 = .ok (.ifCond .eq 13, 3) := by decide +kernel
theorem d_Se_resistance_21 : decode b_Se_resistance 21 = .ok (.aload_n 0, 1) := by decide +kernel
theorem d_Se_resistance_22 : decode b_Se_resistance 22 = .ok (.iload_n 3, 1) := by decide +kernel
theorem d_Se_resistance_23 : decode b_Se_resistance 23 = .ok (.iconst 0, 1) := by decide +kernel
theorem d_Se_resistance_24 : decode b_Se_resistance 24 = .ok (.iload_n 2, 1) := by decide +kernel
theorem d_Se_resistance_25 : decode b_Se_resistance 25 = .ok (.invokevirtual 186, 3) := by decide +kernel
theorem d_Se_resistance_28 : decode b_Se_resistance 28 = .ok (.goto 9, 3) := by decide +kernel
theorem d_Se_resistance_31 : decode b_Se_resistance 31 = .ok (.aload_n 0, 1) := by decide +kernel
theorem d_Se_resistance_32 : decode b_Se_resistance 32 = .ok (.iload_n 3, 1) := by decide +kernel
theorem d_Se_resistance_33 : decode b_Se_resistance 33 = .ok (.iload_n 2, 1) := by decide +kernel
theorem d_Se_resistance_34 : decode b_Se_resistance 34 = .ok (.invokevirtual 190, 3) := by decide +kernel
theorem d_Se_resistance_37 : decode b_Se_resistance 37 = .ok (.istore 4, 2) := by decide +kernel
theorem d_Se_resistance_39 : decode b_Se_resistance 39 = .ok (.iconst 0, 1) := by decide +kernel
theorem d_Se_resistance_40 : decode b_Se_resistance 40 = .ok (.istore 5, 2) := by decide +kernel
theorem d_Se_resistance_42 : decode b_Se_resistance 42 = .ok (.iload 5, 2) := by decide +kernel
theorem d_Se_resistance_44 : decode b_Se_resistance 44 = .ok (.aload_n 0, 1) := by decide +kernel
theorem d_Se_resistance_45 : decode b_Se_resistance 45 = .ok (.getfield 27, 3) := by decide +kernel
theorem d_Se_resistance_48 : decode b_Se_resistance 48 = .ok (.getfield 93, 3) := by decide +kernel
theorem d_Se_resistance_51 : decode b_Se_resistance 51 = .ok (.if_icmp .ge 43, 3) := by decide +kernel
theorem d_Se_resistance_54 : decode b_Se_resistance 54 = .ok (.iload 5, 2) := by decide +kernel
theorem d_Se_resistance_56 : decode b_Se_resistance 56 = .ok (.iload_n 1, 1) := by decide +kernel
theorem d_Se_resistance_57 : decode b_Se_resistance 57 = .ok (.if_icmp .eq 31, 3) := by decide +kernel
theorem d_Se_resistance_60 : decode b_Se_resistance 60 = .ok (.aload_n 0, 1) := by decide +kernel
theorem d_Se_resistance_61 : decode b_Se_resistance 61 = .ok (.getfield 9, 3) := by decide +kernel
theorem d_Se_resistance_64 : decode b_Se_resistance 64 = .ok (.iload_n 3, 1) := by decide +kernel
theorem d_Se_resistance_65 : decode b_Se_resistance 65 = .ok (.iaload, 1) := by decide +kernel
theorem d_Se_resistance_66 : decode b_Se_resistance 66 = .ok (.iload 5, 2) := by decide +kernel
theorem d_Se_resistance_68 : decode b_Se_resistance 68 = .ok (.invokestatic 83, 3) := by decide +kernel
theorem d_Se_resistance_71 : decode b_Se_resistance 71 = .ok (.ifCond .eq 17, 3) := by decide +kernel
theorem d_Se_resistance_74 : decode b_Se_resistance 74 = .ok (.iload 4, 2) := by decide +kernel
theorem d_Se_resistance_76 : decode b_Se_resistance 76 = .ok (.aload_n 0, 1) := by decide +kernel
theorem d_Se_resistance_77 : decode b_Se_resistance 77 = .ok (.iload 5, 2) := by decide +kernel
theorem d_Se_resistance_79 : decode b_Se_resistance 79 = .ok (.iload_n 2, 1) := by decide +kernel
theorem d_Se_resistance_80 : decode b_Se_resistance 80 = .ok (.invokevirtual 193, 3) := by decide +kernel
theorem d_Se_resistance_83 : decode b_Se_resistance 83 = .ok (.invokestatic 196, 3) := by decide +kernel
theorem d_Se_resistance_86 : decode b_Se_resistance 86 = .ok (.istore 4, 2) := by decide +kernel
theorem d_Se_resistance_88 : decode b_Se_resistance 88 = .ok (.iinc 5 1, 3) := by decide +kernel
theorem d_Se_resistance_91 : decode b_Se_resistance 91 = .ok (.goto (-49), 3) := by decide +kernel
theorem d_Se_resistance_94 : decode b_Se_resistance 94 = .ok (.iload 4, 2) := by decide +kernel
theorem d_Se_resistance_96 : decode b_Se_resistance 96 = .ok (.ireturn, 1) := by decide +kernel
theorem wd_33 : (Cond.fieldLink "SheetWar$Settling" (93 : Nat) "SheetWar$WarMap" "size" "I") ∈ TB := tb_t 33 (by decide +kernel) (by decide +kernel)
theorem wd_573 : (Cond.code ({ cls := "SheetWar$Settling", name := "prevention", desc := "(IZ)I" } : MethodName) prog_4_method_23_code (3 : Nat) (Option.some FieldType.int)) ∈ TB := tb_t 573 (by decide +kernel) (by decide +kernel)
theorem wd_570 : (Cond.methodLink "SheetWar$Settling" (193 : Nat) ({ cls := "SheetWar$Settling", name := "prevention", desc := "(IZ)I" } : MethodName)) ∈ TB := tb_t 570 (by decide +kernel) (by decide +kernel)
theorem wd_572 : (Cond.instanceMethod ({ cls := "SheetWar$Settling", name := "prevention", desc := "(IZ)I" } : MethodName)) ∈ TB := tb_t 572 (by decide +kernel) (by decide +kernel)
theorem wd_574 : (Cond.methodLink "SheetWar$Settling" (196 : Nat) ({ cls := "java/lang/Math", name := "max", desc := "(II)I" } : MethodName)) ∈ TB := tb_t 574 (by decide +kernel) (by decide +kernel)
theorem wd_575 : (Cond.static ({ cls := "java/lang/Math", name := "max", desc := "(II)I" } : MethodName)) ∈ TB := tb_t 575 (by decide +kernel) (by decide +kernel)
theorem wd_15 : (Cond.initialized "java/lang/Math") ∈ TB := tb_t 15 (by decide +kernel) (by decide +kernel)
theorem wd_576 : (Cond.code ({ cls := "java/lang/Math", name := "max", desc := "(II)I" } : MethodName) prog_13_method_65_code (2 : Nat) (Option.some FieldType.int)) ∈ TB := tb_t 576 (by decide +kernel) (by decide +kernel)
theorem wd_569 : (Cond.code ({ cls := "SheetWar$Settling", name := "defence", desc := "(IZ)I" } : MethodName) prog_4_method_22_code (3 : Nat) (Option.some FieldType.int)) ∈ TB := tb_t 569 (by decide +kernel) (by decide +kernel)
theorem wd_566 : (Cond.methodLink "SheetWar$Settling" (190 : Nat) ({ cls := "SheetWar$Settling", name := "defence", desc := "(IZ)I" } : MethodName)) ∈ TB := tb_t 566 (by decide +kernel) (by decide +kernel)
theorem wd_568 : (Cond.instanceMethod ({ cls := "SheetWar$Settling", name := "defence", desc := "(IZ)I" } : MethodName)) ∈ TB := tb_t 568 (by decide +kernel) (by decide +kernel)
theorem wp_19 : Cond.selects "SheetWar$Settling" ⟨"SheetWar$Settling", "prevention", "(IZ)I"⟩ ⟨"SheetWar$Settling", "prevention", "(IZ)I"⟩ ∈ TB := tb_p 19 (by decide +kernel) (by decide +kernel)
theorem wp_18 : Cond.selects "SheetWar$Settling" ⟨"SheetWar$Settling", "defence", "(IZ)I"⟩ ⟨"SheetWar$Settling", "defence", "(IZ)I"⟩ ∈ TB := tb_p 18 (by decide +kernel) (by decide +kernel)
set_option maxHeartbeats 4000000 in
set_option maxRecDepth 100000 in
theorem c_Se_resistance (l : Launch) (D : va_G) (cI cZ cJ cS : ClassId) (aT : Nat) (ceT : Cell) (h0 qm qs q1 q2 q3 q4 q5 : Nat) (St Mv Sm Ho Su Op Sd Od Sp Oq : Nat → Bool) (qh qn n : Nat) (S Ce : Nat → Bool) (Bk Mt : Nat → Nat → Bool) (tn : Int32) (qu qo qx qy qr qw : Nat) (X : Nat → Nat) (ms : Bool) (a : Nat) (hX12 : ∀ j, X j < 12) (hn : n ≤ 12) (h_a : a < 12) : Met l y_Se_resistance w_Se_resistance ({ frames := 3, cells := 0, slots := 0, locals := 66 }) (tP D cI cZ cJ cS aT ceT [.ref h0, .int (nI a), .int (bI ms)] [(h0, .inr (2, [.ref qm, .ref qs, .int (mI St), .int (mI Mv), .int (mI Sm), .int (mI Ho), .ref q1, .ref q2, .ref q3, .ref q4, .int (mI Su), .int (mI Op), .int (mI Sd), .int (mI Od), .int (mI Sp), .int (mI Oq), .ref q5])), (qm, .inr (4, [.int (nI n), .int (mI S), .int (mI Ce), .ref qh, .ref qn])), (q2, .inl (cI, 12, .inl (fun j => mI (Bk j)))), (q1, .inl (cI, 12, .inl (fun j => mI (Mt j)))), (qs, .inr (3, [.int tn, .ref qu, .ref qo, .ref qx, .ref qy, .ref qr, .ref qw])), (qx, .inl (cI, 12, .inl (fun j => nI (X j))))]) (vp_Si (fun r => r = nI (rstC Bk Mt Su Op Sp Oq Ho X St Mv n ms a))) 0 0 (fun _ => False) := by
  refine Met.ofW (cc := b_Se_resistance) (maxL := 6) (ret := (some .int)) (by decide) rfl ?_
  intro p e s m args below meth c s₁ B hml hv
  obtain ⟨rfl, hP, hK, hX⟩ := hv
  have hx := B.exec
  have hb := B.bytes
  have hr := B.returns
  have hts0 := atoms_spec (ws := w_Se_resistance) B.pre
  have hts : ∀ w ∈ TB, w.before _ s = true := fun w h => hts0 w (List.mem_cons_of_mem _ h)
  have hown : s.vm.findClass R_Se = some m.cls := findClass_of_methodNamed B.named
  have hlocks := B.notSynchronized
  have hXH : s.heap[aT]? = s.heap[aT]? := rfl
  have hl := lv_entry ([.ref h0, .int (nI a), .int (bI ms)]) (n := 6) (Nat.le_of_ble_eq_true rfl)
  rw [lg_entry_eq]
  generalize (lg_sl ([.ref h0, .int (nI a), .int (bI ms)]) ++ List.replicate (6 - (lg_sl ([.ref h0, .int (nI a), .int (bI ms)])).length) Slot.unset).toArray = ls at hl ⊢
  have hl : lv_has ls 6 [(0, .ref h0), (1, .int (nI a)), (2, .int (bI ms))] := hl
  refine lv_aload_n hx hb d_Se_resistance_0 rfl (lv_at hl 0 rfl) ?_
  refine va_get (D := D) (ci := 2) (v := .ref qs) (C := R_Se) (T := T_Se) (N := 17) hx hb hts hin_Se hown hK hP 0 rfl rfl 1 (by decide) (hts _ wd_104) (fun _ h9 => h9) rfl d_Se_resistance_1 ?_
  refine va_get (D := D) (ci := 3) (v := .ref qx) (C := R_Sh) (T := T_Sh) (N := 7) hx hb hts hin_Sh hown hK hP 4 rfl rfl 3 (by decide) (hts _ wd_72) (fun _ h9 => h9) rfl d_Se_resistance_4 ?_
  refine lv_iload_n hx hb d_Se_resistance_7 rfl (lv_at hl 1 rfl) ?_
  refine tr_iald (v := nI (X a)) hx hb hK hP 5 0 rfl rfl a h_a (by decide) rfl d_Se_resistance_8 ?_
  refine lv_istore_n (lv' := [(3, .int (nI (X a))), (0, .ref h0), (1, .int (nI a)), (2, .int (bI ms))]) hx hb d_Se_resistance_9 rfl hl (by decide) rfl (fun ls hl => ?_)
  refine lv_aload_n hx hb d_Se_resistance_10 rfl (lv_at hl 1 rfl) ?_
  refine va_get (D := D) (ci := 2) (v := .int (mI Ho)) (C := R_Se) (T := T_Se) (N := 17) hx hb hts hin_Se hown hK hP 0 rfl rfl 5 (by decide) (hts _ wd_108) (fun _ h9 => h9) rfl d_Se_resistance_11 ?_
  refine lv_iload_n hx hb d_Se_resistance_14 rfl (lv_at hl 2 rfl) ?_
  have hPc := hP.sub (ws' := []) [] rfl
  refine vp_callSi (va_Run.run (va_runSN (As := [.int (mI Ho), .int (nI a)]) (rest := []) ⟨hx, hb, hml, hown, hts⟩ (c_Sw_in l D cI cZ cJ cS aT ceT  Ho a h_a) (⟨va_cnB 2 hts (tb_c wd_285) rfl rfl rfl hX.2.2.2.2.2.2.2.1 (hts _ wd_1) ⟨by decide, by decide, by decide +kernel⟩ ⟨Nat.le_of_ble_eq_true rfl, Nat.le_of_ble_eq_true rfl⟩, hts _ wd_284, trivial⟩) (tP_S hK hX hXH hPc) rfl rfl hl.1 rfl (lv_room (Nat.le_of_ble_eq_true rfl)) d_Se_resistance_15 ⟨Nat.le_of_ble_eq_true rfl, Nat.le_of_ble_eq_true rfl⟩)) (fun r1 hr9 => ?_)
  rw [hr9]
  rcases bI_c (Ho a) with ⟨hb3, e9⟩ | ⟨hb3, e9⟩
  · refine tr_top e9 ?_
    refine lv_if_eq (tgt := 31) hx hb d_Se_resistance_18 (by decide) (fun h0 => absurd h0 (by decide)) (fun _ => ?_)
    refine lv_aload_n hx hb d_Se_resistance_21 rfl (lv_at hl 1 rfl) ?_
    refine lv_iload_n hx hb d_Se_resistance_22 rfl (lv_at hl 0 rfl) ?_
    refine lv_iconst (v := 0) hx hb d_Se_resistance_23 (by decide) ?_
    refine tr_top (y := mI (fun _ => false)) mI_0.symm ?_
    refine lv_iload_n hx hb d_Se_resistance_24 rfl (lv_at hl 3 rfl) ?_
    have hPc := hP.sub (ws' := [(h0, .inr (2, [.ref qm, .ref qs, .int (mI St), .int (mI Mv), .int (mI Sm), .int (mI Ho), .ref q1, .ref q2, .ref q3, .ref q4, .int (mI Su), .int (mI Op), .int (mI Sd), .int (mI Od), .int (mI Sp), .int (mI Oq), .ref q5])), (q2, .inl (cI, 12, .inl (fun j => mI (Bk j))))]) [0, 2] rfl
    refine vp_callSi (va_Run.run (va_runV (As := [.int (nI (X a)), .int (mI (fun _ => false)), .int (bI ms)]) (rest := []) ⟨hx, hb, hml, hown, hts⟩ (c_Se_force l D cI cZ cJ cS aT ceT  h0 qm qs q1 q2 q3 q4 q5 St Mv Sm Ho Su Op Sd Od Sp Oq Bk (fun _ => false) ms (X a) (hX12 _)) (cwV 3 hts (tb_4 wd_552 wd_554 wp_16 wd_5 (tb_c wd_555)) rfl rfl rfl ⟨rfl, by decide, by decide, by decide +kernel⟩ ⟨Nat.le_of_ble_eq_true rfl, Nat.le_of_ble_eq_true rfl⟩) (tP_V hK hX hXH hPc (q := 0) rfl rfl) rfl rfl hl.1 rfl (lv_room (Nat.le_of_ble_eq_true rfl)) d_Se_resistance_25 ⟨Nat.le_of_ble_eq_true rfl, Nat.le_of_ble_eq_true rfl⟩)) (fun r5 hr9 => ?_)
    rw [hr9]
    refine lv_goto (tgt := 37) hx hb d_Se_resistance_28 (by decide) ?_
    refine lv_istore (lv' := [(4, .int (nI (frcC Bk Su Op (fun _ => false) ms (X a)))), (3, .int (nI (X a))), (0, .ref h0), (1, .int (nI a)), (2, .int (bI ms))]) hx hb d_Se_resistance_37 hl (by decide) rfl (fun ls hl => ?_)
    refine lv_iconst (v := 0) hx hb d_Se_resistance_39 (by decide) ?_
    refine lv_istore (lv' := [(5, .int 0), (4, .int (nI (frcC Bk Su Op (fun _ => false) ms (X a)))), (3, .int (nI (X a))), (0, .ref h0), (1, .int (nI a)), (2, .int (bI ms))]) hx hb d_Se_resistance_40 hl (by decide) rfl (fun ls hl => ?_)
    have hz9 : frcC Bk Su Op (fun _ => false) ms (X a) < 14 := frcC_lt ..
    have loop : ∀ (k i : Nat) (ls : Array Slot), i + k = n → lv_has ls 6 [(5, .int (nI i)), (4, .int (nI (rstF Bk Mt Su Op Sp Oq Ho X (frcC Bk Su Op (fun _ => false) ms (X a)) a ms i))), (3, .int (nI (X a))), (0, .ref h0), (1, .int (nI a)), (2, .int (bI ms))] → W p l e (headSpec w_Se_resistance ({ frames := 3, cells := 0, slots := 0, locals := 66 })).room s m ([.ref h0, .int (nI a), .int (bI ms)]).toArray below meth c s.heap [] 0 0 (MQ below (vp_Si (fun r => r = nI (rstC Bk Mt Su Op Sp Oq Ho X St Mv n ms a))) ([.ref h0, .int (nI a), .int (bI ms)]).toArray s 0 0 (fun _ => False)) (F0 m 42 ls []) := by
      intro k
      induction k with
      | zero =>
        intro i ls hi hl
        have hie : i = n := by omega
        rw [hie] at hl
        refine lv_iload hx hb d_Se_resistance_42 (lv_at hl 0 rfl) ?_
        refine lv_aload_n hx hb d_Se_resistance_44 rfl (lv_at hl 3 rfl) ?_
        refine va_get (D := D) (ci := 2) (v := .ref qm) (C := R_Se) (T := T_Se) (N := 17) hx hb hts hin_Se hown hK hP 0 rfl rfl 0 (by decide) (hts _ wd_103) (fun _ h9 => h9) rfl d_Se_resistance_45 ?_
        refine va_get (D := D) (ci := 4) (v := .int (nI n)) (C := R_Wm) (T := T_Wm) (N := 5) hx hb hts hin_Wm hown hK hP 1 rfl rfl 0 (by decide) (hts _ wd_33) (fun _ h9 => h9) rfl d_Se_resistance_48 ?_
        refine lv_icmp_ge (tgt := 94) hx hb d_Se_resistance_51 (by decide) (fun _ => ?_) (fun h0 => absurd (Int32.le_refl _) h0)
        refine lv_iload hx hb d_Se_resistance_94 (lv_at hl 1 rfl) ?_
        exact W.iret (v := nI (rstF Bk Mt Su Op Sp Oq Ho X (frcC Bk Su Op (fun _ => false) ms (X a)) a ms n)) hx hb hr (fun t ht hW => ⟨nI (rstF Bk Mt Su Op Sp Oq Ho X (frcC Bk Su Op (fun _ => false) ms (X a)) a ms n), rfl, congrArg nI (by simp [rstC, hb3]), ht⟩) (fun q hq => by cases hq) d_Se_resistance_96
      | succ k ih =>
        intro i ls hi hl
        have hlt : i < n := by omega
        have hlt12 : i < 12 := by omega
        refine lv_iload hx hb d_Se_resistance_42 (lv_at hl 0 rfl) ?_
        refine lv_aload_n hx hb d_Se_resistance_44 rfl (lv_at hl 3 rfl) ?_
        refine va_get (D := D) (ci := 2) (v := .ref qm) (C := R_Se) (T := T_Se) (N := 17) hx hb hts hin_Se hown hK hP 0 rfl rfl 0 (by decide) (hts _ wd_103) (fun _ h9 => h9) rfl d_Se_resistance_45 ?_
        refine va_get (D := D) (ci := 4) (v := .int (nI n)) (C := R_Wm) (T := T_Wm) (N := 5) hx hb hts hin_Wm hown hK hP 1 rfl rfl 0 (by decide) (hts _ wd_33) (fun _ h9 => h9) rfl d_Se_resistance_48 ?_
        refine lv_icmp_ge (tgt := 94) hx hb d_Se_resistance_51 (by decide) (fun h0 => absurd h0 (nI_ge hlt (by omega))) (fun _ => ?_)
        refine lv_iload hx hb d_Se_resistance_54 (lv_at hl 0 rfl) ?_
        refine lv_iload_n hx hb d_Se_resistance_56 rfl (lv_at hl 4 rfl) ?_
        refine lv_icmp_eq (tgt := 88) hx hb d_Se_resistance_57 (by decide) (fun hc8 => ?_) (fun hc8 => ?_)
        · -- 57 taken
          have hc8 : i = a := (nI_lit (Nat.lt_trans hlt12 (by decide)) (Nat.lt_trans h_a (by decide))).mp hc8
          refine lv_iinc (lv' := [(5, .int ((nI i) + 1)), (4, .int (nI (rstF Bk Mt Su Op Sp Oq Ho X (frcC Bk Su Op (fun _ => false) ms (X a)) a ms i))), (3, .int (nI (X a))), (0, .ref h0), (1, .int (nI a)), (2, .int (bI ms))]) hx hb d_Se_resistance_88 hl (k := 0) rfl rfl (by decide) rfl (fun ls hl => ?_)
          refine lv_goto (tgt := 42) hx hb d_Se_resistance_91 (by decide) ?_
          have e9 : (nI i) + 1 = nI (i + 1) := nI_1 i
          have e10 : nI (rstF Bk Mt Su Op Sp Oq Ho X (frcC Bk Su Op (fun _ => false) ms (X a)) a ms i) = nI (rstF Bk Mt Su Op Sp Oq Ho X (frcC Bk Su Op (fun _ => false) ms (X a)) a ms (i + 1)) := congrArg nI (show rstF Bk Mt Su Op Sp Oq Ho X (frcC Bk Su Op (fun _ => false) ms (X a)) a ms i = rstF Bk Mt Su Op Sp Oq Ho X (frcC Bk Su Op (fun _ => false) ms (X a)) a ms (i + 1) by rw [rstF]; simp [hb3, hc8])
          exact ih (i + 1) ls (by omega) (by rw [← e9, ← e10]; exact lv_sub hl [0, 1, 2, 3, 4, 5] rfl)
        · -- 57 not taken
          have hc8 : ¬ i = a := fun h9 => hc8 (congrArg nI h9)
          refine lv_aload_n hx hb d_Se_resistance_60 rfl (lv_at hl 3 rfl) ?_
          refine va_get (D := D) (ci := 2) (v := .ref q1) (C := R_Se) (T := T_Se) (N := 17) hx hb hts hin_Se hown hK hP 0 rfl rfl 6 (by decide) (hts _ wd_109) (fun _ h9 => h9) rfl d_Se_resistance_61 ?_
          refine lv_iload_n hx hb d_Se_resistance_64 rfl (lv_at hl 2 rfl) ?_
          refine tr_iald (v := mI (Mt (X a))) hx hb hK hP 3 0 rfl rfl (X a) (hX12 _) (by decide) rfl d_Se_resistance_65 ?_
          refine lv_iload hx hb d_Se_resistance_66 (lv_at hl 0 rfl) ?_
          have hPc := hP.sub (ws' := []) [] rfl
          refine vp_callSi (va_Run.run (va_runSN (As := [.int (mI (Mt (X a))), .int (nI i)]) (rest := []) ⟨hx, hb, hml, hown, hts⟩ (c_Sw_in l D cI cZ cJ cS aT ceT  (Mt (X a)) i hlt12) (⟨va_cnB 2 hts (tb_c wd_285) rfl rfl rfl hX.2.2.2.2.2.2.2.1 (hts _ wd_1) ⟨by decide, by decide, by decide +kernel⟩ ⟨Nat.le_of_ble_eq_true rfl, Nat.le_of_ble_eq_true rfl⟩, hts _ wd_284, trivial⟩) (tP_S hK hX hXH hPc) rfl rfl hl.1 rfl (lv_room (Nat.le_of_ble_eq_true rfl)) d_Se_resistance_68 ⟨Nat.le_of_ble_eq_true rfl, Nat.le_of_ble_eq_true rfl⟩)) (fun r11 hr9 => ?_)
          rw [hr9]
          rcases bI_c ((Mt (X a)) i) with ⟨hb13, e9⟩ | ⟨hb13, e9⟩
          · refine tr_top e9 ?_
            refine lv_if_eq (tgt := 88) hx hb d_Se_resistance_71 (by decide) (fun h0 => absurd h0 (by decide)) (fun _ => ?_)
            refine lv_iload hx hb d_Se_resistance_74 (lv_at hl 1 rfl) ?_
            refine lv_aload_n hx hb d_Se_resistance_76 rfl (lv_at hl 3 rfl) ?_
            refine lv_iload hx hb d_Se_resistance_77 (lv_at hl 0 rfl) ?_
            refine lv_iload_n hx hb d_Se_resistance_79 rfl (lv_at hl 5 rfl) ?_
            have hPc := hP.sub (ws' := [(h0, .inr (2, [.ref qm, .ref qs, .int (mI St), .int (mI Mv), .int (mI Sm), .int (mI Ho), .ref q1, .ref q2, .ref q3, .ref q4, .int (mI Su), .int (mI Op), .int (mI Sd), .int (mI Od), .int (mI Sp), .int (mI Oq), .ref q5])), (q2, .inl (cI, 12, .inl (fun j => mI (Bk j)))), (qs, .inr (3, [.int tn, .ref qu, .ref qo, .ref qx, .ref qy, .ref qr, .ref qw])), (qx, .inl (cI, 12, .inl (fun j => nI (X j))))]) [0, 2, 4, 5] rfl
            refine vp_callSi (va_Run.run (va_runV (As := [.int (nI i), .int (bI ms)]) (rest := [.int (nI (rstF Bk Mt Su Op Sp Oq Ho X (frcC Bk Su Op (fun _ => false) ms (X a)) a ms i))]) ⟨hx, hb, hml, hown, hts⟩ (c_Se_prevention l D cI cZ cJ cS aT ceT  h0 qm qs q1 q2 q3 q4 q5 St Mv Sm Ho Su Op Sd Od Sp Oq Bk tn qu qo qx qy qr qw X ms i hX12 hlt12) (cwV 2 hts (tb_4 wd_570 wd_572 wp_19 wd_5 (tb_c wd_573)) rfl rfl rfl ⟨rfl, by decide, by decide, by decide +kernel⟩ ⟨Nat.le_of_ble_eq_true rfl, Nat.le_of_ble_eq_true rfl⟩) (tP_V hK hX hXH hPc (q := 0) rfl rfl) rfl rfl hl.1 rfl (lv_room (Nat.le_of_ble_eq_true rfl)) d_Se_resistance_80 ⟨Nat.le_of_ble_eq_true rfl, Nat.le_of_ble_eq_true rfl⟩)) (fun r15 hr9 => ?_)
            rw [hr9]
            refine va_mmax hx hb (hml.trans hl.1.symm) hown (hts _ wd_574) (hts _ wd_575) (hts _ wd_15) (hts _ wd_576) (Nat.le_of_ble_eq_true rfl) (Nat.le_of_ble_eq_true rfl) (Nat.le_of_ble_eq_true rfl) (Nat.le_of_ble_eq_true rfl) d_Se_resistance_83 ?_
            refine tr_top (y := nI (max (rstF Bk Mt Su Op Sp Oq Ho X (frcC Bk Su Op (fun _ => false) ms (X a)) a ms i) (prvC Bk Su Op Sp Oq Ho X ms i))) (nI_max9 (Nat.lt_trans (rstF_lt _ _ _ _ _ _ _ _ hz9 _ _ _) (by decide)) (Nat.lt_trans (prvC_lt _ _ _ _ _ _ _ _ _) (by decide))) ?_
            refine lv_istore (lv' := [(4, .int (nI (max (rstF Bk Mt Su Op Sp Oq Ho X (frcC Bk Su Op (fun _ => false) ms (X a)) a ms i) (prvC Bk Su Op Sp Oq Ho X ms i)))), (5, .int (nI i)), (3, .int (nI (X a))), (0, .ref h0), (1, .int (nI a)), (2, .int (bI ms))]) hx hb d_Se_resistance_86 hl (by decide) rfl (fun ls hl => ?_)
            refine lv_iinc (lv' := [(5, .int ((nI i) + 1)), (4, .int (nI (max (rstF Bk Mt Su Op Sp Oq Ho X (frcC Bk Su Op (fun _ => false) ms (X a)) a ms i) (prvC Bk Su Op Sp Oq Ho X ms i)))), (3, .int (nI (X a))), (0, .ref h0), (1, .int (nI a)), (2, .int (bI ms))]) hx hb d_Se_resistance_88 hl (k := 1) rfl rfl (by decide) rfl (fun ls hl => ?_)
            refine lv_goto (tgt := 42) hx hb d_Se_resistance_91 (by decide) ?_
            have e16 : (nI i) + 1 = nI (i + 1) := nI_1 i
            have e17 : nI (max (rstF Bk Mt Su Op Sp Oq Ho X (frcC Bk Su Op (fun _ => false) ms (X a)) a ms i) (prvC Bk Su Op Sp Oq Ho X ms i)) = nI (rstF Bk Mt Su Op Sp Oq Ho X (frcC Bk Su Op (fun _ => false) ms (X a)) a ms (i + 1)) := congrArg nI (show max (rstF Bk Mt Su Op Sp Oq Ho X (frcC Bk Su Op (fun _ => false) ms (X a)) a ms i) (prvC Bk Su Op Sp Oq Ho X ms i) = rstF Bk Mt Su Op Sp Oq Ho X (frcC Bk Su Op (fun _ => false) ms (X a)) a ms (i + 1) by rw [rstF]; simp [hb3, hc8, hb13])
            exact ih (i + 1) ls (by omega) (by rw [← e16, ← e17]; exact lv_sub hl [0, 1, 2, 3, 4, 5] rfl)
          · refine tr_top e9 ?_
            refine lv_if_eq (tgt := 88) hx hb d_Se_resistance_71 (by decide) (fun _ => ?_) (fun h0 => absurd (by decide) h0)
            refine lv_iinc (lv' := [(5, .int ((nI i) + 1)), (4, .int (nI (rstF Bk Mt Su Op Sp Oq Ho X (frcC Bk Su Op (fun _ => false) ms (X a)) a ms i))), (3, .int (nI (X a))), (0, .ref h0), (1, .int (nI a)), (2, .int (bI ms))]) hx hb d_Se_resistance_88 hl (k := 0) rfl rfl (by decide) rfl (fun ls hl => ?_)
            refine lv_goto (tgt := 42) hx hb d_Se_resistance_91 (by decide) ?_
            have e19 : (nI i) + 1 = nI (i + 1) := nI_1 i
            have e20 : nI (rstF Bk Mt Su Op Sp Oq Ho X (frcC Bk Su Op (fun _ => false) ms (X a)) a ms i) = nI (rstF Bk Mt Su Op Sp Oq Ho X (frcC Bk Su Op (fun _ => false) ms (X a)) a ms (i + 1)) := congrArg nI (show rstF Bk Mt Su Op Sp Oq Ho X (frcC Bk Su Op (fun _ => false) ms (X a)) a ms i = rstF Bk Mt Su Op Sp Oq Ho X (frcC Bk Su Op (fun _ => false) ms (X a)) a ms (i + 1) by rw [rstF]; simp [hb3, hc8, hb13])
            exact ih (i + 1) ls (by omega) (by rw [← e19, ← e20]; exact lv_sub hl [0, 1, 2, 3, 4, 5] rfl)
    exact loop n 0 ls (Nat.zero_add _) hl
  · refine tr_top e9 ?_
    refine lv_if_eq (tgt := 31) hx hb d_Se_resistance_18 (by decide) (fun _ => ?_) (fun h0 => absurd (by decide) h0)
    refine lv_aload_n hx hb d_Se_resistance_31 rfl (lv_at hl 1 rfl) ?_
    refine lv_iload_n hx hb d_Se_resistance_32 rfl (lv_at hl 0 rfl) ?_
    refine lv_iload_n hx hb d_Se_resistance_33 rfl (lv_at hl 3 rfl) ?_
    have hPc := hP.sub (ws' := [(h0, .inr (2, [.ref qm, .ref qs, .int (mI St), .int (mI Mv), .int (mI Sm), .int (mI Ho), .ref q1, .ref q2, .ref q3, .ref q4, .int (mI Su), .int (mI Op), .int (mI Sd), .int (mI Od), .int (mI Sp), .int (mI Oq), .ref q5])), (q2, .inl (cI, 12, .inl (fun j => mI (Bk j))))]) [0, 2] rfl
    refine vp_callSi (va_Run.run (va_runV (As := [.int (nI (X a)), .int (bI ms)]) (rest := []) ⟨hx, hb, hml, hown, hts⟩ (c_Se_defence l D cI cZ cJ cS aT ceT  h0 qm qs q1 q2 q3 q4 q5 St Mv Sm Ho Su Op Sd Od Sp Oq Bk ms (X a) (hX12 _)) (cwV 2 hts (tb_4 wd_566 wd_568 wp_18 wd_5 (tb_c wd_569)) rfl rfl rfl ⟨rfl, by decide, by decide, by decide +kernel⟩ ⟨Nat.le_of_ble_eq_true rfl, Nat.le_of_ble_eq_true rfl⟩) (tP_V hK hX hXH hPc (q := 0) rfl rfl) rfl rfl hl.1 rfl (lv_room (Nat.le_of_ble_eq_true rfl)) d_Se_resistance_34 ⟨Nat.le_of_ble_eq_true rfl, Nat.le_of_ble_eq_true rfl⟩)) (fun r22 hr9 => ?_)
    rw [hr9]
    refine lv_istore (lv' := [(4, .int (nI (dfcC Bk Su Op St Mv ms (X a)))), (3, .int (nI (X a))), (0, .ref h0), (1, .int (nI a)), (2, .int (bI ms))]) hx hb d_Se_resistance_37 hl (by decide) rfl (fun ls hl => ?_)
    refine lv_iconst (v := 0) hx hb d_Se_resistance_39 (by decide) ?_
    refine lv_istore (lv' := [(5, .int 0), (4, .int (nI (dfcC Bk Su Op St Mv ms (X a)))), (3, .int (nI (X a))), (0, .ref h0), (1, .int (nI a)), (2, .int (bI ms))]) hx hb d_Se_resistance_40 hl (by decide) rfl (fun ls hl => ?_)
    have hz9 : dfcC Bk Su Op St Mv ms (X a) < 14 := dfcC_lt ..
    have loop : ∀ (k i : Nat) (ls : Array Slot), i + k = n → lv_has ls 6 [(5, .int (nI i)), (4, .int (nI (rstF Bk Mt Su Op Sp Oq Ho X (dfcC Bk Su Op St Mv ms (X a)) a ms i))), (3, .int (nI (X a))), (0, .ref h0), (1, .int (nI a)), (2, .int (bI ms))] → W p l e (headSpec w_Se_resistance ({ frames := 3, cells := 0, slots := 0, locals := 66 })).room s m ([.ref h0, .int (nI a), .int (bI ms)]).toArray below meth c s.heap [] 0 0 (MQ below (vp_Si (fun r => r = nI (rstC Bk Mt Su Op Sp Oq Ho X St Mv n ms a))) ([.ref h0, .int (nI a), .int (bI ms)]).toArray s 0 0 (fun _ => False)) (F0 m 42 ls []) := by
      intro k
      induction k with
      | zero =>
        intro i ls hi hl
        have hie : i = n := by omega
        rw [hie] at hl
        refine lv_iload hx hb d_Se_resistance_42 (lv_at hl 0 rfl) ?_
        refine lv_aload_n hx hb d_Se_resistance_44 rfl (lv_at hl 3 rfl) ?_
        refine va_get (D := D) (ci := 2) (v := .ref qm) (C := R_Se) (T := T_Se) (N := 17) hx hb hts hin_Se hown hK hP 0 rfl rfl 0 (by decide) (hts _ wd_103) (fun _ h9 => h9) rfl d_Se_resistance_45 ?_
        refine va_get (D := D) (ci := 4) (v := .int (nI n)) (C := R_Wm) (T := T_Wm) (N := 5) hx hb hts hin_Wm hown hK hP 1 rfl rfl 0 (by decide) (hts _ wd_33) (fun _ h9 => h9) rfl d_Se_resistance_48 ?_
        refine lv_icmp_ge (tgt := 94) hx hb d_Se_resistance_51 (by decide) (fun _ => ?_) (fun h0 => absurd (Int32.le_refl _) h0)
        refine lv_iload hx hb d_Se_resistance_94 (lv_at hl 1 rfl) ?_
        exact W.iret (v := nI (rstF Bk Mt Su Op Sp Oq Ho X (dfcC Bk Su Op St Mv ms (X a)) a ms n)) hx hb hr (fun t ht hW => ⟨nI (rstF Bk Mt Su Op Sp Oq Ho X (dfcC Bk Su Op St Mv ms (X a)) a ms n), rfl, congrArg nI (by simp [rstC, hb3]), ht⟩) (fun q hq => by cases hq) d_Se_resistance_96
      | succ k ih =>
        intro i ls hi hl
        have hlt : i < n := by omega
        have hlt12 : i < 12 := by omega
        refine lv_iload hx hb d_Se_resistance_42 (lv_at hl 0 rfl) ?_
        refine lv_aload_n hx hb d_Se_resistance_44 rfl (lv_at hl 3 rfl) ?_
        refine va_get (D := D) (ci := 2) (v := .ref qm) (C := R_Se) (T := T_Se) (N := 17) hx hb hts hin_Se hown hK hP 0 rfl rfl 0 (by decide) (hts _ wd_103) (fun _ h9 => h9) rfl d_Se_resistance_45 ?_
        refine va_get (D := D) (ci := 4) (v := .int (nI n)) (C := R_Wm) (T := T_Wm) (N := 5) hx hb hts hin_Wm hown hK hP 1 rfl rfl 0 (by decide) (hts _ wd_33) (fun _ h9 => h9) rfl d_Se_resistance_48 ?_
        refine lv_icmp_ge (tgt := 94) hx hb d_Se_resistance_51 (by decide) (fun h0 => absurd h0 (nI_ge hlt (by omega))) (fun _ => ?_)
        refine lv_iload hx hb d_Se_resistance_54 (lv_at hl 0 rfl) ?_
        refine lv_iload_n hx hb d_Se_resistance_56 rfl (lv_at hl 4 rfl) ?_
        refine lv_icmp_eq (tgt := 88) hx hb d_Se_resistance_57 (by decide) (fun hc25 => ?_) (fun hc25 => ?_)
        · -- 57 taken
          have hc25 : i = a := (nI_lit (Nat.lt_trans hlt12 (by decide)) (Nat.lt_trans h_a (by decide))).mp hc25
          refine lv_iinc (lv' := [(5, .int ((nI i) + 1)), (4, .int (nI (rstF Bk Mt Su Op Sp Oq Ho X (dfcC Bk Su Op St Mv ms (X a)) a ms i))), (3, .int (nI (X a))), (0, .ref h0), (1, .int (nI a)), (2, .int (bI ms))]) hx hb d_Se_resistance_88 hl (k := 0) rfl rfl (by decide) rfl (fun ls hl => ?_)
          refine lv_goto (tgt := 42) hx hb d_Se_resistance_91 (by decide) ?_
          have e26 : (nI i) + 1 = nI (i + 1) := nI_1 i
          have e27 : nI (rstF Bk Mt Su Op Sp Oq Ho X (dfcC Bk Su Op St Mv ms (X a)) a ms i) = nI (rstF Bk Mt Su Op Sp Oq Ho X (dfcC Bk Su Op St Mv ms (X a)) a ms (i + 1)) := congrArg nI (show rstF Bk Mt Su Op Sp Oq Ho X (dfcC Bk Su Op St Mv ms (X a)) a ms i = rstF Bk Mt Su Op Sp Oq Ho X (dfcC Bk Su Op St Mv ms (X a)) a ms (i + 1) by rw [rstF]; simp [hb3, hc25])
          exact ih (i + 1) ls (by omega) (by rw [← e26, ← e27]; exact lv_sub hl [0, 1, 2, 3, 4, 5] rfl)
        · -- 57 not taken
          have hc25 : ¬ i = a := fun h9 => hc25 (congrArg nI h9)
          refine lv_aload_n hx hb d_Se_resistance_60 rfl (lv_at hl 3 rfl) ?_
          refine va_get (D := D) (ci := 2) (v := .ref q1) (C := R_Se) (T := T_Se) (N := 17) hx hb hts hin_Se hown hK hP 0 rfl rfl 6 (by decide) (hts _ wd_109) (fun _ h9 => h9) rfl d_Se_resistance_61 ?_
          refine lv_iload_n hx hb d_Se_resistance_64 rfl (lv_at hl 2 rfl) ?_
          refine tr_iald (v := mI (Mt (X a))) hx hb hK hP 3 0 rfl rfl (X a) (hX12 _) (by decide) rfl d_Se_resistance_65 ?_
          refine lv_iload hx hb d_Se_resistance_66 (lv_at hl 0 rfl) ?_
          have hPc := hP.sub (ws' := []) [] rfl
          refine vp_callSi (va_Run.run (va_runSN (As := [.int (mI (Mt (X a))), .int (nI i)]) (rest := []) ⟨hx, hb, hml, hown, hts⟩ (c_Sw_in l D cI cZ cJ cS aT ceT  (Mt (X a)) i hlt12) (⟨va_cnB 2 hts (tb_c wd_285) rfl rfl rfl hX.2.2.2.2.2.2.2.1 (hts _ wd_1) ⟨by decide, by decide, by decide +kernel⟩ ⟨Nat.le_of_ble_eq_true rfl, Nat.le_of_ble_eq_true rfl⟩, hts _ wd_284, trivial⟩) (tP_S hK hX hXH hPc) rfl rfl hl.1 rfl (lv_room (Nat.le_of_ble_eq_true rfl)) d_Se_resistance_68 ⟨Nat.le_of_ble_eq_true rfl, Nat.le_of_ble_eq_true rfl⟩)) (fun r28 hr9 => ?_)
          rw [hr9]
          rcases bI_c ((Mt (X a)) i) with ⟨hb30, e9⟩ | ⟨hb30, e9⟩
          · refine tr_top e9 ?_
            refine lv_if_eq (tgt := 88) hx hb d_Se_resistance_71 (by decide) (fun h0 => absurd h0 (by decide)) (fun _ => ?_)
            refine lv_iload hx hb d_Se_resistance_74 (lv_at hl 1 rfl) ?_
            refine lv_aload_n hx hb d_Se_resistance_76 rfl (lv_at hl 3 rfl) ?_
            refine lv_iload hx hb d_Se_resistance_77 (lv_at hl 0 rfl) ?_
            refine lv_iload_n hx hb d_Se_resistance_79 rfl (lv_at hl 5 rfl) ?_
            have hPc := hP.sub (ws' := [(h0, .inr (2, [.ref qm, .ref qs, .int (mI St), .int (mI Mv), .int (mI Sm), .int (mI Ho), .ref q1, .ref q2, .ref q3, .ref q4, .int (mI Su), .int (mI Op), .int (mI Sd), .int (mI Od), .int (mI Sp), .int (mI Oq), .ref q5])), (q2, .inl (cI, 12, .inl (fun j => mI (Bk j)))), (qs, .inr (3, [.int tn, .ref qu, .ref qo, .ref qx, .ref qy, .ref qr, .ref qw])), (qx, .inl (cI, 12, .inl (fun j => nI (X j))))]) [0, 2, 4, 5] rfl
            refine vp_callSi (va_Run.run (va_runV (As := [.int (nI i), .int (bI ms)]) (rest := [.int (nI (rstF Bk Mt Su Op Sp Oq Ho X (dfcC Bk Su Op St Mv ms (X a)) a ms i))]) ⟨hx, hb, hml, hown, hts⟩ (c_Se_prevention l D cI cZ cJ cS aT ceT  h0 qm qs q1 q2 q3 q4 q5 St Mv Sm Ho Su Op Sd Od Sp Oq Bk tn qu qo qx qy qr qw X ms i hX12 hlt12) (cwV 2 hts (tb_4 wd_570 wd_572 wp_19 wd_5 (tb_c wd_573)) rfl rfl rfl ⟨rfl, by decide, by decide, by decide +kernel⟩ ⟨Nat.le_of_ble_eq_true rfl, Nat.le_of_ble_eq_true rfl⟩) (tP_V hK hX hXH hPc (q := 0) rfl rfl) rfl rfl hl.1 rfl (lv_room (Nat.le_of_ble_eq_true rfl)) d_Se_resistance_80 ⟨Nat.le_of_ble_eq_true rfl, Nat.le_of_ble_eq_true rfl⟩)) (fun r32 hr9 => ?_)
            rw [hr9]
            refine va_mmax hx hb (hml.trans hl.1.symm) hown (hts _ wd_574) (hts _ wd_575) (hts _ wd_15) (hts _ wd_576) (Nat.le_of_ble_eq_true rfl) (Nat.le_of_ble_eq_true rfl) (Nat.le_of_ble_eq_true rfl) (Nat.le_of_ble_eq_true rfl) d_Se_resistance_83 ?_
            refine tr_top (y := nI (max (rstF Bk Mt Su Op Sp Oq Ho X (dfcC Bk Su Op St Mv ms (X a)) a ms i) (prvC Bk Su Op Sp Oq Ho X ms i))) (nI_max9 (Nat.lt_trans (rstF_lt _ _ _ _ _ _ _ _ hz9 _ _ _) (by decide)) (Nat.lt_trans (prvC_lt _ _ _ _ _ _ _ _ _) (by decide))) ?_
            refine lv_istore (lv' := [(4, .int (nI (max (rstF Bk Mt Su Op Sp Oq Ho X (dfcC Bk Su Op St Mv ms (X a)) a ms i) (prvC Bk Su Op Sp Oq Ho X ms i)))), (5, .int (nI i)), (3, .int (nI (X a))), (0, .ref h0), (1, .int (nI a)), (2, .int (bI ms))]) hx hb d_Se_resistance_86 hl (by decide) rfl (fun ls hl => ?_)
            refine lv_iinc (lv' := [(5, .int ((nI i) + 1)), (4, .int (nI (max (rstF Bk Mt Su Op Sp Oq Ho X (dfcC Bk Su Op St Mv ms (X a)) a ms i) (prvC Bk Su Op Sp Oq Ho X ms i)))), (3, .int (nI (X a))), (0, .ref h0), (1, .int (nI a)), (2, .int (bI ms))]) hx hb d_Se_resistance_88 hl (k := 1) rfl rfl (by decide) rfl (fun ls hl => ?_)
            refine lv_goto (tgt := 42) hx hb d_Se_resistance_91 (by decide) ?_
            have e33 : (nI i) + 1 = nI (i + 1) := nI_1 i
            have e34 : nI (max (rstF Bk Mt Su Op Sp Oq Ho X (dfcC Bk Su Op St Mv ms (X a)) a ms i) (prvC Bk Su Op Sp Oq Ho X ms i)) = nI (rstF Bk Mt Su Op Sp Oq Ho X (dfcC Bk Su Op St Mv ms (X a)) a ms (i + 1)) := congrArg nI (show max (rstF Bk Mt Su Op Sp Oq Ho X (dfcC Bk Su Op St Mv ms (X a)) a ms i) (prvC Bk Su Op Sp Oq Ho X ms i) = rstF Bk Mt Su Op Sp Oq Ho X (dfcC Bk Su Op St Mv ms (X a)) a ms (i + 1) by rw [rstF]; simp [hb3, hc25, hb30])
            exact ih (i + 1) ls (by omega) (by rw [← e33, ← e34]; exact lv_sub hl [0, 1, 2, 3, 4, 5] rfl)
          · refine tr_top e9 ?_
            refine lv_if_eq (tgt := 88) hx hb d_Se_resistance_71 (by decide) (fun _ => ?_) (fun h0 => absurd (by decide) h0)
            refine lv_iinc (lv' := [(5, .int ((nI i) + 1)), (4, .int (nI (rstF Bk Mt Su Op Sp Oq Ho X (dfcC Bk Su Op St Mv ms (X a)) a ms i))), (3, .int (nI (X a))), (0, .ref h0), (1, .int (nI a)), (2, .int (bI ms))]) hx hb d_Se_resistance_88 hl (k := 0) rfl rfl (by decide) rfl (fun ls hl => ?_)
            refine lv_goto (tgt := 42) hx hb d_Se_resistance_91 (by decide) ?_
            have e36 : (nI i) + 1 = nI (i + 1) := nI_1 i
            have e37 : nI (rstF Bk Mt Su Op Sp Oq Ho X (dfcC Bk Su Op St Mv ms (X a)) a ms i) = nI (rstF Bk Mt Su Op Sp Oq Ho X (dfcC Bk Su Op St Mv ms (X a)) a ms (i + 1)) := congrArg nI (show rstF Bk Mt Su Op Sp Oq Ho X (dfcC Bk Su Op St Mv ms (X a)) a ms i = rstF Bk Mt Su Op Sp Oq Ho X (dfcC Bk Su Op St Mv ms (X a)) a ms (i + 1) by rw [rstF]; simp [hb3, hc25, hb30])
            exact ih (i + 1) ls (by omega) (by rw [← e36, ← e37]; exact lv_sub hl [0, 1, 2, 3, 4, 5] rfl)
    exact loop n 0 ls (Nat.zero_add _) hl
