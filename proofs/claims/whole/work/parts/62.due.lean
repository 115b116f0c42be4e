theorem d_Sw_takeCenters_0 : decode b_Sw_takeCenters 0 = .ok (.iconst 0, 1) := by decide +kernel
theorem d_Sw_takeCenters_1 : decode b_Sw_takeCenters 1 = .ok (.istore_n 1, 1) := by decide +kernel
theorem d_Sw_takeCenters_2 : decode b_Sw_takeCenters 2 = .ok (.iload_n 1, 1) := by decide +kernel
theorem d_Sw_takeCenters_3 : decode b_Sw_takeCenters 3 = .ok (.aload_n 0, 1) := by decide +kernel
theorem d_Sw_takeCenters_4 : decode b_Sw_takeCenters 4 = .ok (.getfield 13, 3) := by decide +kernel
theorem d_Sw_takeCenters_7 : decode b_Sw_takeCenters 7 = .ok (.getfield 57, 3) := by decide +kernel
theorem d_Sw_takeCenters_10 : decode b_Sw_takeCenters 10 = .ok (.if_icmp .ge 51, 3) := by decide +kernel
theorem d_Sw_takeCenters_13 : decode b_Sw_takeCenters 13 = .ok (.aload_n 0, 1) := by decide +kernel
theorem d_Sw_takeCenters_14 : decode b_Sw_takeCenters 14 = .ok (.getfield 13, 3) := by decide +kernel
theorem d_Sw_takeCenters_17 : decode b_Sw_takeCenters 17 = .ok (.getfield 220, 3) := by decide +kernel
theorem d_Sw_takeCenters_20 : decode b_Sw_takeCenters 20 = .ok (.iload_n 1, 1) := by decide +kernel
theorem d_Sw_takeCenters_21 : decode b_Sw_takeCenters 21 = .ok (.invokestatic 205, 3) := by decide +kernel
theorem d_Sw_takeCenters_24 : decode b_Sw_takeCenters 24 = .ok (.ifCond .eq 31, 3) := by decide +kernel
theorem d_Sw_takeCenters_27 : decode b_Sw_takeCenters 27 = .ok (.aload_n 0, 1) := by decide +kernel
theorem d_Sw_takeCenters_28 : decode b_Sw_takeCenters 28 = .ok (.getfield 19, 3) := by decide +kernel
theorem d_Sw_takeCenters_31 : decode b_Sw_takeCenters 31 = .ok (.iload_n 1, 1) := by decide +kernel
theorem d_Sw_takeCenters_32 : decode b_Sw_takeCenters 32 = .ok (.invokevirtual 78, 3) := by decide +kernel
theorem d_Sw_takeCenters_35 : decode b_Sw_takeCenters 35 = .ok (.ifCond .eq 20, 3) := by decide +kernel
theorem d_Sw_takeCenters_38 : decode b_Sw_takeCenters 38 = .ok (.aload_n 0, 1) := by decide +kernel
theorem d_Sw_takeCenters_39 : decode b_Sw_takeCenters 39 = .ok (.getfield 19, 3) := by decide +kernel
theorem d_Sw_takeCenters_42 : decode b_Sw_takeCenters 42 = .ok (.getfield 63, 3) := by decide +kernel
theorem d_Sw_takeCenters_45 : decode b_Sw_takeCenters 45 = .ok (.iload_n 1, 1) := by decide +kernel
theorem d_Sw_takeCenters_46 : decode b_Sw_takeCenters 46 = .ok (.aload_n 0, 1) := by decide +kernel
theorem d_Sw_takeCenters_47 : decode b_Sw_takeCenters 47 = .ok (.getfield 19, 3) := by decide +kernel
theorem d_Sw_takeCenters_50 : decode b_Sw_takeCenters 50 = .ok (.iload_n 1, 1) := by decide +kernel
theorem d_Sw_takeCenters_51 : decode b_Sw_takeCenters 51 = .ok (.invokevirtual 100, 3) := by decide +kernel
theorem d_Sw_takeCenters_54 : decode b_Sw_takeCenters 54 = .ok (.iastore, 1) := by decide +kernel
theorem d_Sw_takeCenters_55 : decode b_Sw_takeCenters 55 = .ok (.iinc 1 1, 3) := by decide +kernel
theorem d_Sw_takeCenters_58 : decode b_Sw_takeCenters 58 = .ok (.goto (-56), 3) := by decide +kernel
theorem d_Sw_takeCenters_61 : decode b_Sw_takeCenters 61 = .ok (.return_, 1) := by decide +kernel
theorem wd_36 : (Cond.fieldLink "SheetWar" (220 : Nat) "SheetWar$WarMap" "centers" "I") ∈ TB := tb_t 36 (by decide +kernel) (by decide +kernel)
theorem wd_465 : (Cond.methodLink "SheetWar" (100 : Nat) ({ cls := "SheetWar$Sheet", name := "playerAt", desc := "(I)I" } : MethodName)) ∈ TB := tb_t 465 (by decide +kernel) (by decide +kernel)
set_option maxHeartbeats 4000000 in
set_option maxRecDepth 100000 in
theorem c_Sw_takeCenters (l : Launch) (D : va_G) (cI cZ cJ cS : ClassId) (aT : Nat) (ceT : Cell) (sz : Nat) (h0 hm hh he ha hp : Nat) (ph : Int32) (qh qn n : Nat) (S Ce : Nat → Bool) (tn : Int32) (qu qo qx qy qr qw : Nat) (fu fw : Nat → Int32) (hn : n ≤ 12) : Met l y_Sw_takeCenters w_Sw_takeCenters ({ frames := 1, cells := 0, slots := 0, locals := 21 }) (tH D cI cZ cJ cS aT ceT [.ref h0] sz [(h0, .inr (5, [.ref hm, .ref hh, .ref he, .ref ha, .ref hp, .int ph])), (hm, .inr (4, [.int (nI n), .int (mI S), .int (mI Ce), .ref qh, .ref qn])), (hh, .inr (3, [.int tn, .ref qu, .ref qo, .ref qx, .ref qy, .ref qr, .ref qw])), (qu, .inl (cI, 12, .inl fu)), (qw, .inl (cI, 12, .inl fw))]) (va_Qv (fun _ : Unit => True) (fun _ t => tB D (va_A [(h0, .inr (5, [.ref hm, .ref hh, .ref he, .ref ha, .ref hp, .int ph])), (hm, .inr (4, [.int (nI n), .int (mI S), .int (mI Ce), .ref qh, .ref qn])), (hh, .inr (3, [.int tn, .ref qu, .ref qo, .ref qx, .ref qy, .ref qr, .ref qw])), (qu, .inl (cI, 12, .inl fu)), (qw, .inl (cI, 12, .inl fw))] sz) [(h0, .inr (5, [.ref hm, .ref hh, .ref he, .ref ha, .ref hp, .int ph])), (hm, .inr (4, [.int (nI n), .int (mI S), .int (mI Ce), .ref qh, .ref qn])), (hh, .inr (3, [.int tn, .ref qu, .ref qo, .ref qx, .ref qy, .ref qr, .ref qw])), (qu, .inl (cI, 12, .inl fu)), (qw, .inl (cI, 12, .inl (mxI (fun j => if (Ce j && !decide (fu j = -1)) = true then fu j / 2 else fw j) fw n)))] t) (va_A [(h0, .inr (5, [.ref hm, .ref hh, .ref he, .ref ha, .ref hp, .int ph])), (hm, .inr (4, [.int (nI n), .int (mI S), .int (mI Ce), .ref qh, .ref qn])), (hh, .inr (3, [.int tn, .ref qu, .ref qo, .ref qx, .ref qy, .ref qr, .ref qw])), (qu, .inl (cI, 12, .inl fu)), (qw, .inl (cI, 12, .inl fw))] sz)) 0 0 (va_A [(h0, .inr (5, [.ref hm, .ref hh, .ref he, .ref ha, .ref hp, .int ph])), (hm, .inr (4, [.int (nI n), .int (mI S), .int (mI Ce), .ref qh, .ref qn])), (hh, .inr (3, [.int tn, .ref qu, .ref qo, .ref qx, .ref qy, .ref qr, .ref qw])), (qu, .inl (cI, 12, .inl fu)), (qw, .inl (cI, 12, .inl fw))] sz) := by
  refine Met.ofW (cc := b_Sw_takeCenters) (maxL := 2) (ret := none) (by decide) rfl ?_
  intro p e s m args below meth c s₁ B hml hv
  obtain ⟨rfl, hsz, hP, hK, hD0, hX⟩ := hv
  have hx := B.exec
  have hb := B.bytes
  have hr := B.returns
  have hts0 := atoms_spec (ws := w_Sw_takeCenters) B.pre
  have hts : ∀ w ∈ TB, w.before _ s = true := fun w h => hts0 w (List.mem_cons_of_mem _ h)
  have hown : s.vm.findClass R_Sw = some m.cls := findClass_of_methodNamed B.named
  have hlocks := B.notSynchronized
  subst hsz
  have hXl := tx_lt hX
  have hXn := tx_far hP hX
  have hD := hD0.self (sz := s.heap.size)
  generalize hAe : va_A [(h0, .inr (5, [.ref hm, .ref hh, .ref he, .ref ha, .ref hp, .int ph])), (hm, .inr (4, [.int (nI n), .int (mI S), .int (mI Ce), .ref qh, .ref qn])), (hh, .inr (3, [.int tn, .ref qu, .ref qo, .ref qx, .ref qy, .ref qr, .ref qw])), (qu, .inl (cI, 12, .inl fu)), (qw, .inl (cI, 12, .inl fw))] s.heap.size = A at hD hXn ⊢
  have hA : ∀ q : Nat, s.heap.size ≤ q → A q := fun q h => by rw [← hAe]; exact Or.inr h
  have hS : va_S A s.heap s.heap [] := va_S.rf
  have hXH : s.heap[aT]? = s.heap[aT]? := rfl
  have hl := lv_entry ([.ref h0]) (n := 2) (Nat.le_of_ble_eq_true rfl)
  rw [lg_entry_eq]
  generalize (lg_sl ([.ref h0]) ++ List.replicate (2 - (lg_sl ([.ref h0])).length) Slot.unset).toArray = ls at hl ⊢
  have hl : lv_has ls 2 [(0, .ref h0)] := hl
  refine lv_iconst (v := 0) hx hb d_Sw_takeCenters_0 (by decide) ?_
  refine lv_istore_n (lv' := [(1, .int 0), (0, .ref h0)]) hx hb d_Sw_takeCenters_1 rfl hl (by decide) rfl (fun ls hl => ?_)
  have loop : ∀ (k i : Nat) (ls : Array Slot) (H : Heap) (locs : List Loc), i + k = n → lv_has ls 2 [(1, .int (nI i)), (0, .ref h0)] → va_P D vwCl [(h0, .inr (5, [.ref hm, .ref hh, .ref he, .ref ha, .ref hp, .int ph])), (hm, .inr (4, [.int (nI n), .int (mI S), .int (mI Ce), .ref qh, .ref qn])), (hh, .inr (3, [.int tn, .ref qu, .ref qo, .ref qx, .ref qy, .ref qr, .ref qw])), (qu, .inl (cI, 12, .inl fu)), (qw, .inl (cI, 12, .inl (mxI (fun j => if (Ce j && !decide (fu j = -1)) = true then fu j / 2 else fw j) fw i)))] H → va_D A [(h0, .inr (5, [.ref hm, .ref hh, .ref he, .ref ha, .ref hp, .int ph])), (hm, .inr (4, [.int (nI n), .int (mI S), .int (mI Ce), .ref qh, .ref qn])), (hh, .inr (3, [.int tn, .ref qu, .ref qo, .ref qx, .ref qy, .ref qr, .ref qw])), (qu, .inl (cI, 12, .inl fu)), (qw, .inl (cI, 12, .inl (mxI (fun j => if (Ce j && !decide (fu j = -1)) = true then fu j / 2 else fw j) fw i)))] → va_S A s.heap H locs → W p l e (headSpec w_Sw_takeCenters ({ frames := 1, cells := 0, slots := 0, locals := 21 })).room s m ([.ref h0]).toArray below meth c H locs 0 0 (MQ below (va_Qv (fun _ : Unit => True) (fun _ t => tB D A [(h0, .inr (5, [.ref hm, .ref hh, .ref he, .ref ha, .ref hp, .int ph])), (hm, .inr (4, [.int (nI n), .int (mI S), .int (mI Ce), .ref qh, .ref qn])), (hh, .inr (3, [.int tn, .ref qu, .ref qo, .ref qx, .ref qy, .ref qr, .ref qw])), (qu, .inl (cI, 12, .inl fu)), (qw, .inl (cI, 12, .inl (mxI (fun j => if (Ce j && !decide (fu j = -1)) = true then fu j / 2 else fw j) fw n)))] t) A) ([.ref h0]).toArray s 0 0 A) (F0 m 2 ls []) := by
    intro k
    induction k with
    | zero =>
      intro i ls H locs hi hl hP hD hS
      have hie : i = n := by omega
      rw [hie] at hl hP hD
      refine lv_iload_n hx hb d_Sw_takeCenters_2 rfl (lv_at hl 0 rfl) ?_
      refine lv_aload_n hx hb d_Sw_takeCenters_3 rfl (lv_at hl 1 rfl) ?_
      refine va_get (D := D) (ci := 5) (v := .ref hm) (C := R_Sw) (T := T_Sw) (N := 6) hx hb hts hin_Sw hown hK hP 0 rfl rfl 0 (by decide) (hts _ wd_201) (fun _ h9 => h9) rfl d_Sw_takeCenters_4 ?_
      refine va_get (D := D) (ci := 4) (v := .int (nI n)) (C := R_Wm) (T := T_Wm) (N := 5) hx hb hts hin_Wm hown hK hP 1 rfl rfl 0 (by decide) (hts _ wd_32) (fun _ h9 => h9) rfl d_Sw_takeCenters_7 ?_
      refine lv_icmp_ge (tgt := 61) hx hb d_Sw_takeCenters_10 (by decide) (fun _ => ?_) (fun h0 => absurd (Int32.le_refl _) h0)
      have hP9 := hP.sub (ws' := [(h0, .inr (5, [.ref hm, .ref hh, .ref he, .ref ha, .ref hp, .int ph])), (hm, .inr (4, [.int (nI n), .int (mI S), .int (mI Ce), .ref qh, .ref qn])), (hh, .inr (3, [.int tn, .ref qu, .ref qo, .ref qx, .ref qy, .ref qr, .ref qw])), (qu, .inl (cI, 12, .inl fu)), (qw, .inl (cI, 12, .inl (mxI (fun j => if (Ce j && !decide (fu j = -1)) = true then fu j / 2 else fw j) fw n)))]) [0, 1, 2, 3, 4] rfl
      have hD9 := hD.sub (ws' := [(h0, .inr (5, [.ref hm, .ref hh, .ref he, .ref ha, .ref hp, .int ph])), (hm, .inr (4, [.int (nI n), .int (mI S), .int (mI Ce), .ref qh, .ref qn])), (hh, .inr (3, [.int tn, .ref qu, .ref qo, .ref qx, .ref qy, .ref qr, .ref qw])), (qu, .inl (cI, 12, .inl fu)), (qw, .inl (cI, 12, .inl (mxI (fun j => if (Ce j && !decide (fu j = -1)) = true then fu j / 2 else fw j) fw n)))]) [0, 1, 2, 3, 4] (by decide) rfl
      exact W.vret hx hb hr (fun t ht hW => ⟨⟨(), rfl, trivial, by rw [ht]; exact hP9, hD9⟩, hS.F ht⟩) hS.2.2 d_Sw_takeCenters_61
    | succ k ih =>
      intro i ls H locs hi hl hP hD hS
      have hlt : i < n := by omega
      have hlt12 : i < 12 := by omega
      refine lv_iload_n hx hb d_Sw_takeCenters_2 rfl (lv_at hl 0 rfl) ?_
      refine lv_aload_n hx hb d_Sw_takeCenters_3 rfl (lv_at hl 1 rfl) ?_
      refine va_get (D := D) (ci := 5) (v := .ref hm) (C := R_Sw) (T := T_Sw) (N := 6) hx hb hts hin_Sw hown hK hP 0 rfl rfl 0 (by decide) (hts _ wd_201) (fun _ h9 => h9) rfl d_Sw_takeCenters_4 ?_
      refine va_get (D := D) (ci := 4) (v := .int (nI n)) (C := R_Wm) (T := T_Wm) (N := 5) hx hb hts hin_Wm hown hK hP 1 rfl rfl 0 (by decide) (hts _ wd_32) (fun _ h9 => h9) rfl d_Sw_takeCenters_7 ?_
      refine lv_icmp_ge (tgt := 61) hx hb d_Sw_takeCenters_10 (by decide) (fun h0 => absurd h0 (nI_ge hlt (by omega))) (fun _ => ?_)
      refine lv_aload_n hx hb d_Sw_takeCenters_13 rfl (lv_at hl 1 rfl) ?_
      refine va_get (D := D) (ci := 5) (v := .ref hm) (C := R_Sw) (T := T_Sw) (N := 6) hx hb hts hin_Sw hown hK hP 0 rfl rfl 0 (by decide) (hts _ wd_201) (fun _ h9 => h9) rfl d_Sw_takeCenters_14 ?_
      refine va_get (D := D) (ci := 4) (v := .int (mI Ce)) (C := R_Wm) (T := T_Wm) (N := 5) hx hb hts hin_Wm hown hK hP 1 rfl rfl 2 (by decide) (hts _ wd_36) (fun _ h9 => h9) rfl d_Sw_takeCenters_17 ?_
      refine lv_iload_n hx hb d_Sw_takeCenters_20 rfl (lv_at hl 0 rfl) ?_
      have hPc := hP.sub (ws' := []) [] rfl
      refine vp_callSi (va_Run.run (va_runS (As := [.int (mI Ce), .int (nI i)]) (rest := []) ⟨hx, hb, hml, hown, hts⟩ (c_Sw_in l D cI cZ cJ cS aT ceT  Ce i hlt12) (va_cwS 2 hts (tb_3 wd_290 wd_284 wd_1 (tb_c wd_285)) rfl rfl rfl ⟨by decide, by decide, by decide +kernel⟩ ⟨Nat.le_of_ble_eq_true rfl, Nat.le_of_ble_eq_true rfl⟩) (tP_S hK hX (hS.2.1 aT hXl hXn) hPc) rfl rfl hl.1 rfl (lv_room (Nat.le_of_ble_eq_true rfl)) d_Sw_takeCenters_21 ⟨Nat.le_of_ble_eq_true rfl, Nat.le_of_ble_eq_true rfl⟩)) (fun r3 hr9 => ?_)
      rw [hr9]
      rcases bI_c (Ce i) with ⟨hb5, e9⟩ | ⟨hb5, e9⟩
      · refine tr_top e9 ?_
        refine lv_if_eq (tgt := 55) hx hb d_Sw_takeCenters_24 (by decide) (fun h0 => absurd h0 (by decide)) (fun _ => ?_)
        refine lv_aload_n hx hb d_Sw_takeCenters_27 rfl (lv_at hl 1 rfl) ?_
        refine va_get (D := D) (ci := 5) (v := .ref hh) (C := R_Sw) (T := T_Sw) (N := 6) hx hb hts hin_Sw hown hK hP 0 rfl rfl 1 (by decide) (hts _ wd_202) (fun _ h9 => h9) rfl d_Sw_takeCenters_28 ?_
        refine lv_iload_n hx hb d_Sw_takeCenters_31 rfl (lv_at hl 0 rfl) ?_
        have hPc := hP.sub (ws' := [(hh, .inr (3, [.int tn, .ref qu, .ref qo, .ref qx, .ref qy, .ref qr, .ref qw])), (qu, .inl (cI, 12, .inl fu))]) [2, 3] rfl
        refine vp_callSi (va_Run.run (va_runV (As := [.int (nI i)]) (rest := []) ⟨hx, hb, hml, hown, hts⟩ (c_Sh_hasUnitP l D cI cZ cJ cS aT ceT  hh tn qu qo qx qy qr qw fu i hlt12) (cwV 1 hts (tb_4 wd_286 wd_287 wd_288 wd_3 (tb_c wd_289)) rfl rfl rfl ⟨rfl, by decide, by decide, by decide +kernel⟩ ⟨Nat.le_of_ble_eq_true rfl, Nat.le_of_ble_eq_true rfl⟩) (tP_V hK hX (hS.2.1 aT hXl hXn) hPc (q := 0) rfl rfl) rfl rfl hl.1 rfl (lv_room (Nat.le_of_ble_eq_true rfl)) d_Sw_takeCenters_32 ⟨Nat.le_of_ble_eq_true rfl, Nat.le_of_ble_eq_true rfl⟩)) (fun r7 hr9 => ?_)
        rw [hr9]
        rcases bI_c (!decide (fu i = -1)) with ⟨hb9, e9⟩ | ⟨hb9, e9⟩
        · refine tr_top e9 ?_
          refine lv_if_eq (tgt := 55) hx hb d_Sw_takeCenters_35 (by decide) (fun h0 => absurd h0 (by decide)) (fun _ => ?_)
          refine lv_aload_n hx hb d_Sw_takeCenters_38 rfl (lv_at hl 1 rfl) ?_
          refine va_get (D := D) (ci := 5) (v := .ref hh) (C := R_Sw) (T := T_Sw) (N := 6) hx hb hts hin_Sw hown hK hP 0 rfl rfl 1 (by decide) (hts _ wd_202) (fun _ h9 => h9) rfl d_Sw_takeCenters_39 ?_
          refine va_get (D := D) (ci := 3) (v := .ref qw) (C := R_Sh) (T := T_Sh) (N := 7) hx hb hts hin_Sh hown hK hP 2 rfl rfl 6 (by decide) (hts _ wd_81) (fun _ h9 => h9) rfl d_Sw_takeCenters_42 ?_
          refine lv_iload_n hx hb d_Sw_takeCenters_45 rfl (lv_at hl 0 rfl) ?_
          refine lv_aload_n hx hb d_Sw_takeCenters_46 rfl (lv_at hl 1 rfl) ?_
          refine va_get (D := D) (ci := 5) (v := .ref hh) (C := R_Sw) (T := T_Sw) (N := 6) hx hb hts hin_Sw hown hK hP 0 rfl rfl 1 (by decide) (hts _ wd_202) (fun _ h9 => h9) rfl d_Sw_takeCenters_47 ?_
          refine lv_iload_n hx hb d_Sw_takeCenters_50 rfl (lv_at hl 0 rfl) ?_
          have hPc := hP.sub (ws' := [(hh, .inr (3, [.int tn, .ref qu, .ref qo, .ref qx, .ref qy, .ref qr, .ref qw])), (qu, .inl (cI, 12, .inl fu))]) [2, 3] rfl
          refine vp_callSi (va_Run.run (va_runV (As := [.int (nI i)]) (rest := [.int (nI i), .ref qw]) ⟨hx, hb, hml, hown, hts⟩ (c_Sh_playerAtP l D cI cZ cJ cS aT ceT  hh tn qu qo qx qy qr qw fu i hlt12) (cwV 1 hts (tb_4 wd_465 wd_312 wd_313 wd_3 (tb_c wd_314)) rfl rfl rfl ⟨rfl, by decide, by decide, by decide +kernel⟩ ⟨Nat.le_of_ble_eq_true rfl, Nat.le_of_ble_eq_true rfl⟩) (tP_V hK hX (hS.2.1 aT hXl hXn) hPc (q := 0) rfl rfl) rfl rfl hl.1 rfl (lv_room (Nat.le_of_ble_eq_true rfl)) d_Sw_takeCenters_51 ⟨Nat.le_of_ble_eq_true rfl, Nat.le_of_ble_eq_true rfl⟩)) (fun r11 hr9 => ?_)
          rw [hr9]
          refine tr_iast (g := upd (mxI (fun j => if (Ce j && !decide (fu j = -1)) = true then fu j / 2 else fw j) fw i) i (fu i / 2)) hx hb hK hP hD hS 4 0 rfl rfl i hlt12 (by decide) rfl d_Sw_takeCenters_54 (fun H locs hP hD hS => ?_)
          have hP : va_P D vwCl [(h0, .inr (5, [.ref hm, .ref hh, .ref he, .ref ha, .ref hp, .int ph])), (hm, .inr (4, [.int (nI n), .int (mI S), .int (mI Ce), .ref qh, .ref qn])), (hh, .inr (3, [.int tn, .ref qu, .ref qo, .ref qx, .ref qy, .ref qr, .ref qw])), (qu, .inl (cI, 12, .inl fu)), (qw, .inl (cI, 12, .inl (upd (mxI (fun j => if (Ce j && !decide (fu j = -1)) = true then fu j / 2 else fw j) fw i) i (fu i / 2))))] H := hP
          have hD : va_D A [(h0, .inr (5, [.ref hm, .ref hh, .ref he, .ref ha, .ref hp, .int ph])), (hm, .inr (4, [.int (nI n), .int (mI S), .int (mI Ce), .ref qh, .ref qn])), (hh, .inr (3, [.int tn, .ref qu, .ref qo, .ref qx, .ref qy, .ref qr, .ref qw])), (qu, .inl (cI, 12, .inl fu)), (qw, .inl (cI, 12, .inl (upd (mxI (fun j => if (Ce j && !decide (fu j = -1)) = true then fu j / 2 else fw j) fw i) i (fu i / 2))))] := hD
          refine lv_iinc (lv' := [(1, .int ((nI i) + 1)), (0, .ref h0)]) hx hb d_Sw_takeCenters_55 hl (k := 0) rfl rfl (by decide) rfl (fun ls hl => ?_)
          refine lv_goto (tgt := 2) hx hb d_Sw_takeCenters_58 (by decide) ?_
          have e12 : (nI i) + 1 = nI (i + 1) := nI_1 i
          have eo13 : (upd (mxI (fun j => if (Ce j && !decide (fu j = -1)) = true then fu j / 2 else fw j) fw i) i (fu i / 2)) = (mxI (fun j => if (Ce j && !decide (fu j = -1)) = true then fu j / 2 else fw j) fw (i + 1)) := mxI_s (by first | (simp only [mxI_at, pk_us, hb9] <;> simp <;> done) | (simp only [mxI_at, pk_us, hb5, hb9] <;> simp [mxI_at, pk_us, hb5, hb9] <;> done))
          exact ih (i + 1) ls H locs (by omega) (by rw [← e12]; exact lv_sub hl [0, 1] rfl) (by rw [← eo13]; exact hP) (by rw [← eo13]; exact hD) hS
        · refine tr_top e9 ?_
          refine lv_if_eq (tgt := 55) hx hb d_Sw_takeCenters_35 (by decide) (fun _ => ?_) (fun h0 => absurd (by decide) h0)
          refine lv_iinc (lv' := [(1, .int ((nI i) + 1)), (0, .ref h0)]) hx hb d_Sw_takeCenters_55 hl (k := 0) rfl rfl (by decide) rfl (fun ls hl => ?_)
          refine lv_goto (tgt := 2) hx hb d_Sw_takeCenters_58 (by decide) ?_
          have e15 : (nI i) + 1 = nI (i + 1) := nI_1 i
          have eo16 : (mxI (fun j => if (Ce j && !decide (fu j = -1)) = true then fu j / 2 else fw j) fw i) = (mxI (fun j => if (Ce j && !decide (fu j = -1)) = true then fu j / 2 else fw j) fw (i + 1)) := mxI_k (by first | (simp only [mxI_at, pk_us, hb9] <;> simp <;> done) | (simp only [mxI_at, pk_us, hb5, hb9] <;> simp [mxI_at, pk_us, hb5, hb9] <;> done))
          exact ih (i + 1) ls H locs (by omega) (by rw [← e15]; exact lv_sub hl [0, 1] rfl) (by rw [← eo16]; exact hP) (by rw [← eo16]; exact hD) hS
      · refine tr_top e9 ?_
        refine lv_if_eq (tgt := 55) hx hb d_Sw_takeCenters_24 (by decide) (fun _ => ?_) (fun h0 => absurd (by decide) h0)
        refine lv_iinc (lv' := [(1, .int ((nI i) + 1)), (0, .ref h0)]) hx hb d_Sw_takeCenters_55 hl (k := 0) rfl rfl (by decide) rfl (fun ls hl => ?_)
        refine lv_goto (tgt := 2) hx hb d_Sw_takeCenters_58 (by decide) ?_
        have e18 : (nI i) + 1 = nI (i + 1) := nI_1 i
        have eo19 : (mxI (fun j => if (Ce j && !decide (fu j = -1)) = true then fu j / 2 else fw j) fw i) = (mxI (fun j => if (Ce j && !decide (fu j = -1)) = true then fu j / 2 else fw j) fw (i + 1)) := mxI_k (by first | (simp only [mxI_at, pk_us, hb5] <;> simp <;> done) | (simp only [mxI_at, pk_us, hb5] <;> simp [mxI_at, pk_us, hb5] <;> done))
        exact ih (i + 1) ls H locs (by omega) (by rw [← e18]; exact lv_sub hl [0, 1] rfl) (by rw [← eo19]; exact hP) (by rw [← eo19]; exact hD) hS
  have ei20 : (mxI (fun j => if (Ce j && !decide (fu j = -1)) = true then fu j / 2 else fw j) fw 0) = (fw) := mxI_0 _ _
  exact loop n 0 ls _ _ (Nat.zero_add _) hl (by rw [ei20]; exact hP) (by rw [ei20]; exact hD) hS

theorem d_Sh_missingUnits_0 : decode b_Sh_missingUnits 0 = .ok (.aload_n 0, 1) := by decide +kernel
theorem d_Sh_missingUnits_1 : decode b_Sh_missingUnits 1 = .ok (.iload_n 1, 1) := by decide +kernel
theorem d_Sh_missingUnits_2 : decode b_Sh_missingUnits 2 = .ok (.invokevirtual 54, 3) := by decide +kernel
theorem d_Sh_missingUnits_5 : decode b_Sh_missingUnits 5 = .ok (.aload_n 0, 1) := by decide +kernel
theorem d_Sh_missingUnits_6 : decode b_Sh_missingUnits 6 = .ok (.iload_n 1, 1) := by decide +kernel
theorem d_Sh_missingUnits_7 : decode b_Sh_missingUnits 7 = .ok (.invokevirtual 57, 3) := by decide +kernel
theorem d_Sh_missingUnits_10 : decode b_Sh_missingUnits 10 = .ok (.isub, 1) := by decide +kernel
theorem d_Sh_missingUnits_11 : decode b_Sh_missingUnits 11 = .ok (.ireturn, 1) := by decide +kernel
theorem wd_642 : (Cond.methodLink "SheetWar$Sheet" (54 : Nat) ({ cls := "SheetWar$Sheet", name := "centersOf", desc := "(I)I" } : MethodName)) ∈ TB := tb_t 642 (by decide +kernel) (by decide +kernel)
theorem wd_643 : (Cond.methodLink "SheetWar$Sheet" (57 : Nat) ({ cls := "SheetWar$Sheet", name := "unitsOf", desc := "(I)I" } : MethodName)) ∈ TB := tb_t 643 (by decide +kernel) (by decide +kernel)
set_option maxHeartbeats 4000000 in
set_option maxRecDepth 100000 in
theorem c_Sh_missing (l : Launch) (D : va_G) (cI cZ cJ cS : ClassId) (aT : Nat) (ceT : Cell) (h0 : Nat) (tn : Int32) (qu qo qx qy qr qw : Nat) (fu fw : Nat → Int32) (pl : Int32)  : Met l y_Sh_missingUnits w_Sh_missingUnits ({ frames := 2, cells := 0, slots := 0, locals := 44 }) (tP D cI cZ cJ cS aT ceT [.ref h0, .int pl] [(h0, .inr (3, [.int tn, .ref qu, .ref qo, .ref qx, .ref qy, .ref qr, .ref qw])), (qu, .inl (cI, 12, .inl fu)), (qw, .inl (cI, 12, .inl fw))]) (vp_Si (fun r => r = nI (cnt fw pl 12) - nI (cntU fu pl 12))) 0 0 (fun _ => False) := by
  refine Met.ofW (cc := b_Sh_missingUnits) (maxL := 2) (ret := (some .int)) (by decide) rfl ?_
  intro p e s m args below meth c s₁ B hml hv
  obtain ⟨rfl, hP, hK, hX⟩ := hv
  have hx := B.exec
  have hb := B.bytes
  have hr := B.returns
  have hts0 := atoms_spec (ws := w_Sh_missingUnits) B.pre
  have hts : ∀ w ∈ TB, w.before _ s = true := fun w h => hts0 w (List.mem_cons_of_mem _ h)
  have hown : s.vm.findClass R_Sh = some m.cls := findClass_of_methodNamed B.named
  have hlocks := B.notSynchronized
  have hXH : s.heap[aT]? = s.heap[aT]? := rfl
  have hl := lv_entry ([.ref h0, .int pl]) (n := 2) (Nat.le_of_ble_eq_true rfl)
  rw [lg_entry_eq]
  generalize (lg_sl ([.ref h0, .int pl]) ++ List.replicate (2 - (lg_sl ([.ref h0, .int pl])).length) Slot.unset).toArray = ls at hl ⊢
  have hl : lv_has ls 2 [(0, .ref h0), (1, .int pl)] := hl
  refine lv_aload_n hx hb d_Sh_missingUnits_0 rfl (lv_at hl 0 rfl) ?_
  refine lv_iload_n hx hb d_Sh_missingUnits_1 rfl (lv_at hl 1 rfl) ?_
  have hPc := hP.sub (ws' := [(h0, .inr (3, [.int tn, .ref qu, .ref qo, .ref qx, .ref qy, .ref qr, .ref qw])), (qw, .inl (cI, 12, .inl fw))]) [0, 2] rfl
  refine vp_callSi (va_Run.run (va_runV (As := [.int pl]) (rest := []) ⟨hx, hb, hml, hown, hts⟩ (c_Sh_centersOf l D cI cZ cJ cS aT ceT  h0 tn qu qo qx qy qr qw fw pl ) (cwV 1 hts (tb_4 wd_642 wd_303 wd_304 wd_3 (tb_c wd_305)) rfl rfl rfl ⟨rfl, by decide, by decide, by decide +kernel⟩ ⟨Nat.le_of_ble_eq_true rfl, Nat.le_of_ble_eq_true rfl⟩) (tP_V hK hX hXH hPc (q := 0) rfl rfl) rfl rfl hl.1 rfl (lv_room (Nat.le_of_ble_eq_true rfl)) d_Sh_missingUnits_2 ⟨Nat.le_of_ble_eq_true rfl, Nat.le_of_ble_eq_true rfl⟩)) (fun r1 hr9 => ?_)
  rw [hr9]
  refine lv_aload_n hx hb d_Sh_missingUnits_5 rfl (lv_at hl 0 rfl) ?_
  refine lv_iload_n hx hb d_Sh_missingUnits_6 rfl (lv_at hl 1 rfl) ?_
  have hPc := hP.sub (ws' := [(h0, .inr (3, [.int tn, .ref qu, .ref qo, .ref qx, .ref qy, .ref qr, .ref qw])), (qu, .inl (cI, 12, .inl fu))]) [0, 1] rfl
  refine vp_callSi (va_Run.run (va_runV (As := [.int pl]) (rest := [.int (nI (cnt fw pl 12))]) ⟨hx, hb, hml, hown, hts⟩ (c_Sh_unitsOf l D cI cZ cJ cS aT ceT  h0 tn qu qo qx qy qr qw fu pl ) (cwV 1 hts (tb_4 wd_643 wd_307 wd_308 wd_3 (tb_c wd_309)) rfl rfl rfl ⟨rfl, by decide, by decide, by decide +kernel⟩ ⟨Nat.le_of_ble_eq_true rfl, Nat.le_of_ble_eq_true rfl⟩) (tP_V hK hX hXH hPc (q := 0) rfl rfl) rfl rfl hl.1 rfl (lv_room (Nat.le_of_ble_eq_true rfl)) d_Sh_missingUnits_7 ⟨Nat.le_of_ble_eq_true rfl, Nat.le_of_ble_eq_true rfl⟩)) (fun r2 hr9 => ?_)
  rw [hr9]
  refine lv_isub hx hb d_Sh_missingUnits_10 ?_
  exact W.iret (v := (nI (cnt fw pl 12)) - (nI (cntU fu pl 12))) hx hb hr (fun t ht hW => ⟨(nI (cnt fw pl 12)) - (nI (cntU fu pl 12)), rfl, rfl, ht⟩) (fun q hq => by cases hq) d_Sh_missingUnits_11

def bpC (fh fw fu : Nat → Int32) (pl : Int32) (a : Nat) : Bool := decide (fh a = pl) && decide (fw a = pl) && !(!decide (fu a = -1))
def msC (fw fu : Nat → Int32) (pl : Int32) : Int32 := nI (cnt fw pl 12) - nI (cntU fu pl 12)
def bdC (fh fw fu : Nat → Int32) (n p : Nat) : Bool := decide (msC fw fu (nI p) < 0) || (!decide (msC fw fu (nI p) ≤ 0) && anyB (bpC fh fw fu (nI p)) n)

theorem d_Sw_isBuildingPlace_0 : decode b_Sw_isBuildingPlace 0 = .ok (.aload_n 0, 1) := by decide +kernel
theorem d_Sw_isBuildingPlace_1 : decode b_Sw_isBuildingPlace 1 = .ok (.getfield 13, 3) := by decide +kernel
theorem d_Sw_isBuildingPlace_4 : decode b_Sw_isBuildingPlace 4 = .ok (.getfield 232, 3) := by decide +kernel
theorem d_Sw_isBuildingPlace_7 : decode b_Sw_isBuildingPlace 7 = .ok (.iload_n 2, 1) := by decide +kernel
theorem d_Sw_isBuildingPlace_8 : decode b_Sw_isBuildingPlace 8 = .ok (.iaload, 1) := by decide +kernel
theorem d_Sw_isBuildingPlace_9 : decode b_Sw_isBuildingPlace 9 = .ok (.iload_n 1, 1) := by decide +kernel
theorem d_Sw_isBuildingPlace_10 : decode b_Sw_isBuildingPlace 10 = .ok (.if_icmp .ne 31, 3) := by decide +kernel
theorem d_Sw_isBuildingPlace_13 : decode b_Sw_isBuildingPlace 13 = .ok (.aload_n 0, 1) := by decide +kernel
theorem d_Sw_isBuildingPlace_14 : decode b_Sw_isBuildingPlace 14 = .ok (.getfield 19, 3) := by decide +kernel
theorem d_Sw_isBuildingPlace_17 : decode b_Sw_isBuildingPlace 17 = .ok (.getfield 63, 3) := by decide +kernel
theorem d_Sw_isBuildingPlace_20 : decode b_Sw_isBuildingPlace 20 = .ok (.iload_n 2, 1) := by decide +kernel
theorem d_Sw_isBuildingPlace_21 : decode b_Sw_isBuildingPlace 21 = .ok (.iaload, 1) := by decide +kernel
theorem d_Sw_isBuildingPlace_22 : decode b_Sw_isBuildingPlace 22 = .ok (.iload_n 1, 1) := by decide +kernel
theorem d_Sw_isBuildingPlace_23 : decode b_Sw_isBuildingPlace 23 = .ok (.if_icmp .ne 18, 3) := by decide +kernel
theorem d_Sw_isBuildingPlace_26 : decode b_Sw_isBuildingPlace 26 = .ok (.aload_n 0, 1) := by decide +kernel
theorem d_Sw_isBuildingPlace_27 : decode b_Sw_isBuildingPlace 27 = .ok (.getfield 19, 3) := by decide +kernel
theorem d_Sw_isBuildingPlace_30 : decode b_Sw_isBuildingPlace 30 = .ok (.iload_n 2, 1) := by decide +kernel
theorem d_Sw_isBuildingPlace_31 : decode b_Sw_isBuildingPlace 31 = .ok (.invokevirtual 78, 3) := by decide +kernel
theorem d_Sw_isBuildingPlace_34 : decode b_Sw_isBuildingPlace 34 = .ok (.ifCond .ne 7, 3) := by decide +kernel
theorem d_Sw_isBuildingPlace_37 : decode b_Sw_isBuildingPlace 37 = .ok (.iconst 1, 1) := by decide +kernel
theorem d_Sw_isBuildingPlace_38 : decode b_Sw_isBuildingPlace 38 = .ok (.goto 4, 3) := by decide +kernel
theorem d_Sw_isBuildingPlace_41 : decode b_Sw_isBuildingPlace 41 = .ok (.iconst 0, 1) := by decide +kernel
theorem d_Sw_isBuildingPlace_42 : decode b_Sw_isBuildingPlace 42 = .ok (.ireturn, 1) := by decide +kernel
theorem wd_38 : (Cond.fieldLink "SheetWar" (232 : Nat) "SheetWar$WarMap" "homes" "[I") ∈ TB := tb_t 38 (by decide +kernel) (by decide +kernel)
set_option maxHeartbeats 4000000 in
set_option maxRecDepth 100000 in
theorem c_Sw_isBuildingPlace (l : Launch) (D : va_G) (cI cZ cJ cS : ClassId) (aT : Nat) (ceT : Cell) (h0 hm hh he ha hp : Nat) (ph : Int32) (qh qn n : Nat) (S Ce : Nat → Bool) (tn : Int32) (qu qo qx qy qr qw : Nat) (fh fw fu : Nat → Int32) (pl : Int32) (a : Nat)  (h_a : a < 12) : Met l y_Sw_isBuildingPlace w_Sw_isBuildingPlace ({ frames := 1, cells := 0, slots := 0, locals := 21 }) (tP D cI cZ cJ cS aT ceT [.ref h0, .int pl, .int (nI a)] [(h0, .inr (5, [.ref hm, .ref hh, .ref he, .ref ha, .ref hp, .int ph])), (hm, .inr (4, [.int (nI n), .int (mI S), .int (mI Ce), .ref qh, .ref qn])), (qh, .inl (cI, 12, .inl fh)), (hh, .inr (3, [.int tn, .ref qu, .ref qo, .ref qx, .ref qy, .ref qr, .ref qw])), (qu, .inl (cI, 12, .inl fu)), (qw, .inl (cI, 12, .inl fw))]) (vp_Si (fun r => r = bI (bpC fh fw fu pl a))) 0 0 (fun _ => False) := by
  refine Met.ofW (cc := b_Sw_isBuildingPlace) (maxL := 3) (ret := (some .boolean)) (by decide) rfl ?_
  intro p e s m args below meth c s₁ B hml hv
  obtain ⟨rfl, hP, hK, hX⟩ := hv
  have hx := B.exec
  have hb := B.bytes
  have hr := B.returns
  have hts0 := atoms_spec (ws := w_Sw_isBuildingPlace) B.pre
  have hts : ∀ w ∈ TB, w.before _ s = true := fun w h => hts0 w (List.mem_cons_of_mem _ h)
  have hown : s.vm.findClass R_Sw = some m.cls := findClass_of_methodNamed B.named
  have hlocks := B.notSynchronized
  have hXH : s.heap[aT]? = s.heap[aT]? := rfl
  have hl := lv_entry ([.ref h0, .int pl, .int (nI a)]) (n := 3) (Nat.le_of_ble_eq_true rfl)
  rw [lg_entry_eq]
  generalize (lg_sl ([.ref h0, .int pl, .int (nI a)]) ++ List.replicate (3 - (lg_sl ([.ref h0, .int pl, .int (nI a)])).length) Slot.unset).toArray = ls at hl ⊢
  have hl : lv_has ls 3 [(0, .ref h0), (1, .int pl), (2, .int (nI a))] := hl
  refine lv_aload_n hx hb d_Sw_isBuildingPlace_0 rfl (lv_at hl 0 rfl) ?_
  refine va_get (D := D) (ci := 5) (v := .ref hm) (C := R_Sw) (T := T_Sw) (N := 6) hx hb hts hin_Sw hown hK hP 0 rfl rfl 0 (by decide) (hts _ wd_201) (fun _ h9 => h9) rfl d_Sw_isBuildingPlace_1 ?_
  refine va_get (D := D) (ci := 4) (v := .ref qh) (C := R_Wm) (T := T_Wm) (N := 5) hx hb hts hin_Wm hown hK hP 1 rfl rfl 3 (by decide) (hts _ wd_38) (fun _ h9 => h9) rfl d_Sw_isBuildingPlace_4 ?_
  refine lv_iload_n hx hb d_Sw_isBuildingPlace_7 rfl (lv_at hl 2 rfl) ?_
  refine tr_iald (v := fh a) hx hb hK hP 2 0 rfl rfl a h_a (by decide) rfl d_Sw_isBuildingPlace_8 ?_
  refine lv_iload_n hx hb d_Sw_isBuildingPlace_9 rfl (lv_at hl 1 rfl) ?_
  refine lv_icmp_ne (tgt := 41) hx hb d_Sw_isBuildingPlace_10 (by decide) (fun hc1 => ?_) (fun hc1 => ?_)
  · -- 10 taken
    refine lv_iconst (v := 0) hx hb d_Sw_isBuildingPlace_41 (by decide) ?_
    exact W.zret (v := 0) hx hb hr (by decide) (fun t ht hW => ⟨0, rfl, (bI_f (by simp only [bpC] <;> simp [hc1])).symm, ht⟩) (fun q hq => by cases hq) d_Sw_isBuildingPlace_42
  · -- 10 not taken
    refine lv_aload_n hx hb d_Sw_isBuildingPlace_13 rfl (lv_at hl 0 rfl) ?_
    refine va_get (D := D) (ci := 5) (v := .ref hh) (C := R_Sw) (T := T_Sw) (N := 6) hx hb hts hin_Sw hown hK hP 0 rfl rfl 1 (by decide) (hts _ wd_202) (fun _ h9 => h9) rfl d_Sw_isBuildingPlace_14 ?_
    refine va_get (D := D) (ci := 3) (v := .ref qw) (C := R_Sh) (T := T_Sh) (N := 7) hx hb hts hin_Sh hown hK hP 3 rfl rfl 6 (by decide) (hts _ wd_81) (fun _ h9 => h9) rfl d_Sw_isBuildingPlace_17 ?_
    refine lv_iload_n hx hb d_Sw_isBuildingPlace_20 rfl (lv_at hl 2 rfl) ?_
    refine tr_iald (v := fw a) hx hb hK hP 5 0 rfl rfl a h_a (by decide) rfl d_Sw_isBuildingPlace_21 ?_
    refine lv_iload_n hx hb d_Sw_isBuildingPlace_22 rfl (lv_at hl 1 rfl) ?_
    refine lv_icmp_ne (tgt := 41) hx hb d_Sw_isBuildingPlace_23 (by decide) (fun hc2 => ?_) (fun hc2 => ?_)
    · -- 23 taken
      refine lv_iconst (v := 0) hx hb d_Sw_isBuildingPlace_41 (by decide) ?_
      exact W.zret (v := 0) hx hb hr (by decide) (fun t ht hW => ⟨0, rfl, (bI_f (by simp only [bpC] <;> simp [hc1, hc2])).symm, ht⟩) (fun q hq => by cases hq) d_Sw_isBuildingPlace_42
    · -- 23 not taken
      refine lv_aload_n hx hb d_Sw_isBuildingPlace_26 rfl (lv_at hl 0 rfl) ?_
      refine va_get (D := D) (ci := 5) (v := .ref hh) (C := R_Sw) (T := T_Sw) (N := 6) hx hb hts hin_Sw hown hK hP 0 rfl rfl 1 (by decide) (hts _ wd_202) (fun _ h9 => h9) rfl d_Sw_isBuildingPlace_27 ?_
      refine lv_iload_n hx hb d_Sw_isBuildingPlace_30 rfl (lv_at hl 2 rfl) ?_
      have hPc := hP.sub (ws' := [(hh, .inr (3, [.int tn, .ref qu, .ref qo, .ref qx, .ref qy, .ref qr, .ref qw])), (qu, .inl (cI, 12, .inl fu))]) [3, 4] rfl
      refine vp_callSi (va_Run.run (va_runV (As := [.int (nI a)]) (rest := []) ⟨hx, hb, hml, hown, hts⟩ (c_Sh_hasUnitP l D cI cZ cJ cS aT ceT  hh tn qu qo qx qy qr qw fu a h_a) (cwV 1 hts (tb_4 wd_286 wd_287 wd_288 wd_3 (tb_c wd_289)) rfl rfl rfl ⟨rfl, by decide, by decide, by decide +kernel⟩ ⟨Nat.le_of_ble_eq_true rfl, Nat.le_of_ble_eq_true rfl⟩) (tP_V hK hX hXH hPc (q := 0) rfl rfl) rfl rfl hl.1 rfl (lv_room (Nat.le_of_ble_eq_true rfl)) d_Sw_isBuildingPlace_31 ⟨Nat.le_of_ble_eq_true rfl, Nat.le_of_ble_eq_true rfl⟩)) (fun r3 hr9 => ?_)
      rw [hr9]
      rcases bI_c (!decide (fu a = -1)) with ⟨hb5, e9⟩ | ⟨hb5, e9⟩
      · refine tr_top e9 ?_
        refine lv_if_ne (tgt := 41) hx hb d_Sw_isBuildingPlace_34 (by decide) (fun _ => ?_) (fun h0 => absurd h0 (by decide))
        refine lv_iconst (v := 0) hx hb d_Sw_isBuildingPlace_41 (by decide) ?_
        exact W.zret (v := 0) hx hb hr (by decide) (fun t ht hW => ⟨0, rfl, (bI_f (by simp only [bpC, hb5] <;> simp [hc1, hc2, hb5])).symm, ht⟩) (fun q hq => by cases hq) d_Sw_isBuildingPlace_42
      · refine tr_top e9 ?_
        refine lv_if_ne (tgt := 41) hx hb d_Sw_isBuildingPlace_34 (by decide) (fun h0 => absurd (by decide) h0) (fun _ => ?_)
        refine lv_iconst (v := 1) hx hb d_Sw_isBuildingPlace_37 (by decide) ?_
        refine lv_goto (tgt := 42) hx hb d_Sw_isBuildingPlace_38 (by decide) ?_
        exact W.zret (v := 1) hx hb hr (by decide) (fun t ht hW => ⟨1, rfl, (bI_t (by simp only [bpC, hb5] <;> simp [hc1, hc2, hb5])).symm, ht⟩) (fun q hq => by cases hq) d_Sw_isBuildingPlace_42

theorem d_Sw_hasBuildingPlace_0 : decode b_Sw_hasBuildingPlace 0 = .ok (.iconst 0, 1) := by decide +kernel
theorem d_Sw_hasBuildingPlace_1 : decode b_Sw_hasBuildingPlace 1 = .ok (.istore_n 2, 1) := by decide +kernel
theorem d_Sw_hasBuildingPlace_2 : decode b_Sw_hasBuildingPlace 2 = .ok (.iload_n 2, 1) := by decide +kernel
theorem d_Sw_hasBuildingPlace_3 : decode b_Sw_hasBuildingPlace 3 = .ok (.aload_n 0, 1) := by decide +kernel
theorem d_Sw_hasBuildingPlace_4 : decode b_Sw_hasBuildingPlace 4 = .ok (.getfield 13, 3) := by decide +kernel
theorem d_Sw_hasBuildingPlace_7 : decode b_Sw_hasBuildingPlace 7 = .ok (.getfield 57, 3) := by decide +kernel
theorem d_Sw_hasBuildingPlace_10 : decode b_Sw_hasBuildingPlace 10 = .ok (.if_icmp .ge 20, 3) := by decide +kernel
theorem d_Sw_hasBuildingPlace_13 : decode b_Sw_hasBuildingPlace 13 = .ok (.aload_n 0, 1) := by decide +kernel
theorem d_Sw_hasBuildingPlace_14 : decode b_Sw_hasBuildingPlace 14 = .ok (.iload_n 1, 1) := by decide +kernel
theorem d_Sw_hasBuildingPlace_15 : decode b_Sw_hasBuildingPlace 15 = .ok (.iload_n 2, 1) := by decide +kernel
theorem d_Sw_hasBuildingPlace_16 : decode b_Sw_hasBuildingPlace 16 = .ok (.invokevirtual 229, 3) := by decide +kernel
theorem d_Sw_hasBuildingPlace_19 : decode b_Sw_hasBuildingPlace 19 = .ok (.ifCond .eq 5, 3) := by decide +kernel
theorem d_Sw_hasBuildingPlace_22 : decode b_Sw_hasBuildingPlace 22 = .ok (.iconst 1, 1) := by decide +kernel
theorem d_Sw_hasBuildingPlace_23 : decode b_Sw_hasBuildingPlace 23 = .ok (.ireturn, 1) := by decide +kernel
theorem d_Sw_hasBuildingPlace_24 : decode b_Sw_hasBuildingPlace 24 = .ok (.iinc 2 1, 3) := by decide +kernel
theorem d_Sw_hasBuildingPlace_27 : decode b_Sw_hasBuildingPlace 27 = .ok (.goto (-25), 3) := by decide +kernel
theorem d_Sw_hasBuildingPlace_30 : decode b_Sw_hasBuildingPlace 30 = .ok (.iconst 0, 1) := by decide +kernel
theorem d_Sw_hasBuildingPlace_31 : decode b_Sw_hasBuildingPlace 31 = .ok (.ireturn, 1) := by decide +kernel
theorem wd_651 : (Cond.code ({ cls := "SheetWar", name := "isBuildingPlace", desc := "(II)Z" } : MethodName) prog_1_method_36_code (3 : Nat) (Option.some FieldType.boolean)) ∈ TB := tb_t 651 (by decide +kernel) (by decide +kernel)
theorem wd_648 : (Cond.methodLink "SheetWar" (229 : Nat) ({ cls := "SheetWar", name := "isBuildingPlace", desc := "(II)Z" } : MethodName)) ∈ TB := tb_t 648 (by decide +kernel) (by decide +kernel)
theorem wd_650 : (Cond.instanceMethod ({ cls := "SheetWar", name := "isBuildingPlace", desc := "(II)Z" } : MethodName)) ∈ TB := tb_t 650 (by decide +kernel) (by decide +kernel)
theorem wp_31 : Cond.selects "SheetWar" ⟨"SheetWar", "isBuildingPlace", "(II)Z"⟩ ⟨"SheetWar", "isBuildingPlace", "(II)Z"⟩ ∈ TB := tb_p 31 (by decide +kernel) (by decide +kernel)
set_option maxHeartbeats 4000000 in
set_option maxRecDepth 100000 in
theorem c_Sw_hasBuildingPlace (l : Launch) (D : va_G) (cI cZ cJ cS : ClassId) (aT : Nat) (ceT : Cell) (h0 hm hh he ha hp : Nat) (ph : Int32) (qh qn n : Nat) (S Ce : Nat → Bool) (tn : Int32) (qu qo qx qy qr qw : Nat) (fh fw fu : Nat → Int32) (pl : Int32) (hn : n ≤ 12)  : Met l y_Sw_hasBuildingPlace w_Sw_hasBuildingPlace ({ frames := 2, cells := 0, slots := 0, locals := 43 }) (tP D cI cZ cJ cS aT ceT [.ref h0, .int pl] [(h0, .inr (5, [.ref hm, .ref hh, .ref he, .ref ha, .ref hp, .int ph])), (hm, .inr (4, [.int (nI n), .int (mI S), .int (mI Ce), .ref qh, .ref qn])), (qh, .inl (cI, 12, .inl fh)), (hh, .inr (3, [.int tn, .ref qu, .ref qo, .ref qx, .ref qy, .ref qr, .ref qw])), (qu, .inl (cI, 12, .inl fu)), (qw, .inl (cI, 12, .inl fw))]) (vp_Si (fun r => r = bI (anyB (bpC fh fw fu pl) n))) 0 0 (fun _ => False) := by
  refine Met.ofW (cc := b_Sw_hasBuildingPlace) (maxL := 3) (ret := (some .boolean)) (by decide) rfl ?_
  intro p e s m args below meth c s₁ B hml hv
  obtain ⟨rfl, hP, hK, hX⟩ := hv
  have hx := B.exec
  have hb := B.bytes
  have hr := B.returns
  have hts0 := atoms_spec (ws := w_Sw_hasBuildingPlace) B.pre
  have hts : ∀ w ∈ TB, w.before _ s = true := fun w h => hts0 w (List.mem_cons_of_mem _ h)
  have hown : s.vm.findClass R_Sw = some m.cls := findClass_of_methodNamed B.named
  have hlocks := B.notSynchronized
  have hXH : s.heap[aT]? = s.heap[aT]? := rfl
  have hl := lv_entry ([.ref h0, .int pl]) (n := 3) (Nat.le_of_ble_eq_true rfl)
  rw [lg_entry_eq]
  generalize (lg_sl ([.ref h0, .int pl]) ++ List.replicate (3 - (lg_sl ([.ref h0, .int pl])).length) Slot.unset).toArray = ls at hl ⊢
  have hl : lv_has ls 3 [(0, .ref h0), (1, .int pl)] := hl
  refine lv_iconst (v := 0) hx hb d_Sw_hasBuildingPlace_0 (by decide) ?_
  refine lv_istore_n (lv' := [(2, .int 0), (0, .ref h0), (1, .int pl)]) hx hb d_Sw_hasBuildingPlace_1 rfl hl (by decide) rfl (fun ls hl => ?_)
  have loop : ∀ (k i : Nat) (ls : Array Slot), i + k = n → lv_has ls 3 [(2, .int (nI i)), (0, .ref h0), (1, .int pl)] → anyB (bpC fh fw fu pl) i = false → W p l e (headSpec w_Sw_hasBuildingPlace ({ frames := 2, cells := 0, slots := 0, locals := 43 })).room s m ([.ref h0, .int pl]).toArray below meth c s.heap [] 0 0 (MQ below (vp_Si (fun r => r = bI (anyB (bpC fh fw fu pl) n))) ([.ref h0, .int pl]).toArray s 0 0 (fun _ => False)) (F0 m 2 ls []) := by
    intro k
    induction k with
    | zero =>
      intro i ls hi hl hinv
      have hie : i = n := by omega
      rw [hie] at hl hinv
      refine lv_iload_n hx hb d_Sw_hasBuildingPlace_2 rfl (lv_at hl 0 rfl) ?_
      refine lv_aload_n hx hb d_Sw_hasBuildingPlace_3 rfl (lv_at hl 1 rfl) ?_
      refine va_get (D := D) (ci := 5) (v := .ref hm) (C := R_Sw) (T := T_Sw) (N := 6) hx hb hts hin_Sw hown hK hP 0 rfl rfl 0 (by decide) (hts _ wd_201) (fun _ h9 => h9) rfl d_Sw_hasBuildingPlace_4 ?_
      refine va_get (D := D) (ci := 4) (v := .int (nI n)) (C := R_Wm) (T := T_Wm) (N := 5) hx hb hts hin_Wm hown hK hP 1 rfl rfl 0 (by decide) (hts _ wd_32) (fun _ h9 => h9) rfl d_Sw_hasBuildingPlace_7 ?_
      refine lv_icmp_ge (tgt := 30) hx hb d_Sw_hasBuildingPlace_10 (by decide) (fun _ => ?_) (fun h0 => absurd (Int32.le_refl _) h0)
      refine lv_iconst (v := 0) hx hb d_Sw_hasBuildingPlace_30 (by decide) ?_
      exact W.zret (v := 0) hx hb hr (by decide) (fun t ht hW => ⟨0, rfl, (bI_f hinv).symm, ht⟩) (fun q hq => by cases hq) d_Sw_hasBuildingPlace_31
    | succ k ih =>
      intro i ls hi hl hinv
      have hlt : i < n := by omega
      have hlt12 : i < 12 := by omega
      refine lv_iload_n hx hb d_Sw_hasBuildingPlace_2 rfl (lv_at hl 0 rfl) ?_
      refine lv_aload_n hx hb d_Sw_hasBuildingPlace_3 rfl (lv_at hl 1 rfl) ?_
      refine va_get (D := D) (ci := 5) (v := .ref hm) (C := R_Sw) (T := T_Sw) (N := 6) hx hb hts hin_Sw hown hK hP 0 rfl rfl 0 (by decide) (hts _ wd_201) (fun _ h9 => h9) rfl d_Sw_hasBuildingPlace_4 ?_
      refine va_get (D := D) (ci := 4) (v := .int (nI n)) (C := R_Wm) (T := T_Wm) (N := 5) hx hb hts hin_Wm hown hK hP 1 rfl rfl 0 (by decide) (hts _ wd_32) (fun _ h9 => h9) rfl d_Sw_hasBuildingPlace_7 ?_
      refine lv_icmp_ge (tgt := 30) hx hb d_Sw_hasBuildingPlace_10 (by decide) (fun h0 => absurd h0 (nI_ge hlt (by omega))) (fun _ => ?_)
      refine lv_aload_n hx hb d_Sw_hasBuildingPlace_13 rfl (lv_at hl 1 rfl) ?_
      refine lv_iload_n hx hb d_Sw_hasBuildingPlace_14 rfl (lv_at hl 2 rfl) ?_
      refine lv_iload_n hx hb d_Sw_hasBuildingPlace_15 rfl (lv_at hl 0 rfl) ?_
      have hPc := hP.sub (ws' := [(h0, .inr (5, [.ref hm, .ref hh, .ref he, .ref ha, .ref hp, .int ph])), (hm, .inr (4, [.int (nI n), .int (mI S), .int (mI Ce), .ref qh, .ref qn])), (qh, .inl (cI, 12, .inl fh)), (hh, .inr (3, [.int tn, .ref qu, .ref qo, .ref qx, .ref qy, .ref qr, .ref qw])), (qu, .inl (cI, 12, .inl fu)), (qw, .inl (cI, 12, .inl fw))]) [0, 1, 2, 3, 4, 5] rfl
      refine vp_callSi (va_Run.run (va_runV (As := [.int pl, .int (nI i)]) (rest := []) ⟨hx, hb, hml, hown, hts⟩ (c_Sw_isBuildingPlace l D cI cZ cJ cS aT ceT  h0 hm hh he ha hp ph qh qn n S Ce tn qu qo qx qy qr qw fh fw fu pl i hlt12) (cwV 2 hts (tb_4 wd_648 wd_650 wp_31 wd_1 (tb_c wd_651)) rfl rfl rfl ⟨rfl, by decide, by decide, by decide +kernel⟩ ⟨Nat.le_of_ble_eq_true rfl, Nat.le_of_ble_eq_true rfl⟩) (tP_V hK hX hXH hPc (q := 0) rfl rfl) rfl rfl hl.1 rfl (lv_room (Nat.le_of_ble_eq_true rfl)) d_Sw_hasBuildingPlace_16 ⟨Nat.le_of_ble_eq_true rfl, Nat.le_of_ble_eq_true rfl⟩)) (fun r3 hr9 => ?_)
      rw [hr9]
      rcases bI_c (bpC fh fw fu pl i) with ⟨hb5, e9⟩ | ⟨hb5, e9⟩
      · refine tr_top e9 ?_
        refine lv_if_eq (tgt := 24) hx hb d_Sw_hasBuildingPlace_19 (by decide) (fun h0 => absurd h0 (by decide)) (fun _ => ?_)
        refine lv_iconst (v := 1) hx hb d_Sw_hasBuildingPlace_22 (by decide) ?_
        exact W.zret (v := 1) hx hb hr (by decide) (fun t ht hW => ⟨1, rfl, (bI_t ((anyB_iff _ n).mpr ⟨i, hlt, by simp [hb5]⟩)).symm, ht⟩) (fun q hq => by cases hq) d_Sw_hasBuildingPlace_23
      · refine tr_top e9 ?_
        refine lv_if_eq (tgt := 24) hx hb d_Sw_hasBuildingPlace_19 (by decide) (fun _ => ?_) (fun h0 => absurd (by decide) h0)
        refine lv_iinc (lv' := [(2, .int ((nI i) + 1)), (0, .ref h0), (1, .int pl)]) hx hb d_Sw_hasBuildingPlace_24 hl (k := 0) rfl rfl (by decide) rfl (fun ls hl => ?_)
        refine lv_goto (tgt := 2) hx hb d_Sw_hasBuildingPlace_27 (by decide) ?_
        have e8 : (nI i) + 1 = nI (i + 1) := nI_1 i
        exact ih (i + 1) ls (by omega) (by rw [← e8]; exact lv_sub hl [0, 1, 2] rfl) (by rw [anyB, hinv]; simp [hb5])
  exact loop n 0 ls (Nat.zero_add _) hl rfl

theorem d_Sw_buildsAreDue_0 : decode b_Sw_buildsAreDue 0 = .ok (.iconst 0, 1) := by decide +kernel
theorem d_Sw_buildsAreDue_1 : decode b_Sw_buildsAreDue 1 = .ok (.istore_n 1, 1) := by decide +kernel
theorem d_Sw_buildsAreDue_2 : decode b_Sw_buildsAreDue 2 = .ok (.iload_n 1, 1) := by decide +kernel
theorem d_Sw_buildsAreDue_3 : decode b_Sw_buildsAreDue 3 = .ok (.iconst 4, 1) := by decide +kernel
theorem d_Sw_buildsAreDue_4 : decode b_Sw_buildsAreDue 4 = .ok (.if_icmp .ge 36, 3) := by decide +kernel
theorem d_Sw_buildsAreDue_7 : decode b_Sw_buildsAreDue 7 = .ok (.aload_n 0, 1) := by decide +kernel
theorem d_Sw_buildsAreDue_8 : decode b_Sw_buildsAreDue 8 = .ok (.getfield 19, 3) := by decide +kernel
theorem d_Sw_buildsAreDue_11 : decode b_Sw_buildsAreDue 11 = .ok (.iload_n 1, 1) := by decide +kernel
theorem d_Sw_buildsAreDue_12 : decode b_Sw_buildsAreDue 12 = .ok (.invokevirtual 223, 3) := by decide +kernel
theorem d_Sw_buildsAreDue_15 : decode b_Sw_buildsAreDue 15 = .ok (.istore_n 2, 1) := by decide +kernel
theorem d_Sw_buildsAreDue_16 : decode b_Sw_buildsAreDue 16 = .ok (.iload_n 2, 1) := by decide +kernel
theorem d_Sw_buildsAreDue_17 : decode b_Sw_buildsAreDue 17 = .ok (.ifCond .lt 15, 3) := by decide +kernel
theorem d_Sw_buildsAreDue_20 : decode b_Sw_buildsAreDue 20 = .ok (.iload_n 2, 1) := by decide +kernel
theorem d_Sw_buildsAreDue_21 : decode b_Sw_buildsAreDue 21 = .ok (.ifCond .le 13, 3) := by decide +kernel
theorem d_Sw_buildsAreDue_24 : decode b_Sw_buildsAreDue 24 = .ok (.aload_n 0, 1) := by decide +kernel
theorem d_Sw_buildsAreDue_25 : decode b_Sw_buildsAreDue 25 = .ok (.iload_n 1, 1) := by decide +kernel
theorem d_Sw_buildsAreDue_26 : decode b_Sw_buildsAreDue 26 = .ok (.invokevirtual 226, 3) := by decide +kernel
theorem d_Sw_buildsAreDue_29 : decode b_Sw_buildsAreDue 29 = .ok (.ifCond .eq 5, 3) := by decide +kernel
theorem d_Sw_buildsAreDue_32 : decode b_Sw_buildsAreDue 32 = .ok (.iconst 1, 1) := by decide +kernel
theorem d_Sw_buildsAreDue_33 : decode b_Sw_buildsAreDue 33 = .ok (.ireturn, 1) := by decide +kernel
theorem d_Sw_buildsAreDue_34 : decode b_Sw_buildsAreDue 34 = .ok (.iinc 1 1, 3) := by decide +kernel
theorem d_Sw_buildsAreDue_37 : decode b_Sw_buildsAreDue 37 = .ok (.goto (-35), 3) := by decide +kernel
theorem d_Sw_buildsAreDue_40 : decode b_Sw_buildsAreDue 40 = .ok (.iconst 0, 1) := by decide +kernel
theorem d_Sw_buildsAreDue_41 : decode b_Sw_buildsAreDue 41 = .ok (.ireturn, 1) := by decide +kernel
theorem wd_641 : (Cond.code ({ cls := "SheetWar$Sheet", name := "missingUnits", desc := "(I)I" } : MethodName) prog_5_method_10_code (2 : Nat) (Option.some FieldType.int)) ∈ TB := tb_t 641 (by decide +kernel) (by decide +kernel)
theorem wd_638 : (Cond.methodLink "SheetWar" (223 : Nat) ({ cls := "SheetWar$Sheet", name := "missingUnits", desc := "(I)I" } : MethodName)) ∈ TB := tb_t 638 (by decide +kernel) (by decide +kernel)
theorem wd_639 : (Cond.instanceMethod ({ cls := "SheetWar$Sheet", name := "missingUnits", desc := "(I)I" } : MethodName)) ∈ TB := tb_t 639 (by decide +kernel) (by decide +kernel)
theorem wd_640 : (Cond.selects "SheetWar$Sheet" ({ cls := "SheetWar$Sheet", name := "missingUnits", desc := "(I)I" } : MethodName) ({ cls := "SheetWar$Sheet", name := "missingUnits", desc := "(I)I" } : MethodName)) ∈ TB := tb_t 640 (by decide +kernel) (by decide +kernel)
theorem wd_647 : (Cond.code ({ cls := "SheetWar", name := "hasBuildingPlace", desc := "(I)Z" } : MethodName) prog_1_method_35_code (3 : Nat) (Option.some FieldType.boolean)) ∈ TB := tb_t 647 (by decide +kernel) (by decide +kernel)
theorem wd_644 : (Cond.methodLink "SheetWar" (226 : Nat) ({ cls := "SheetWar", name := "hasBuildingPlace", desc := "(I)Z" } : MethodName)) ∈ TB := tb_t 644 (by decide +kernel) (by decide +kernel)
theorem wd_646 : (Cond.instanceMethod ({ cls := "SheetWar", name := "hasBuildingPlace", desc := "(I)Z" } : MethodName)) ∈ TB := tb_t 646 (by decide +kernel) (by decide +kernel)
theorem wp_30 : Cond.selects "SheetWar" ⟨"SheetWar", "hasBuildingPlace", "(I)Z"⟩ ⟨"SheetWar", "hasBuildingPlace", "(I)Z"⟩ ∈ TB := tb_p 30 (by decide +kernel) (by decide +kernel)
set_option maxHeartbeats 4000000 in
set_option maxRecDepth 100000 in
theorem c_Sw_buildsAreDue (l : Launch) (D : va_G) (cI cZ cJ cS : ClassId) (aT : Nat) (ceT : Cell) (h0 hm hh he ha hp : Nat) (ph : Int32) (qh qn n : Nat) (S Ce : Nat → Bool) (tn : Int32) (qu qo qx qy qr qw : Nat) (fh fw fu : Nat → Int32) (hn : n ≤ 12)  : Met l y_Sw_buildsAreDue w_Sw_buildsAreDue ({ frames := 3, cells := 0, slots := 0, locals := 65 }) (tP D cI cZ cJ cS aT ceT [.ref h0] [(h0, .inr (5, [.ref hm, .ref hh, .ref he, .ref ha, .ref hp, .int ph])), (hm, .inr (4, [.int (nI n), .int (mI S), .int (mI Ce), .ref qh, .ref qn])), (qh, .inl (cI, 12, .inl fh)), (hh, .inr (3, [.int tn, .ref qu, .ref qo, .ref qx, .ref qy, .ref qr, .ref qw])), (qu, .inl (cI, 12, .inl fu)), (qw, .inl (cI, 12, .inl fw))]) (vp_Si (fun r => r = bI (anyB (bdC fh fw fu n) 4))) 0 0 (fun _ => False) := by
  refine Met.ofW (cc := b_Sw_buildsAreDue) (maxL := 3) (ret := (some .boolean)) (by decide) rfl ?_
  intro p e s m args below meth c s₁ B hml hv
  obtain ⟨rfl, hP, hK, hX⟩ := hv
  have hx := B.exec
  have hb := B.bytes
  have hr := B.returns
  have hts0 := atoms_spec (ws := w_Sw_buildsAreDue) B.pre
  have hts : ∀ w ∈ TB, w.before _ s = true := fun w h => hts0 w (List.mem_cons_of_mem _ h)
  have hown : s.vm.findClass R_Sw = some m.cls := findClass_of_methodNamed B.named
  have hlocks := B.notSynchronized
  have hXH : s.heap[aT]? = s.heap[aT]? := rfl
  have hl := lv_entry ([.ref h0]) (n := 3) (Nat.le_of_ble_eq_true rfl)
  rw [lg_entry_eq]
  generalize (lg_sl ([.ref h0]) ++ List.replicate (3 - (lg_sl ([.ref h0])).length) Slot.unset).toArray = ls at hl ⊢
  have hl : lv_has ls 3 [(0, .ref h0)] := hl
  refine lv_iconst (v := 0) hx hb d_Sw_buildsAreDue_0 (by decide) ?_
  refine lv_istore_n (lv' := [(1, .int 0), (0, .ref h0)]) hx hb d_Sw_buildsAreDue_1 rfl hl (by decide) rfl (fun ls hl => ?_)
  have loop : ∀ (k i : Nat) (ls : Array Slot), i + k = 4 → lv_has ls 3 [(1, .int (nI i)), (0, .ref h0)] → anyB (bdC fh fw fu n) i = false → W p l e (headSpec w_Sw_buildsAreDue ({ frames := 3, cells := 0, slots := 0, locals := 65 })).room s m ([.ref h0]).toArray below meth c s.heap [] 0 0 (MQ below (vp_Si (fun r => r = bI (anyB (bdC fh fw fu n) 4))) ([.ref h0]).toArray s 0 0 (fun _ => False)) (F0 m 2 ls []) := by
    intro k
    induction k with
    | zero =>
      intro i ls hi hl hinv
      obtain rfl : i = 4 := by omega
      refine lv_iload_n hx hb d_Sw_buildsAreDue_2 rfl (lv_at hl 0 rfl) ?_
      refine lv_iconst (v := 4) hx hb d_Sw_buildsAreDue_3 (by decide) ?_
      refine lv_icmp_ge (tgt := 40) hx hb d_Sw_buildsAreDue_4 (by decide) (fun _ => ?_) (fun h0 => absurd (by decide) h0)
      refine lv_iconst (v := 0) hx hb d_Sw_buildsAreDue_40 (by decide) ?_
      exact W.zret (v := 0) hx hb hr (by decide) (fun t ht hW => ⟨0, rfl, (bI_f hinv).symm, ht⟩) (fun q hq => by cases hq) d_Sw_buildsAreDue_41
    | succ k ih =>
      intro i ls hi hl hinv
      have hlt : i < 4 := by omega
      refine lv_iload_n hx hb d_Sw_buildsAreDue_2 rfl (lv_at hl 0 rfl) ?_
      refine lv_iconst (v := 4) hx hb d_Sw_buildsAreDue_3 (by decide) ?_
      refine lv_icmp_ge (tgt := 40) hx hb d_Sw_buildsAreDue_4 (by decide) (fun h0 => absurd h0 (nI_ge hlt (by decide))) (fun _ => ?_)
      refine lv_aload_n hx hb d_Sw_buildsAreDue_7 rfl (lv_at hl 1 rfl) ?_
      refine va_get (D := D) (ci := 5) (v := .ref hh) (C := R_Sw) (T := T_Sw) (N := 6) hx hb hts hin_Sw hown hK hP 0 rfl rfl 1 (by decide) (hts _ wd_202) (fun _ h9 => h9) rfl d_Sw_buildsAreDue_8 ?_
      refine lv_iload_n hx hb d_Sw_buildsAreDue_11 rfl (lv_at hl 0 rfl) ?_
      have hPc := hP.sub (ws' := [(hh, .inr (3, [.int tn, .ref qu, .ref qo, .ref qx, .ref qy, .ref qr, .ref qw])), (qu, .inl (cI, 12, .inl fu)), (qw, .inl (cI, 12, .inl fw))]) [3, 4, 5] rfl
      refine vp_callSi (va_Run.run (va_runV (As := [.int (nI i)]) (rest := []) ⟨hx, hb, hml, hown, hts⟩ (c_Sh_missing l D cI cZ cJ cS aT ceT  hh tn qu qo qx qy qr qw fu fw (nI i) ) (cwV 1 hts (tb_4 wd_638 wd_639 wd_640 wd_3 (tb_c wd_641)) rfl rfl rfl ⟨rfl, by decide, by decide, by decide +kernel⟩ ⟨Nat.le_of_ble_eq_true rfl, Nat.le_of_ble_eq_true rfl⟩) (tP_V hK hX hXH hPc (q := 0) rfl rfl) rfl rfl hl.1 rfl (lv_room (Nat.le_of_ble_eq_true rfl)) d_Sw_buildsAreDue_12 ⟨Nat.le_of_ble_eq_true rfl, Nat.le_of_ble_eq_true rfl⟩)) (fun r3 hr9 => ?_)
      rw [hr9]
      refine lv_istore_n (lv' := [(2, .int (nI (cnt fw (nI i) 12) - nI (cntU fu (nI i) 12))), (1, .int (nI i)), (0, .ref h0)]) hx hb d_Sw_buildsAreDue_15 rfl hl (by decide) rfl (fun ls hl => ?_)
      refine lv_iload_n hx hb d_Sw_buildsAreDue_16 rfl (lv_at hl 0 rfl) ?_
      refine lv_if_lt (tgt := 32) hx hb d_Sw_buildsAreDue_17 (by decide) (fun hc4 => ?_) (fun hc4 => ?_)
      · -- 17 taken
        refine lv_iconst (v := 1) hx hb d_Sw_buildsAreDue_32 (by decide) ?_
        exact W.zret (v := 1) hx hb hr (by decide) (fun t ht hW => ⟨1, rfl, (bI_t ((anyB_iff (bdC fh fw fu n) 4).mpr ⟨i, hlt, by simp [bdC, msC, hc4]⟩)).symm, ht⟩) (fun q hq => by cases hq) d_Sw_buildsAreDue_33
      · -- 17 not taken
        refine lv_iload_n hx hb d_Sw_buildsAreDue_20 rfl (lv_at hl 0 rfl) ?_
        refine lv_if_le (tgt := 34) hx hb d_Sw_buildsAreDue_21 (by decide) (fun hc5 => ?_) (fun hc5 => ?_)
        · -- 21 taken
          refine lv_iinc (lv' := [(1, .int ((nI i) + 1)), (2, .int (nI (cnt fw (nI i) 12) - nI (cntU fu (nI i) 12))), (0, .ref h0)]) hx hb d_Sw_buildsAreDue_34 hl (k := 1) rfl rfl (by decide) rfl (fun ls hl => ?_)
          refine lv_goto (tgt := 2) hx hb d_Sw_buildsAreDue_37 (by decide) ?_
          have e6 : (nI i) + 1 = nI (i + 1) := nI_1 i
          exact ih (i + 1) ls (by omega) (by rw [← e6]; exact lv_sub hl [0, 2] rfl) (by rw [anyB, hinv]; simp [bdC, msC, hc4, hc5])
        · -- 21 not taken
          refine lv_aload_n hx hb d_Sw_buildsAreDue_24 rfl (lv_at hl 2 rfl) ?_
          refine lv_iload_n hx hb d_Sw_buildsAreDue_25 rfl (lv_at hl 1 rfl) ?_
          have hPc := hP.sub (ws' := [(h0, .inr (5, [.ref hm, .ref hh, .ref he, .ref ha, .ref hp, .int ph])), (hm, .inr (4, [.int (nI n), .int (mI S), .int (mI Ce), .ref qh, .ref qn])), (qh, .inl (cI, 12, .inl fh)), (hh, .inr (3, [.int tn, .ref qu, .ref qo, .ref qx, .ref qy, .ref qr, .ref qw])), (qu, .inl (cI, 12, .inl fu)), (qw, .inl (cI, 12, .inl fw))]) [0, 1, 2, 3, 4, 5] rfl
          refine vp_callSi (va_Run.run (va_runV (As := [.int (nI i)]) (rest := []) ⟨hx, hb, hml, hown, hts⟩ (c_Sw_hasBuildingPlace l D cI cZ cJ cS aT ceT  h0 hm hh he ha hp ph qh qn n S Ce tn qu qo qx qy qr qw fh fw fu (nI i) hn) (cwV 1 hts (tb_4 wd_644 wd_646 wp_30 wd_1 (tb_c wd_647)) rfl rfl rfl ⟨rfl, by decide, by decide, by decide +kernel⟩ ⟨Nat.le_of_ble_eq_true rfl, Nat.le_of_ble_eq_true rfl⟩) (tP_V hK hX hXH hPc (q := 0) rfl rfl) rfl rfl hl.1 rfl (lv_room (Nat.le_of_ble_eq_true rfl)) d_Sw_buildsAreDue_26 ⟨Nat.le_of_ble_eq_true rfl, Nat.le_of_ble_eq_true rfl⟩)) (fun r7 hr9 => ?_)
          rw [hr9]
          rcases bI_c (anyB (bpC fh fw fu (nI i)) n) with ⟨hb9, e9⟩ | ⟨hb9, e9⟩
          · refine tr_top e9 ?_
            refine lv_if_eq (tgt := 34) hx hb d_Sw_buildsAreDue_29 (by decide) (fun h0 => absurd h0 (by decide)) (fun _ => ?_)
            refine lv_iconst (v := 1) hx hb d_Sw_buildsAreDue_32 (by decide) ?_
            exact W.zret (v := 1) hx hb hr (by decide) (fun t ht hW => ⟨1, rfl, (bI_t ((anyB_iff (bdC fh fw fu n) 4).mpr ⟨i, hlt, by simp [bdC, msC, hc4, hc5, hb9]⟩)).symm, ht⟩) (fun q hq => by cases hq) d_Sw_buildsAreDue_33
          · refine tr_top e9 ?_
            refine lv_if_eq (tgt := 34) hx hb d_Sw_buildsAreDue_29 (by decide) (fun _ => ?_) (fun h0 => absurd (by decide) h0)
            refine lv_iinc (lv' := [(1, .int ((nI i) + 1)), (2, .int (nI (cnt fw (nI i) 12) - nI (cntU fu (nI i) 12))), (0, .ref h0)]) hx hb d_Sw_buildsAreDue_34 hl (k := 1) rfl rfl (by decide) rfl (fun ls hl => ?_)
            refine lv_goto (tgt := 2) hx hb d_Sw_buildsAreDue_37 (by decide) ?_
            have e12 : (nI i) + 1 = nI (i + 1) := nI_1 i
            exact ih (i + 1) ls (by omega) (by rw [← e12]; exact lv_sub hl [0, 2] rfl) (by rw [anyB, hinv]; simp [bdC, msC, hc4, hc5, hb9])
  exact loop 4 0 ls (Nat.zero_add _) hl rfl
