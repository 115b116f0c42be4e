
set_option maxHeartbeats 4000000 in
set_option maxRecDepth 100000 in
theorem c_Sw_unit_0 (l : Launch) (D : va_G) (cI cZ cJ cS : ClassId) (aT : Nat) (ceT : Cell) (sz : Nat) (h0 hm hh he ha hp : Nat) (qh qn n : Nat) (S Ce : Nat → Bool) (N : Nat → Nat → Bool) (tn : Int32) (qu qo qx qy qr qw : Nat) (fu : Nat → Int32) (p9 a k : Nat) (hn : n ≤ 12) (h_a : a < n) (h_p : p9 < 4) (h_k : k < 2) (hfr : fu a = -1) (hcs : (if nI k = 0 then !S a else S a || anyB (fun j => N a j && S j) 12) = true) : Met l y_Sw_unit w_Sw_unit ({ frames := 3, cells := 0, slots := 0, locals := 64 }) (tH D cI cZ cJ cS aT ceT [.ref h0, .int (nI a), .int (nI p9), .int (nI k)] sz [(h0, .inr (5, [.ref hm, .ref hh, .ref he, .ref ha, .ref hp, .int 0])), (hm, .inr (4, [.int (nI n), .int (mI S), .int (mI Ce), .ref qh, .ref qn])), (qn, .inl (cI, 12, .inl (fun j => mI (N j)))), (hh, .inr (3, [.int tn, .ref qu, .ref qo, .ref qx, .ref qy, .ref qr, .ref qw])), (qu, .inl (cI, 12, .inl fu))]) (va_Qv (fun _ : Unit => True) (fun _ t => tB D (va_A [(h0, .inr (5, [.ref hm, .ref hh, .ref he, .ref ha, .ref hp, .int 0])), (hm, .inr (4, [.int (nI n), .int (mI S), .int (mI Ce), .ref qh, .ref qn])), (qn, .inl (cI, 12, .inl (fun j => mI (N j)))), (hh, .inr (3, [.int tn, .ref qu, .ref qo, .ref qx, .ref qy, .ref qr, .ref qw])), (qu, .inl (cI, 12, .inl fu))] sz) [(h0, .inr (5, [.ref hm, .ref hh, .ref he, .ref ha, .ref hp, .int 0])), (hm, .inr (4, [.int (nI n), .int (mI S), .int (mI Ce), .ref qh, .ref qn])), (qn, .inl (cI, 12, .inl (fun j => mI (N j)))), (hh, .inr (3, [.int tn, .ref qu, .ref qo, .ref qx, .ref qy, .ref qr, .ref qw])), (qu, .inl (cI, 12, .inl (upd fu a (nI (2 * p9 + k)))))] t) (va_A [(h0, .inr (5, [.ref hm, .ref hh, .ref he, .ref ha, .ref hp, .int 0])), (hm, .inr (4, [.int (nI n), .int (mI S), .int (mI Ce), .ref qh, .ref qn])), (qn, .inl (cI, 12, .inl (fun j => mI (N j)))), (hh, .inr (3, [.int tn, .ref qu, .ref qo, .ref qx, .ref qy, .ref qr, .ref qw])), (qu, .inl (cI, 12, .inl fu))] sz)) 0 0 (va_A [(h0, .inr (5, [.ref hm, .ref hh, .ref he, .ref ha, .ref hp, .int 0])), (hm, .inr (4, [.int (nI n), .int (mI S), .int (mI Ce), .ref qh, .ref qn])), (qn, .inl (cI, 12, .inl (fun j => mI (N j)))), (hh, .inr (3, [.int tn, .ref qu, .ref qo, .ref qx, .ref qy, .ref qr, .ref qw])), (qu, .inl (cI, 12, .inl fu))] sz) := by
  refine Met.ofW (cc := b_Sw_unit) (maxL := 4) (ret := none) (by decide) rfl ?_
  intro p e s m args below meth c s₁ B hml hv
  obtain ⟨rfl, hsz, hP, hK, hD0, hX⟩ := hv
  have hx := B.exec
  have hb := B.bytes
  have hr := B.returns
  have hts0 := atoms_spec (ws := w_Sw_unit) B.pre
  have hts : ∀ w ∈ TB, w.before _ s = true := fun w h => hts0 w (List.mem_cons_of_mem _ h)
  have hown : s.vm.findClass R_Sw = some m.cls := findClass_of_methodNamed B.named
  have hlocks := B.notSynchronized
  subst hsz
  have hXl := tx_lt hX
  have hXn := tx_far hP hX
  have hD := hD0.self (sz := s.heap.size)
  generalize hAe : va_A [(h0, .inr (5, [.ref hm, .ref hh, .ref he, .ref ha, .ref hp, .int 0])), (hm, .inr (4, [.int (nI n), .int (mI S), .int (mI Ce), .ref qh, .ref qn])), (qn, .inl (cI, 12, .inl (fun j => mI (N j)))), (hh, .inr (3, [.int tn, .ref qu, .ref qo, .ref qx, .ref qy, .ref qr, .ref qw])), (qu, .inl (cI, 12, .inl fu))] s.heap.size = A at hD hXn ⊢
  have hA : ∀ q : Nat, s.heap.size ≤ q → A q := fun q h => by rw [← hAe]; exact Or.inr h
  have hS : va_S A s.heap s.heap [] := va_S.rf
  have hXH : s.heap[aT]? = s.heap[aT]? := rfl
  have hl := lv_entry ([.ref h0, .int (nI a), .int (nI p9), .int (nI k)]) (n := 4) (Nat.le_of_ble_eq_true rfl)
  rw [lg_entry_eq]
  generalize (lg_sl ([.ref h0, .int (nI a), .int (nI p9), .int (nI k)]) ++ List.replicate (4 - (lg_sl ([.ref h0, .int (nI a), .int (nI p9), .int (nI k)])).length) Slot.unset).toArray = ls at hl ⊢
  have hl : lv_has ls 4 [(0, .ref h0), (1, .int (nI a)), (2, .int (nI p9)), (3, .int (nI k))] := hl
  refine lv_aload_n hx hb d_Sw_unit_0 rfl (lv_at hl 0 rfl) ?_
  refine va_get (D := D) (ci := 5) (v := .ref hm) (C := R_Sw) (T := T_Sw) (N := 6) hx hb hts hin_Sw hown hK hP 0 rfl rfl 0 (by decide) (hts _ wd_201) (fun _ h9 => h9) rfl d_Sw_unit_1 ?_
  refine lv_iload_n hx hb d_Sw_unit_4 rfl (lv_at hl 1 rfl) ?_
  have hPc := hP.sub (ws' := [(hm, .inr (4, [.int (nI n), .int (mI S), .int (mI Ce), .ref qh, .ref qn]))]) [1] rfl
  refine vp_callSi (va_Run.run (va_runV (As := [.int (nI a)]) (rest := []) ⟨hx, hb, hml, hown, hts⟩ (c_Wm_hasY l D cI cZ cJ cS aT ceT  hm qh qn n S Ce a hn h_a) (cwV 1 hts (tb_4 wd_224 wd_225 wd_226 wd_2 (tb_c wd_227)) rfl rfl rfl ⟨rfl, by decide, by decide, by decide +kernel⟩ ⟨Nat.le_of_ble_eq_true rfl, Nat.le_of_ble_eq_true rfl⟩) (tP_V hK hX (hS.2.1 aT hXl hXn) hPc (q := 0) rfl rfl) rfl rfl hl.1 rfl (lv_room (Nat.le_of_ble_eq_true rfl)) d_Sw_unit_5 ⟨Nat.le_of_ble_eq_true rfl, Nat.le_of_ble_eq_true rfl⟩)) (fun r1 hr9 => ?_)
  rw [hr9]
  refine lv_if_eq (tgt := 27) hx hb d_Sw_unit_8 (by decide) (fun h0 => absurd h0 (by decide)) (fun _ => ?_)
  refine lv_iload_n hx hb d_Sw_unit_11 rfl (lv_at hl 2 rfl) ?_
  have hPc := hP.sub (ws' := []) [] rfl
  refine vp_callSi (va_Run.run (va_runS (As := [.int (nI p9)]) (rest := []) ⟨hx, hb, hml, hown, hts⟩ (c_Sw_isPlayerY l D cI cZ cJ cS aT ceT  p9 h_p) (va_cwS 1 hts (tb_3 wd_299 wd_300 wd_1 (tb_c wd_301)) rfl rfl rfl ⟨by decide, by decide, by decide +kernel⟩ ⟨Nat.le_of_ble_eq_true rfl, Nat.le_of_ble_eq_true rfl⟩) (tP_S hK hX (hS.2.1 aT hXl hXn) hPc) rfl rfl hl.1 rfl (lv_room (Nat.le_of_ble_eq_true rfl)) d_Sw_unit_12 ⟨Nat.le_of_ble_eq_true rfl, Nat.le_of_ble_eq_true rfl⟩)) (fun r3 hr9 => ?_)
  rw [hr9]
  refine lv_if_eq (tgt := 27) hx hb d_Sw_unit_15 (by decide) (fun h0 => absurd h0 (by decide)) (fun _ => ?_)
  refine lv_iload_n hx hb d_Sw_unit_18 rfl (lv_at hl 3 rfl) ?_
  refine lv_if_eq (tgt := 35) hx hb d_Sw_unit_19 (by decide) (fun hc5 => ?_) (fun hc5 => ?_)
  · -- 19 taken
    have hc5 : k = 0 := (nI_lit (by omega) (by decide)).mp hc5
    refine lv_aload_n hx hb d_Sw_unit_35 rfl (lv_at hl 0 rfl) ?_
    refine va_get (D := D) (ci := 5) (v := .int 0) (C := R_Sw) (T := T_Sw) (N := 6) hx hb hts hin_Sw hown hK hP 0 rfl rfl 5 (by decide) (hts _ wd_206) (fun _ h9 => h9) rfl d_Sw_unit_36 ?_
    refine lv_if_ne (tgt := 65) hx hb d_Sw_unit_39 (by decide) (fun h0 => absurd (by decide) h0) (fun _ => ?_)
    refine lv_aload_n hx hb d_Sw_unit_42 rfl (lv_at hl 0 rfl) ?_
    refine va_get (D := D) (ci := 5) (v := .ref hh) (C := R_Sw) (T := T_Sw) (N := 6) hx hb hts hin_Sw hown hK hP 0 rfl rfl 1 (by decide) (hts _ wd_202) (fun _ h9 => h9) rfl d_Sw_unit_43 ?_
    refine lv_iload_n hx hb d_Sw_unit_46 rfl (lv_at hl 1 rfl) ?_
    have hPc := hP.sub (ws' := [(hh, .inr (3, [.int tn, .ref qu, .ref qo, .ref qx, .ref qy, .ref qr, .ref qw])), (qu, .inl (cI, 12, .inl fu))]) [3, 4] rfl
    refine vp_callSi (va_Run.run (va_runV (As := [.int (nI a)]) (rest := []) ⟨hx, hb, hml, hown, hts⟩ (c_Sh_hasUnitP l D cI cZ cJ cS aT ceT  hh tn qu qo qx qy qr qw fu a (Nat.lt_of_lt_of_le h_a hn)) (cwV 1 hts (tb_4 wd_286 wd_287 wd_288 wd_3 (tb_c wd_289)) rfl rfl rfl ⟨rfl, by decide, by decide, by decide +kernel⟩ ⟨Nat.le_of_ble_eq_true rfl, Nat.le_of_ble_eq_true rfl⟩) (tP_V hK hX (hS.2.1 aT hXl hXn) hPc (q := 0) rfl rfl) rfl rfl hl.1 rfl (lv_room (Nat.le_of_ble_eq_true rfl)) d_Sw_unit_47 ⟨Nat.le_of_ble_eq_true rfl, Nat.le_of_ble_eq_true rfl⟩)) (fun r7 hr9 => ?_)
    rw [hr9]
    refine tr_top (bI_f (show (!decide (fu a = -1)) = false by simp [hfr])) ?_
    refine lv_if_ne (tgt := 65) hx hb d_Sw_unit_50 (by decide) (fun h0 => absurd (by decide) h0) (fun _ => ?_)
    refine lv_aload_n hx hb d_Sw_unit_53 rfl (lv_at hl 0 rfl) ?_
    refine va_get (D := D) (ci := 5) (v := .ref hm) (C := R_Sw) (T := T_Sw) (N := 6) hx hb hts hin_Sw hown hK hP 0 rfl rfl 0 (by decide) (hts _ wd_201) (fun _ h9 => h9) rfl d_Sw_unit_54 ?_
    refine lv_iload_n hx hb d_Sw_unit_57 rfl (lv_at hl 3 rfl) ?_
    refine lv_iload_n hx hb d_Sw_unit_58 rfl (lv_at hl 1 rfl) ?_
    have hPc := hP.sub (ws' := [(hm, .inr (4, [.int (nI n), .int (mI S), .int (mI Ce), .ref qh, .ref qn])), (qn, .inl (cI, 12, .inl (fun j => mI (N j))))]) [1, 2] rfl
    refine vp_callSi (va_Run.run (va_runV (As := [.int (nI k), .int (nI a)]) (rest := []) ⟨hx, hb, hml, hown, hts⟩ (c_Wm_canStand l D cI cZ cJ cS aT ceT  hm qh qn n S Ce N (nI k) a (Nat.lt_of_lt_of_le h_a hn)) (cwV 2 hts (tb_4 wd_430 wd_431 wd_432 wd_2 (tb_c wd_433)) rfl rfl rfl ⟨rfl, by decide, by decide, by decide +kernel⟩ ⟨Nat.le_of_ble_eq_true rfl, Nat.le_of_ble_eq_true rfl⟩) (tP_V hK hX (hS.2.1 aT hXl hXn) hPc (q := 0) rfl rfl) rfl rfl hl.1 rfl (lv_room (Nat.le_of_ble_eq_true rfl)) d_Sw_unit_59 ⟨Nat.le_of_ble_eq_true rfl, Nat.le_of_ble_eq_true rfl⟩)) (fun r10 hr9 => ?_)
    rw [hr9]
    refine tr_top (bI_t hcs) ?_
    refine lv_if_ne (tgt := 73) hx hb d_Sw_unit_62 (by decide) (fun _ => ?_) (fun h0 => absurd h0 (by decide))
    refine lv_aload_n hx hb d_Sw_unit_73 rfl (lv_at hl 0 rfl) ?_
    refine va_get (D := D) (ci := 5) (v := .ref hh) (C := R_Sw) (T := T_Sw) (N := 6) hx hb hts hin_Sw hown hK hP 0 rfl rfl 1 (by decide) (hts _ wd_202) (fun _ h9 => h9) rfl d_Sw_unit_74 ?_
    refine va_get (D := D) (ci := 3) (v := .ref qu) (C := R_Sh) (T := T_Sh) (N := 7) hx hb hts hin_Sh hown hK hP 3 rfl rfl 1 (by decide) (hts _ wd_65) (fun _ h9 => h9) rfl d_Sw_unit_77 ?_
    refine lv_iload_n hx hb d_Sw_unit_80 rfl (lv_at hl 1 rfl) ?_
    refine lv_iload_n hx hb d_Sw_unit_81 rfl (lv_at hl 2 rfl) ?_
    refine lv_iload_n hx hb d_Sw_unit_82 rfl (lv_at hl 3 rfl) ?_
    have hPc := hP.sub (ws' := []) [] rfl
    refine vp_callSi (va_Run.run (va_runS (As := [.int (nI p9), .int (nI k)]) (rest := [.int (nI a), .ref qu]) ⟨hx, hb, hml, hown, hts⟩ (c_Sw_unitOf l D cI cZ cJ cS aT ceT  p9 k ) (va_cwS 2 hts (tb_3 wd_434 wd_435 wd_1 (tb_c wd_436)) rfl rfl rfl ⟨by decide, by decide, by decide +kernel⟩ ⟨Nat.le_of_ble_eq_true rfl, Nat.le_of_ble_eq_true rfl⟩) (tP_S hK hX (hS.2.1 aT hXl hXn) hPc) rfl rfl hl.1 rfl (lv_room (Nat.le_of_ble_eq_true rfl)) d_Sw_unit_83 ⟨Nat.le_of_ble_eq_true rfl, Nat.le_of_ble_eq_true rfl⟩)) (fun r13 hr9 => ?_)
    rw [hr9]
    refine tr_iast (g := upd fu a (nI (2 * p9 + k))) hx hb hK hP hD hS 4 0 rfl rfl a (Nat.lt_of_lt_of_le h_a hn) (by decide) rfl d_Sw_unit_86 (fun H locs hP hD hS => ?_)
    have hP : va_P D vwCl [(h0, .inr (5, [.ref hm, .ref hh, .ref he, .ref ha, .ref hp, .int 0])), (hm, .inr (4, [.int (nI n), .int (mI S), .int (mI Ce), .ref qh, .ref qn])), (qn, .inl (cI, 12, .inl (fun j => mI (N j)))), (hh, .inr (3, [.int tn, .ref qu, .ref qo, .ref qx, .ref qy, .ref qr, .ref qw])), (qu, .inl (cI, 12, .inl (upd fu a (nI (2 * p9 + k)))))] H := hP
    have hD : va_D A [(h0, .inr (5, [.ref hm, .ref hh, .ref he, .ref ha, .ref hp, .int 0])), (hm, .inr (4, [.int (nI n), .int (mI S), .int (mI Ce), .ref qh, .ref qn])), (qn, .inl (cI, 12, .inl (fun j => mI (N j)))), (hh, .inr (3, [.int tn, .ref qu, .ref qo, .ref qx, .ref qy, .ref qr, .ref qw])), (qu, .inl (cI, 12, .inl (upd fu a (nI (2 * p9 + k)))))] := hD
    have hP9 := hP.sub (ws' := [(h0, .inr (5, [.ref hm, .ref hh, .ref he, .ref ha, .ref hp, .int 0])), (hm, .inr (4, [.int (nI n), .int (mI S), .int (mI Ce), .ref qh, .ref qn])), (qn, .inl (cI, 12, .inl (fun j => mI (N j)))), (hh, .inr (3, [.int tn, .ref qu, .ref qo, .ref qx, .ref qy, .ref qr, .ref qw])), (qu, .inl (cI, 12, .inl (upd fu a (nI (2 * p9 + k)))))]) [0, 1, 2, 3, 4] rfl
    have hD9 := hD.sub (ws' := [(h0, .inr (5, [.ref hm, .ref hh, .ref he, .ref ha, .ref hp, .int 0])), (hm, .inr (4, [.int (nI n), .int (mI S), .int (mI Ce), .ref qh, .ref qn])), (qn, .inl (cI, 12, .inl (fun j => mI (N j)))), (hh, .inr (3, [.int tn, .ref qu, .ref qo, .ref qx, .ref qy, .ref qr, .ref qw])), (qu, .inl (cI, 12, .inl (upd fu a (nI (2 * p9 + k)))))]) [0, 1, 2, 3, 4] (by decide) rfl
    exact W.vret hx hb hr (fun t ht hW => ⟨⟨(), rfl, trivial, by rw [ht]; exact hP9, hD9⟩, hS.F ht⟩) hS.2.2 d_Sw_unit_87
  · -- 19 not taken
    have hc5 : ¬ k = 0 := fun h9 => hc5 (congrArg nI h9)
    refine lv_iload_n hx hb d_Sw_unit_22 rfl (lv_at hl 3 rfl) ?_
    refine lv_iconst (v := 1) hx hb d_Sw_unit_23 (by decide) ?_
    refine lv_icmp_eq (tgt := 35) hx hb d_Sw_unit_24 (by decide) (fun hc14 => ?_) (fun hc14 => ?_)
    · -- 24 taken
      have hc14 : k = 1 := (nI_lit (by omega) (by decide)).mp hc14
      refine lv_aload_n hx hb d_Sw_unit_35 rfl (lv_at hl 0 rfl) ?_
      refine va_get (D := D) (ci := 5) (v := .int 0) (C := R_Sw) (T := T_Sw) (N := 6) hx hb hts hin_Sw hown hK hP 0 rfl rfl 5 (by decide) (hts _ wd_206) (fun _ h9 => h9) rfl d_Sw_unit_36 ?_
      refine lv_if_ne (tgt := 65) hx hb d_Sw_unit_39 (by decide) (fun h0 => absurd (by decide) h0) (fun _ => ?_)
      refine lv_aload_n hx hb d_Sw_unit_42 rfl (lv_at hl 0 rfl) ?_
      refine va_get (D := D) (ci := 5) (v := .ref hh) (C := R_Sw) (T := T_Sw) (N := 6) hx hb hts hin_Sw hown hK hP 0 rfl rfl 1 (by decide) (hts _ wd_202) (fun _ h9 => h9) rfl d_Sw_unit_43 ?_
      refine lv_iload_n hx hb d_Sw_unit_46 rfl (lv_at hl 1 rfl) ?_
      have hPc := hP.sub (ws' := [(hh, .inr (3, [.int tn, .ref qu, .ref qo, .ref qx, .ref qy, .ref qr, .ref qw])), (qu, .inl (cI, 12, .inl fu))]) [3, 4] rfl
      refine vp_callSi (va_Run.run (va_runV (As := [.int (nI a)]) (rest := []) ⟨hx, hb, hml, hown, hts⟩ (c_Sh_hasUnitP l D cI cZ cJ cS aT ceT  hh tn qu qo qx qy qr qw fu a (Nat.lt_of_lt_of_le h_a hn)) (cwV 1 hts (tb_4 wd_286 wd_287 wd_288 wd_3 (tb_c wd_289)) rfl rfl rfl ⟨rfl, by decide, by decide, by decide +kernel⟩ ⟨Nat.le_of_ble_eq_true rfl, Nat.le_of_ble_eq_true rfl⟩) (tP_V hK hX (hS.2.1 aT hXl hXn) hPc (q := 0) rfl rfl) rfl rfl hl.1 rfl (lv_room (Nat.le_of_ble_eq_true rfl)) d_Sw_unit_47 ⟨Nat.le_of_ble_eq_true rfl, Nat.le_of_ble_eq_true rfl⟩)) (fun r16 hr9 => ?_)
      rw [hr9]
      refine tr_top (bI_f (show (!decide (fu a = -1)) = false by simp [hfr])) ?_
      refine lv_if_ne (tgt := 65) hx hb d_Sw_unit_50 (by decide) (fun h0 => absurd (by decide) h0) (fun _ => ?_)
      refine lv_aload_n hx hb d_Sw_unit_53 rfl (lv_at hl 0 rfl) ?_
      refine va_get (D := D) (ci := 5) (v := .ref hm) (C := R_Sw) (T := T_Sw) (N := 6) hx hb hts hin_Sw hown hK hP 0 rfl rfl 0 (by decide) (hts _ wd_201) (fun _ h9 => h9) rfl d_Sw_unit_54 ?_
      refine lv_iload_n hx hb d_Sw_unit_57 rfl (lv_at hl 3 rfl) ?_
      refine lv_iload_n hx hb d_Sw_unit_58 rfl (lv_at hl 1 rfl) ?_
      have hPc := hP.sub (ws' := [(hm, .inr (4, [.int (nI n), .int (mI S), .int (mI Ce), .ref qh, .ref qn])), (qn, .inl (cI, 12, .inl (fun j => mI (N j))))]) [1, 2] rfl
      refine vp_callSi (va_Run.run (va_runV (As := [.int (nI k), .int (nI a)]) (rest := []) ⟨hx, hb, hml, hown, hts⟩ (c_Wm_canStand l D cI cZ cJ cS aT ceT  hm qh qn n S Ce N (nI k) a (Nat.lt_of_lt_of_le h_a hn)) (cwV 2 hts (tb_4 wd_430 wd_431 wd_432 wd_2 (tb_c wd_433)) rfl rfl rfl ⟨rfl, by decide, by decide, by decide +kernel⟩ ⟨Nat.le_of_ble_eq_true rfl, Nat.le_of_ble_eq_true rfl⟩) (tP_V hK hX (hS.2.1 aT hXl hXn) hPc (q := 0) rfl rfl) rfl rfl hl.1 rfl (lv_room (Nat.le_of_ble_eq_true rfl)) d_Sw_unit_59 ⟨Nat.le_of_ble_eq_true rfl, Nat.le_of_ble_eq_true rfl⟩)) (fun r19 hr9 => ?_)
      rw [hr9]
      refine tr_top (bI_t hcs) ?_
      refine lv_if_ne (tgt := 73) hx hb d_Sw_unit_62 (by decide) (fun _ => ?_) (fun h0 => absurd h0 (by decide))
      refine lv_aload_n hx hb d_Sw_unit_73 rfl (lv_at hl 0 rfl) ?_
      refine va_get (D := D) (ci := 5) (v := .ref hh) (C := R_Sw) (T := T_Sw) (N := 6) hx hb hts hin_Sw hown hK hP 0 rfl rfl 1 (by decide) (hts _ wd_202) (fun _ h9 => h9) rfl d_Sw_unit_74 ?_
      refine va_get (D := D) (ci := 3) (v := .ref qu) (C := R_Sh) (T := T_Sh) (N := 7) hx hb hts hin_Sh hown hK hP 3 rfl rfl 1 (by decide) (hts _ wd_65) (fun _ h9 => h9) rfl d_Sw_unit_77 ?_
      refine lv_iload_n hx hb d_Sw_unit_80 rfl (lv_at hl 1 rfl) ?_
      refine lv_iload_n hx hb d_Sw_unit_81 rfl (lv_at hl 2 rfl) ?_
      refine lv_iload_n hx hb d_Sw_unit_82 rfl (lv_at hl 3 rfl) ?_
      have hPc := hP.sub (ws' := []) [] rfl
      refine vp_callSi (va_Run.run (va_runS (As := [.int (nI p9), .int (nI k)]) (rest := [.int (nI a), .ref qu]) ⟨hx, hb, hml, hown, hts⟩ (c_Sw_unitOf l D cI cZ cJ cS aT ceT  p9 k ) (va_cwS 2 hts (tb_3 wd_434 wd_435 wd_1 (tb_c wd_436)) rfl rfl rfl ⟨by decide, by decide, by decide +kernel⟩ ⟨Nat.le_of_ble_eq_true rfl, Nat.le_of_ble_eq_true rfl⟩) (tP_S hK hX (hS.2.1 aT hXl hXn) hPc) rfl rfl hl.1 rfl (lv_room (Nat.le_of_ble_eq_true rfl)) d_Sw_unit_83 ⟨Nat.le_of_ble_eq_true rfl, Nat.le_of_ble_eq_true rfl⟩)) (fun r22 hr9 => ?_)
      rw [hr9]
      refine tr_iast (g := upd fu a (nI (2 * p9 + k))) hx hb hK hP hD hS 4 0 rfl rfl a (Nat.lt_of_lt_of_le h_a hn) (by decide) rfl d_Sw_unit_86 (fun H locs hP hD hS => ?_)
      have hP : va_P D vwCl [(h0, .inr (5, [.ref hm, .ref hh, .ref he, .ref ha, .ref hp, .int 0])), (hm, .inr (4, [.int (nI n), .int (mI S), .int (mI Ce), .ref qh, .ref qn])), (qn, .inl (cI, 12, .inl (fun j => mI (N j)))), (hh, .inr (3, [.int tn, .ref qu, .ref qo, .ref qx, .ref qy, .ref qr, .ref qw])), (qu, .inl (cI, 12, .inl (upd fu a (nI (2 * p9 + k)))))] H := hP
      have hD : va_D A [(h0, .inr (5, [.ref hm, .ref hh, .ref he, .ref ha, .ref hp, .int 0])), (hm, .inr (4, [.int (nI n), .int (mI S), .int (mI Ce), .ref qh, .ref qn])), (qn, .inl (cI, 12, .inl (fun j => mI (N j)))), (hh, .inr (3, [.int tn, .ref qu, .ref qo, .ref qx, .ref qy, .ref qr, .ref qw])), (qu, .inl (cI, 12, .inl (upd fu a (nI (2 * p9 + k)))))] := hD
      have hP9 := hP.sub (ws' := [(h0, .inr (5, [.ref hm, .ref hh, .ref he, .ref ha, .ref hp, .int 0])), (hm, .inr (4, [.int (nI n), .int (mI S), .int (mI Ce), .ref qh, .ref qn])), (qn, .inl (cI, 12, .inl (fun j => mI (N j)))), (hh, .inr (3, [.int tn, .ref qu, .ref qo, .ref qx, .ref qy, .ref qr, .ref qw])), (qu, .inl (cI, 12, .inl (upd fu a (nI (2 * p9 + k)))))]) [0, 1, 2, 3, 4] rfl
      have hD9 := hD.sub (ws' := [(h0, .inr (5, [.ref hm, .ref hh, .ref he, .ref ha, .ref hp, .int 0])), (hm, .inr (4, [.int (nI n), .int (mI S), .int (mI Ce), .ref qh, .ref qn])), (qn, .inl (cI, 12, .inl (fun j => mI (N j)))), (hh, .inr (3, [.int tn, .ref qu, .ref qo, .ref qx, .ref qy, .ref qr, .ref qw])), (qu, .inl (cI, 12, .inl (upd fu a (nI (2 * p9 + k)))))]) [0, 1, 2, 3, 4] (by decide) rfl
      exact W.vret hx hb hr (fun t ht hW => ⟨⟨(), rfl, trivial, by rw [ht]; exact hP9, hD9⟩, hS.F ht⟩) hS.2.2 d_Sw_unit_87
    · -- 24 not taken
      have hc14 : ¬ k = 1 := fun h9 => hc14 (congrArg nI h9)
      exact False.elim (by omega)


set_option maxHeartbeats 4000000 in
set_option maxRecDepth 100000 in
theorem c_Sw_unit_t2 (l : Launch) (D : va_G) (cI cZ cJ cS : ClassId) (aT : Nat) (ceT : Cell) (h0 hm hh he ha hp : Nat) (ph : Int32) (qh qn n : Nat) (S Ce : Nat → Bool) (N : Nat → Nat → Bool) (tn : Int32) (qu qo qx qy qr qw : Nat) (fu : Nat → Int32) (p9 a k : Nat) (hn : n ≤ 12) (h_a : a < n) (h_p : p9 < 4) (h_k : k < 2) (hbad : ¬ (ph = 0 ∧ fu a = -1 ∧ (if nI k = 0 then !S a else S a || anyB (fun j => N a j && S j) 12) = true)) (hfl : l.flags = pinnedFlags ++ [noTraceFlag]) : MetT l y_Sw_unit w_Sw_unit ({ frames := 6, cells := 1, slots := 6, locals := 82 }) (tP D cI cZ cJ cS aT ceT [.ref h0, .int (nI a), .int (nI p9), .int (nI k)] [(h0, .inr (5, [.ref hm, .ref hh, .ref he, .ref ha, .ref hp, .int ph])), (hm, .inr (4, [.int (nI n), .int (mI S), .int (mI Ce), .ref qh, .ref qn])), (qn, .inl (cI, 12, .inl (fun j => mI (N j)))), (hh, .inr (3, [.int tn, .ref qu, .ref qo, .ref qx, .ref qy, .ref qr, .ref qw])), (qu, .inl (cI, 12, .inl fu))]) tx_ise 1 6 := by
  refine MetT.ofW (cc := b_Sw_unit) (maxL := 4) (ret := none) (by decide) rfl ?_
  intro p e s m args below meth c s₁ B hml hv
  obtain ⟨rfl, hP, hK, hX⟩ := hv
  have hx := B.exec
  have hb := B.bytes
  have hr := B.returns
  have hts0 := atoms_spec (ws := w_Sw_unit) B.pre
  have hts : ∀ w ∈ TB, w.before _ s = true := fun w h => hts0 w (List.mem_cons_of_mem _ h)
  have hno := B.noHandlers (hts0 _ (List.mem_cons_self ..))
  have hown : s.vm.findClass R_Sw = some m.cls := findClass_of_methodNamed B.named
  have hlocks := B.notSynchronized
  have hXH : s.heap[aT]? = s.heap[aT]? := rfl
  have hl := lv_entry ([.ref h0, .int (nI a), .int (nI p9), .int (nI k)]) (n := 4) (Nat.le_of_ble_eq_true rfl)
  rw [lg_entry_eq]
  generalize (lg_sl ([.ref h0, .int (nI a), .int (nI p9), .int (nI k)]) ++ List.replicate (4 - (lg_sl ([.ref h0, .int (nI a), .int (nI p9), .int (nI k)])).length) Slot.unset).toArray = ls at hl ⊢
  have hl : lv_has ls 4 [(0, .ref h0), (1, .int (nI a)), (2, .int (nI p9)), (3, .int (nI k))] := hl
  refine lv_aload_n hx hb d_Sw_unit_0 rfl (lv_at hl 0 rfl) ?_
  refine va_get (D := D) (ci := 5) (v := .ref hm) (C := R_Sw) (T := T_Sw) (N := 6) hx hb hts hin_Sw hown hK hP 0 rfl rfl 0 (by decide) (hts _ wd_201) (fun _ h9 => h9) rfl d_Sw_unit_1 ?_
  refine lv_iload_n hx hb d_Sw_unit_4 rfl (lv_at hl 1 rfl) ?_
  have hPc := hP.sub (ws' := [(hm, .inr (4, [.int (nI n), .int (mI S), .int (mI Ce), .ref qh, .ref qn]))]) [1] rfl
  refine vp_callSi (va_Run.run (va_runV (As := [.int (nI a)]) (rest := []) ⟨hx, hb, hml, hown, hts⟩ (c_Wm_hasY l D cI cZ cJ cS aT ceT  hm qh qn n S Ce a hn h_a) (cwV 1 hts (tb_4 wd_224 wd_225 wd_226 wd_2 (tb_c wd_227)) rfl rfl rfl ⟨rfl, by decide, by decide, by decide +kernel⟩ ⟨Nat.le_of_ble_eq_true rfl, Nat.le_of_ble_eq_true rfl⟩) (tP_V hK hX hXH hPc (q := 0) rfl rfl) rfl rfl hl.1 rfl (lv_room (Nat.le_of_ble_eq_true rfl)) d_Sw_unit_5 ⟨Nat.le_of_ble_eq_true rfl, Nat.le_of_ble_eq_true rfl⟩)) (fun r1 hr9 => ?_)
  rw [hr9]
  refine lv_if_eq (tgt := 27) hx hb d_Sw_unit_8 (by decide) (fun h0 => absurd h0 (by decide)) (fun _ => ?_)
  refine lv_iload_n hx hb d_Sw_unit_11 rfl (lv_at hl 2 rfl) ?_
  have hPc := hP.sub (ws' := []) [] rfl
  refine vp_callSi (va_Run.run (va_runS (As := [.int (nI p9)]) (rest := []) ⟨hx, hb, hml, hown, hts⟩ (c_Sw_isPlayerY l D cI cZ cJ cS aT ceT  p9 h_p) (va_cwS 1 hts (tb_3 wd_299 wd_300 wd_1 (tb_c wd_301)) rfl rfl rfl ⟨by decide, by decide, by decide +kernel⟩ ⟨Nat.le_of_ble_eq_true rfl, Nat.le_of_ble_eq_true rfl⟩) (tP_S hK hX hXH hPc) rfl rfl hl.1 rfl (lv_room (Nat.le_of_ble_eq_true rfl)) d_Sw_unit_12 ⟨Nat.le_of_ble_eq_true rfl, Nat.le_of_ble_eq_true rfl⟩)) (fun r3 hr9 => ?_)
  rw [hr9]
  refine lv_if_eq (tgt := 27) hx hb d_Sw_unit_15 (by decide) (fun h0 => absurd h0 (by decide)) (fun _ => ?_)
  refine lv_iload_n hx hb d_Sw_unit_18 rfl (lv_at hl 3 rfl) ?_
  refine lv_if_eq (tgt := 35) hx hb d_Sw_unit_19 (by decide) (fun hc5 => ?_) (fun hc5 => ?_)
  · -- 19 taken
    have hc5 : k = 0 := (nI_lit (by omega) (by decide)).mp hc5
    refine lv_aload_n hx hb d_Sw_unit_35 rfl (lv_at hl 0 rfl) ?_
    refine va_get (D := D) (ci := 5) (v := .int ph) (C := R_Sw) (T := T_Sw) (N := 6) hx hb hts hin_Sw hown hK hP 0 rfl rfl 5 (by decide) (hts _ wd_206) (fun _ h9 => h9) rfl d_Sw_unit_36 ?_
    refine lv_if_ne (tgt := 65) hx hb d_Sw_unit_39 (by decide) (fun hc6 => ?_) (fun hc6 => ?_)
    · -- 39 taken
      exact tx_throwNew (n := 6) hx hb hno hfl hlocks hown (by decide) (by decide) (tx_own2 hts hX) (hts _ wd_390) (hts _ wd_391) (hts _ wd_13) (hl.1.trans hml.symm) d_Sw_unit_65 d_Sw_unit_68 d_Sw_unit_69 d_Sw_unit_72 (Nat.le_of_ble_eq_true rfl) (Nat.le_of_ble_eq_true rfl) (Nat.le_of_ble_eq_true rfl) (Nat.le_of_ble_eq_true rfl) (Nat.le_refl _)
    · -- 39 not taken
      refine lv_aload_n hx hb d_Sw_unit_42 rfl (lv_at hl 0 rfl) ?_
      refine va_get (D := D) (ci := 5) (v := .ref hh) (C := R_Sw) (T := T_Sw) (N := 6) hx hb hts hin_Sw hown hK hP 0 rfl rfl 1 (by decide) (hts _ wd_202) (fun _ h9 => h9) rfl d_Sw_unit_43 ?_
      refine lv_iload_n hx hb d_Sw_unit_46 rfl (lv_at hl 1 rfl) ?_
      have hPc := hP.sub (ws' := [(hh, .inr (3, [.int tn, .ref qu, .ref qo, .ref qx, .ref qy, .ref qr, .ref qw])), (qu, .inl (cI, 12, .inl fu))]) [3, 4] rfl
      refine vp_callSi (va_Run.run (va_runV (As := [.int (nI a)]) (rest := []) ⟨hx, hb, hml, hown, hts⟩ (c_Sh_hasUnitP l D cI cZ cJ cS aT ceT  hh tn qu qo qx qy qr qw fu a (Nat.lt_of_lt_of_le h_a hn)) (cwV 1 hts (tb_4 wd_286 wd_287 wd_288 wd_3 (tb_c wd_289)) rfl rfl rfl ⟨rfl, by decide, by decide, by decide +kernel⟩ ⟨Nat.le_of_ble_eq_true rfl, Nat.le_of_ble_eq_true rfl⟩) (tP_V hK hX hXH hPc (q := 0) rfl rfl) rfl rfl hl.1 rfl (lv_room (Nat.le_of_ble_eq_true rfl)) d_Sw_unit_47 ⟨Nat.le_of_ble_eq_true rfl, Nat.le_of_ble_eq_true rfl⟩)) (fun r7 hr9 => ?_)
      rw [hr9]
      rcases bI_c (!decide (fu a = -1)) with ⟨hb9, e9⟩ | ⟨hb9, e9⟩
      · refine tr_top e9 ?_
        refine lv_if_ne (tgt := 65) hx hb d_Sw_unit_50 (by decide) (fun _ => ?_) (fun h0 => absurd h0 (by decide))
        exact tx_throwNew (n := 6) hx hb hno hfl hlocks hown (by decide) (by decide) (tx_own2 hts hX) (hts _ wd_390) (hts _ wd_391) (hts _ wd_13) (hl.1.trans hml.symm) d_Sw_unit_65 d_Sw_unit_68 d_Sw_unit_69 d_Sw_unit_72 (Nat.le_of_ble_eq_true rfl) (Nat.le_of_ble_eq_true rfl) (Nat.le_of_ble_eq_true rfl) (Nat.le_of_ble_eq_true rfl) (Nat.le_refl _)
      · refine tr_top e9 ?_
        refine lv_if_ne (tgt := 65) hx hb d_Sw_unit_50 (by decide) (fun h0 => absurd (by decide) h0) (fun _ => ?_)
        refine lv_aload_n hx hb d_Sw_unit_53 rfl (lv_at hl 0 rfl) ?_
        refine va_get (D := D) (ci := 5) (v := .ref hm) (C := R_Sw) (T := T_Sw) (N := 6) hx hb hts hin_Sw hown hK hP 0 rfl rfl 0 (by decide) (hts _ wd_201) (fun _ h9 => h9) rfl d_Sw_unit_54 ?_
        refine lv_iload_n hx hb d_Sw_unit_57 rfl (lv_at hl 3 rfl) ?_
        refine lv_iload_n hx hb d_Sw_unit_58 rfl (lv_at hl 1 rfl) ?_
        have hPc := hP.sub (ws' := [(hm, .inr (4, [.int (nI n), .int (mI S), .int (mI Ce), .ref qh, .ref qn])), (qn, .inl (cI, 12, .inl (fun j => mI (N j))))]) [1, 2] rfl
        refine vp_callSi (va_Run.run (va_runV (As := [.int (nI k), .int (nI a)]) (rest := []) ⟨hx, hb, hml, hown, hts⟩ (c_Wm_canStand l D cI cZ cJ cS aT ceT  hm qh qn n S Ce N (nI k) a (Nat.lt_of_lt_of_le h_a hn)) (cwV 2 hts (tb_4 wd_430 wd_431 wd_432 wd_2 (tb_c wd_433)) rfl rfl rfl ⟨rfl, by decide, by decide, by decide +kernel⟩ ⟨Nat.le_of_ble_eq_true rfl, Nat.le_of_ble_eq_true rfl⟩) (tP_V hK hX hXH hPc (q := 0) rfl rfl) rfl rfl hl.1 rfl (lv_room (Nat.le_of_ble_eq_true rfl)) d_Sw_unit_59 ⟨Nat.le_of_ble_eq_true rfl, Nat.le_of_ble_eq_true rfl⟩)) (fun r12 hr9 => ?_)
        rw [hr9]
        rcases bI_c (if (nI k) = 0 then !S a else S a || anyB (fun j => N a j && S j) 12) with ⟨hb14, e9⟩ | ⟨hb14, e9⟩
        · refine tr_top e9 ?_
          refine lv_if_ne (tgt := 73) hx hb d_Sw_unit_62 (by decide) (fun _ => ?_) (fun h0 => absurd h0 (by decide))
          exact absurd ⟨hc6, by simpa using hb9, hb14⟩ hbad
        · refine tr_top e9 ?_
          refine lv_if_ne (tgt := 73) hx hb d_Sw_unit_62 (by decide) (fun h0 => absurd (by decide) h0) (fun _ => ?_)
          exact tx_throwNew (n := 6) hx hb hno hfl hlocks hown (by decide) (by decide) (tx_own2 hts hX) (hts _ wd_390) (hts _ wd_391) (hts _ wd_13) (hl.1.trans hml.symm) d_Sw_unit_65 d_Sw_unit_68 d_Sw_unit_69 d_Sw_unit_72 (Nat.le_of_ble_eq_true rfl) (Nat.le_of_ble_eq_true rfl) (Nat.le_of_ble_eq_true rfl) (Nat.le_of_ble_eq_true rfl) (Nat.le_refl _)
  · -- 19 not taken
    have hc5 : ¬ k = 0 := fun h9 => hc5 (congrArg nI h9)
    refine lv_iload_n hx hb d_Sw_unit_22 rfl (lv_at hl 3 rfl) ?_
    refine lv_iconst (v := 1) hx hb d_Sw_unit_23 (by decide) ?_
    refine lv_icmp_eq (tgt := 35) hx hb d_Sw_unit_24 (by decide) (fun hc17 => ?_) (fun hc17 => ?_)
    · -- 24 taken
      have hc17 : k = 1 := (nI_lit (by omega) (by decide)).mp hc17
      refine lv_aload_n hx hb d_Sw_unit_35 rfl (lv_at hl 0 rfl) ?_
      refine va_get (D := D) (ci := 5) (v := .int ph) (C := R_Sw) (T := T_Sw) (N := 6) hx hb hts hin_Sw hown hK hP 0 rfl rfl 5 (by decide) (hts _ wd_206) (fun _ h9 => h9) rfl d_Sw_unit_36 ?_
      refine lv_if_ne (tgt := 65) hx hb d_Sw_unit_39 (by decide) (fun hc18 => ?_) (fun hc18 => ?_)
      · -- 39 taken
        exact tx_throwNew (n := 6) hx hb hno hfl hlocks hown (by decide) (by decide) (tx_own2 hts hX) (hts _ wd_390) (hts _ wd_391) (hts _ wd_13) (hl.1.trans hml.symm) d_Sw_unit_65 d_Sw_unit_68 d_Sw_unit_69 d_Sw_unit_72 (Nat.le_of_ble_eq_true rfl) (Nat.le_of_ble_eq_true rfl) (Nat.le_of_ble_eq_true rfl) (Nat.le_of_ble_eq_true rfl) (Nat.le_refl _)
      · -- 39 not taken
        refine lv_aload_n hx hb d_Sw_unit_42 rfl (lv_at hl 0 rfl) ?_
        refine va_get (D := D) (ci := 5) (v := .ref hh) (C := R_Sw) (T := T_Sw) (N := 6) hx hb hts hin_Sw hown hK hP 0 rfl rfl 1 (by decide) (hts _ wd_202) (fun _ h9 => h9) rfl d_Sw_unit_43 ?_
        refine lv_iload_n hx hb d_Sw_unit_46 rfl (lv_at hl 1 rfl) ?_
        have hPc := hP.sub (ws' := [(hh, .inr (3, [.int tn, .ref qu, .ref qo, .ref qx, .ref qy, .ref qr, .ref qw])), (qu, .inl (cI, 12, .inl fu))]) [3, 4] rfl
        refine vp_callSi (va_Run.run (va_runV (As := [.int (nI a)]) (rest := []) ⟨hx, hb, hml, hown, hts⟩ (c_Sh_hasUnitP l D cI cZ cJ cS aT ceT  hh tn qu qo qx qy qr qw fu a (Nat.lt_of_lt_of_le h_a hn)) (cwV 1 hts (tb_4 wd_286 wd_287 wd_288 wd_3 (tb_c wd_289)) rfl rfl rfl ⟨rfl, by decide, by decide, by decide +kernel⟩ ⟨Nat.le_of_ble_eq_true rfl, Nat.le_of_ble_eq_true rfl⟩) (tP_V hK hX hXH hPc (q := 0) rfl rfl) rfl rfl hl.1 rfl (lv_room (Nat.le_of_ble_eq_true rfl)) d_Sw_unit_47 ⟨Nat.le_of_ble_eq_true rfl, Nat.le_of_ble_eq_true rfl⟩)) (fun r19 hr9 => ?_)
        rw [hr9]
        rcases bI_c (!decide (fu a = -1)) with ⟨hb21, e9⟩ | ⟨hb21, e9⟩
        · refine tr_top e9 ?_
          refine lv_if_ne (tgt := 65) hx hb d_Sw_unit_50 (by decide) (fun _ => ?_) (fun h0 => absurd h0 (by decide))
          exact tx_throwNew (n := 6) hx hb hno hfl hlocks hown (by decide) (by decide) (tx_own2 hts hX) (hts _ wd_390) (hts _ wd_391) (hts _ wd_13) (hl.1.trans hml.symm) d_Sw_unit_65 d_Sw_unit_68 d_Sw_unit_69 d_Sw_unit_72 (Nat.le_of_ble_eq_true rfl) (Nat.le_of_ble_eq_true rfl) (Nat.le_of_ble_eq_true rfl) (Nat.le_of_ble_eq_true rfl) (Nat.le_refl _)
        · refine tr_top e9 ?_
          refine lv_if_ne (tgt := 65) hx hb d_Sw_unit_50 (by decide) (fun h0 => absurd (by decide) h0) (fun _ => ?_)
          refine lv_aload_n hx hb d_Sw_unit_53 rfl (lv_at hl 0 rfl) ?_
          refine va_get (D := D) (ci := 5) (v := .ref hm) (C := R_Sw) (T := T_Sw) (N := 6) hx hb hts hin_Sw hown hK hP 0 rfl rfl 0 (by decide) (hts _ wd_201) (fun _ h9 => h9) rfl d_Sw_unit_54 ?_
          refine lv_iload_n hx hb d_Sw_unit_57 rfl (lv_at hl 3 rfl) ?_
          refine lv_iload_n hx hb d_Sw_unit_58 rfl (lv_at hl 1 rfl) ?_
          have hPc := hP.sub (ws' := [(hm, .inr (4, [.int (nI n), .int (mI S), .int (mI Ce), .ref qh, .ref qn])), (qn, .inl (cI, 12, .inl (fun j => mI (N j))))]) [1, 2] rfl
          refine vp_callSi (va_Run.run (va_runV (As := [.int (nI k), .int (nI a)]) (rest := []) ⟨hx, hb, hml, hown, hts⟩ (c_Wm_canStand l D cI cZ cJ cS aT ceT  hm qh qn n S Ce N (nI k) a (Nat.lt_of_lt_of_le h_a hn)) (cwV 2 hts (tb_4 wd_430 wd_431 wd_432 wd_2 (tb_c wd_433)) rfl rfl rfl ⟨rfl, by decide, by decide, by decide +kernel⟩ ⟨Nat.le_of_ble_eq_true rfl, Nat.le_of_ble_eq_true rfl⟩) (tP_V hK hX hXH hPc (q := 0) rfl rfl) rfl rfl hl.1 rfl (lv_room (Nat.le_of_ble_eq_true rfl)) d_Sw_unit_59 ⟨Nat.le_of_ble_eq_true rfl, Nat.le_of_ble_eq_true rfl⟩)) (fun r24 hr9 => ?_)
          rw [hr9]
          rcases bI_c (if (nI k) = 0 then !S a else S a || anyB (fun j => N a j && S j) 12) with ⟨hb26, e9⟩ | ⟨hb26, e9⟩
          · refine tr_top e9 ?_
            refine lv_if_ne (tgt := 73) hx hb d_Sw_unit_62 (by decide) (fun _ => ?_) (fun h0 => absurd h0 (by decide))
            exact absurd ⟨hc18, by simpa using hb21, hb26⟩ hbad
          · refine tr_top e9 ?_
            refine lv_if_ne (tgt := 73) hx hb d_Sw_unit_62 (by decide) (fun h0 => absurd (by decide) h0) (fun _ => ?_)
            exact tx_throwNew (n := 6) hx hb hno hfl hlocks hown (by decide) (by decide) (tx_own2 hts hX) (hts _ wd_390) (hts _ wd_391) (hts _ wd_13) (hl.1.trans hml.symm) d_Sw_unit_65 d_Sw_unit_68 d_Sw_unit_69 d_Sw_unit_72 (Nat.le_of_ble_eq_true rfl) (Nat.le_of_ble_eq_true rfl) (Nat.le_of_ble_eq_true rfl) (Nat.le_of_ble_eq_true rfl) (Nat.le_refl _)
    · -- 24 not taken
      have hc17 : ¬ k = 1 := fun h9 => hc17 (congrArg nI h9)
      exact False.elim (by omega)

theorem wd_469 : (Cond.code ({ cls := "SheetWar", name := "isPossible", desc := "(IIII)Z" } : MethodName) prog_1_method_27_code (5 : Nat) (Option.some FieldType.boolean)) ∈ TB := tb_t 469 (by decide +kernel) (by decide +kernel)
theorem wd_466 : (Cond.methodLink "SheetWar" (104 : Nat) ({ cls := "SheetWar", name := "isPossible", desc := "(IIII)Z" } : MethodName)) ∈ TB := tb_t 466 (by decide +kernel) (by decide +kernel)
theorem wd_468 : (Cond.instanceMethod ({ cls := "SheetWar", name := "isPossible", desc := "(IIII)Z" } : MethodName)) ∈ TB := tb_t 468 (by decide +kernel) (by decide +kernel)
theorem wd_486 : (Cond.code ({ cls := "SheetWar$Sheet", name := "write", desc := "(IIII)V" } : MethodName) prog_5_method_6_code (5 : Nat) (Option.none : Option FieldType)) ∈ TB := tb_t 486 (by decide +kernel) (by decide +kernel)
theorem wd_483 : (Cond.methodLink "SheetWar" (108 : Nat) ({ cls := "SheetWar$Sheet", name := "write", desc := "(IIII)V" } : MethodName)) ∈ TB := tb_t 483 (by decide +kernel) (by decide +kernel)
theorem wd_484 : (Cond.instanceMethod ({ cls := "SheetWar$Sheet", name := "write", desc := "(IIII)V" } : MethodName)) ∈ TB := tb_t 484 (by decide +kernel) (by decide +kernel)
theorem wd_485 : (Cond.selects "SheetWar$Sheet" ({ cls := "SheetWar$Sheet", name := "write", desc := "(IIII)V" } : MethodName) ({ cls := "SheetWar$Sheet", name := "write", desc := "(IIII)V" } : MethodName)) ∈ TB := tb_t 485 (by decide +kernel) (by decide +kernel)
theorem wp_3 : Cond.selects "SheetWar" ⟨"SheetWar", "isPossible", "(IIII)Z"⟩ ⟨"SheetWar", "isPossible", "(IIII)Z"⟩ ∈ TB := tb_p 3 (by decide +kernel) (by decide +kernel)
set_option maxHeartbeats 4000000 in
set_option maxRecDepth 100000 in
theorem c_Sw_order0 (l : Launch) (D : va_G) (cI cZ cJ cS : ClassId) (aT : Nat) (ceT : Cell) (sz : Nat) (h0 hm hh he ha hp : Nat) (qh qn n : Nat) (S Ce : Nat → Bool) (N : Nat → Nat → Bool) (tn : Int32) (qu qo qx qy qr qw : Nat) (fu : Nat → Int32) (Oo X Y : Nat → Nat) (p9 a : Nat) (x y : Int32) (hn : n ≤ 12) (h_a : a < n) (h_p : p9 < 4) : Met l y_Sw_order w_Sw_order ({ frames := 5, cells := 0, slots := 0, locals := 113 }) (tH D cI cZ cJ cS aT ceT [.ref h0, .int (nI p9), .int (nI a), .int 0, .int x, .int y] sz [(h0, .inr (5, [.ref hm, .ref hh, .ref he, .ref ha, .ref hp, .int 1])), (hm, .inr (4, [.int (nI n), .int (mI S), .int (mI Ce), .ref qh, .ref qn])), (qn, .inl (cI, 12, .inl (fun j => mI (N j)))), (hh, .inr (3, [.int tn, .ref qu, .ref qo, .ref qx, .ref qy, .ref qr, .ref qw])), (qu, .inl (cI, 12, .inl fu)), (qo, .inl (cI, 12, .inl (fun j => nI (Oo j)))), (qx, .inl (cI, 12, .inl (fun j => nI (X j)))), (qy, .inl (cI, 12, .inl (fun j => nI (Y j))))]) (va_Qi (fun (r : Int32) (_ : Unit) => r = nI (odR (!decide (fu a = -1) && decide (fu a / 2 = nI p9)) (true))) (fun _ t => tB D (va_A [(h0, .inr (5, [.ref hm, .ref hh, .ref he, .ref ha, .ref hp, .int 1])), (hm, .inr (4, [.int (nI n), .int (mI S), .int (mI Ce), .ref qh, .ref qn])), (qn, .inl (cI, 12, .inl (fun j => mI (N j)))), (hh, .inr (3, [.int tn, .ref qu, .ref qo, .ref qx, .ref qy, .ref qr, .ref qw])), (qu, .inl (cI, 12, .inl fu)), (qo, .inl (cI, 12, .inl (fun j => nI (Oo j)))), (qx, .inl (cI, 12, .inl (fun j => nI (X j)))), (qy, .inl (cI, 12, .inl (fun j => nI (Y j))))] sz) [(h0, .inr (5, [.ref hm, .ref hh, .ref he, .ref ha, .ref hp, .int 1])), (hm, .inr (4, [.int (nI n), .int (mI S), .int (mI Ce), .ref qh, .ref qn])), (qn, .inl (cI, 12, .inl (fun j => mI (N j)))), (hh, .inr (3, [.int tn, .ref qu, .ref qo, .ref qx, .ref qy, .ref qr, .ref qw])), (qu, .inl (cI, 12, .inl fu)), (qo, .inl (cI, 12, .inl (fun j => nI (okN (odR (!decide (fu a = -1) && decide (fu a / 2 = nI p9)) (true)) Oo a 0 j)))), (qx, .inl (cI, 12, .inl (fun j => nI (okN (odR (!decide (fu a = -1) && decide (fu a / 2 = nI p9)) (true)) X a 0 j)))), (qy, .inl (cI, 12, .inl (fun j => nI (okN (odR (!decide (fu a = -1) && decide (fu a / 2 = nI p9)) (true)) Y a 0 j))))] t) (va_A [(h0, .inr (5, [.ref hm, .ref hh, .ref he, .ref ha, .ref hp, .int 1])), (hm, .inr (4, [.int (nI n), .int (mI S), .int (mI Ce), .ref qh, .ref qn])), (qn, .inl (cI, 12, .inl (fun j => mI (N j)))), (hh, .inr (3, [.int tn, .ref qu, .ref qo, .ref qx, .ref qy, .ref qr, .ref qw])), (qu, .inl (cI, 12, .inl fu)), (qo, .inl (cI, 12, .inl (fun j => nI (Oo j)))), (qx, .inl (cI, 12, .inl (fun j => nI (X j)))), (qy, .inl (cI, 12, .inl (fun j => nI (Y j))))] sz)) 0 0 (va_A [(h0, .inr (5, [.ref hm, .ref hh, .ref he, .ref ha, .ref hp, .int 1])), (hm, .inr (4, [.int (nI n), .int (mI S), .int (mI Ce), .ref qh, .ref qn])), (qn, .inl (cI, 12, .inl (fun j => mI (N j)))), (hh, .inr (3, [.int tn, .ref qu, .ref qo, .ref qx, .ref qy, .ref qr, .ref qw])), (qu, .inl (cI, 12, .inl fu)), (qo, .inl (cI, 12, .inl (fun j => nI (Oo j)))), (qx, .inl (cI, 12, .inl (fun j => nI (X j)))), (qy, .inl (cI, 12, .inl (fun j => nI (Y j))))] sz) := by
  refine Met.ofW (cc := b_Sw_order) (maxL := 6) (ret := (some .int)) (by decide) rfl ?_
  intro p e s m args below meth c s₁ B hml hv
  obtain ⟨rfl, hsz, hP, hK, hD0, hX⟩ := hv
  have hx := B.exec
  have hb := B.bytes
  have hr := B.returns
  have hts0 := atoms_spec (ws := w_Sw_order) B.pre
  have hts : ∀ w ∈ TB, w.before _ s = true := fun w h => hts0 w (List.mem_cons_of_mem _ h)
  have hown : s.vm.findClass R_Sw = some m.cls := findClass_of_methodNamed B.named
  have hlocks := B.notSynchronized
  subst hsz
  have hXl := tx_lt hX
  have hXn := tx_far hP hX
  have hD := hD0.self (sz := s.heap.size)
  generalize hAe : va_A [(h0, .inr (5, [.ref hm, .ref hh, .ref he, .ref ha, .ref hp, .int 1])), (hm, .inr (4, [.int (nI n), .int (mI S), .int (mI Ce), .ref qh, .ref qn])), (qn, .inl (cI, 12, .inl (fun j => mI (N j)))), (hh, .inr (3, [.int tn, .ref qu, .ref qo, .ref qx, .ref qy, .ref qr, .ref qw])), (qu, .inl (cI, 12, .inl fu)), (qo, .inl (cI, 12, .inl (fun j => nI (Oo j)))), (qx, .inl (cI, 12, .inl (fun j => nI (X j)))), (qy, .inl (cI, 12, .inl (fun j => nI (Y j))))] s.heap.size = A at hD hXn ⊢
  have hA : ∀ q : Nat, s.heap.size ≤ q → A q := fun q h => by rw [← hAe]; exact Or.inr h
  have hS : va_S A s.heap s.heap [] := va_S.rf
  have hXH : s.heap[aT]? = s.heap[aT]? := rfl
  have hl := lv_entry ([.ref h0, .int (nI p9), .int (nI a), .int 0, .int x, .int y]) (n := 6) (Nat.le_of_ble_eq_true rfl)
  rw [lg_entry_eq]
  generalize (lg_sl ([.ref h0, .int (nI p9), .int (nI a), .int 0, .int x, .int y]) ++ List.replicate (6 - (lg_sl ([.ref h0, .int (nI p9), .int (nI a), .int 0, .int x, .int y])).length) Slot.unset).toArray = ls at hl ⊢
  have hl : lv_has ls 6 [(0, .ref h0), (1, .int (nI p9)), (2, .int (nI a)), (3, .int 0), (4, .int x), (5, .int y)] := hl
  refine lv_iload_n hx hb d_Sw_order_0 rfl (lv_at hl 1 rfl) ?_
  have hPc := hP.sub (ws' := []) [] rfl
  refine vp_callSi (va_Run.run (va_runS (As := [.int (nI p9)]) (rest := []) ⟨hx, hb, hml, hown, hts⟩ (c_Sw_isPlayerY l D cI cZ cJ cS aT ceT  p9 h_p) (va_cwS 1 hts (tb_3 wd_299 wd_300 wd_1 (tb_c wd_301)) rfl rfl rfl ⟨by decide, by decide, by decide +kernel⟩ ⟨Nat.le_of_ble_eq_true rfl, Nat.le_of_ble_eq_true rfl⟩) (tP_S hK hX (hS.2.1 aT hXl hXn) hPc) rfl rfl hl.1 rfl (lv_room (Nat.le_of_ble_eq_true rfl)) d_Sw_order_1 ⟨Nat.le_of_ble_eq_true rfl, Nat.le_of_ble_eq_true rfl⟩)) (fun r1 hr9 => ?_)
  rw [hr9]
  refine lv_if_eq (tgt := 27) hx hb d_Sw_order_4 (by decide) (fun h0 => absurd h0 (by decide)) (fun _ => ?_)
  refine lv_aload_n hx hb d_Sw_order_7 rfl (lv_at hl 0 rfl) ?_
  refine va_get (D := D) (ci := 5) (v := .ref hm) (C := R_Sw) (T := T_Sw) (N := 6) hx hb hts hin_Sw hown hK hP 0 rfl rfl 0 (by decide) (hts _ wd_201) (fun _ h9 => h9) rfl d_Sw_order_8 ?_
  refine lv_iload_n hx hb d_Sw_order_11 rfl (lv_at hl 2 rfl) ?_
  have hPc := hP.sub (ws' := [(hm, .inr (4, [.int (nI n), .int (mI S), .int (mI Ce), .ref qh, .ref qn]))]) [1] rfl
  refine vp_callSi (va_Run.run (va_runV (As := [.int (nI a)]) (rest := []) ⟨hx, hb, hml, hown, hts⟩ (c_Wm_hasY l D cI cZ cJ cS aT ceT  hm qh qn n S Ce a hn h_a) (cwV 1 hts (tb_4 wd_224 wd_225 wd_226 wd_2 (tb_c wd_227)) rfl rfl rfl ⟨rfl, by decide, by decide, by decide +kernel⟩ ⟨Nat.le_of_ble_eq_true rfl, Nat.le_of_ble_eq_true rfl⟩) (tP_V hK hX (hS.2.1 aT hXl hXn) hPc (q := 0) rfl rfl) rfl rfl hl.1 rfl (lv_room (Nat.le_of_ble_eq_true rfl)) d_Sw_order_12 ⟨Nat.le_of_ble_eq_true rfl, Nat.le_of_ble_eq_true rfl⟩)) (fun r3 hr9 => ?_)
  rw [hr9]
  refine lv_if_eq (tgt := 27) hx hb d_Sw_order_15 (by decide) (fun h0 => absurd h0 (by decide)) (fun _ => ?_)
  refine lv_iload_n hx hb d_Sw_order_18 rfl (lv_at hl 3 rfl) ?_
  refine lv_if_lt (tgt := 27) hx hb d_Sw_order_19 (by decide) (fun h0 => absurd h0 (by decide)) (fun _ => ?_)
  refine lv_iload_n hx hb d_Sw_order_22 rfl (lv_at hl 3 rfl) ?_
  refine lv_iconst (v := 3) hx hb d_Sw_order_23 (by decide) ?_
  refine lv_icmp_le (tgt := 35) hx hb d_Sw_order_24 (by decide) (fun _ => ?_) (fun h0 => absurd (by decide) h0)
  refine lv_iload_n hx hb d_Sw_order_35 rfl (lv_at hl 3 rfl) ?_
  have hPc := hP.sub (ws' := []) [] rfl
  refine vp_callSi (va_Run.run (va_runS (As := [.int 0]) (rest := []) ⟨hx, hb, hml, hown, hts⟩ (c_Sw_hasX0 l D cI cZ cJ cS aT ceT   ) (va_cwS 1 hts (tb_3 wd_459 wd_460 wd_1 (tb_c wd_461)) rfl rfl rfl ⟨by decide, by decide, by decide +kernel⟩ ⟨Nat.le_of_ble_eq_true rfl, Nat.le_of_ble_eq_true rfl⟩) (tP_S hK hX (hS.2.1 aT hXl hXn) hPc) rfl rfl hl.1 rfl (lv_room (Nat.le_of_ble_eq_true rfl)) d_Sw_order_36 ⟨Nat.le_of_ble_eq_true rfl, Nat.le_of_ble_eq_true rfl⟩)) (fun r7 hr9 => ?_)
  rw [hr9]
  refine lv_if_eq (tgt := 54) hx hb d_Sw_order_39 (by decide) (fun _ => ?_) (fun h0 => absurd (by decide) h0)
  refine lv_iload_n hx hb d_Sw_order_54 rfl (lv_at hl 3 rfl) ?_
  have hPc := hP.sub (ws' := []) [] rfl
  refine vp_callSi (va_Run.run (va_runS (As := [.int 0]) (rest := []) ⟨hx, hb, hml, hown, hts⟩ (c_Sw_hasY0 l D cI cZ cJ cS aT ceT   ) (va_cwS 1 hts (tb_3 wd_462 wd_463 wd_1 (tb_c wd_464)) rfl rfl rfl ⟨by decide, by decide, by decide +kernel⟩ ⟨Nat.le_of_ble_eq_true rfl, Nat.le_of_ble_eq_true rfl⟩) (tP_S hK hX (hS.2.1 aT hXl hXn) hPc) rfl rfl hl.1 rfl (lv_room (Nat.le_of_ble_eq_true rfl)) d_Sw_order_55 ⟨Nat.le_of_ble_eq_true rfl, Nat.le_of_ble_eq_true rfl⟩)) (fun r9 hr9 => ?_)
  rw [hr9]
  refine lv_if_eq (tgt := 81) hx hb d_Sw_order_58 (by decide) (fun _ => ?_) (fun h0 => absurd (by decide) h0)
  refine lv_aload_n hx hb d_Sw_order_81 rfl (lv_at hl 0 rfl) ?_
  refine va_get (D := D) (ci := 5) (v := .int 1) (C := R_Sw) (T := T_Sw) (N := 6) hx hb hts hin_Sw hown hK hP 0 rfl rfl 5 (by decide) (hts _ wd_206) (fun _ h9 => h9) rfl d_Sw_order_82 ?_
  refine lv_iconst (v := 1) hx hb d_Sw_order_85 (by decide) ?_
  refine lv_icmp_eq (tgt := 97) hx hb d_Sw_order_86 (by decide) (fun _ => ?_) (fun h0 => absurd (by decide) h0)
  refine lv_aload_n hx hb d_Sw_order_97 rfl (lv_at hl 0 rfl) ?_
  refine va_get (D := D) (ci := 5) (v := .ref hh) (C := R_Sw) (T := T_Sw) (N := 6) hx hb hts hin_Sw hown hK hP 0 rfl rfl 1 (by decide) (hts _ wd_202) (fun _ h9 => h9) rfl d_Sw_order_98 ?_
  refine lv_iload_n hx hb d_Sw_order_101 rfl (lv_at hl 2 rfl) ?_
  have hPc := hP.sub (ws' := [(hh, .inr (3, [.int tn, .ref qu, .ref qo, .ref qx, .ref qy, .ref qr, .ref qw])), (qu, .inl (cI, 12, .inl fu))]) [3, 4] rfl
  refine vp_callSi (va_Run.run (va_runV (As := [.int (nI a)]) (rest := []) ⟨hx, hb, hml, hown, hts⟩ (c_Sh_hasUnitP l D cI cZ cJ cS aT ceT  hh tn qu qo qx qy qr qw fu a (Nat.lt_of_lt_of_le h_a hn)) (cwV 1 hts (tb_4 wd_286 wd_287 wd_288 wd_3 (tb_c wd_289)) rfl rfl rfl ⟨rfl, by decide, by decide, by decide +kernel⟩ ⟨Nat.le_of_ble_eq_true rfl, Nat.le_of_ble_eq_true rfl⟩) (tP_V hK hX (hS.2.1 aT hXl hXn) hPc (q := 0) rfl rfl) rfl rfl hl.1 rfl (lv_room (Nat.le_of_ble_eq_true rfl)) d_Sw_order_102 ⟨Nat.le_of_ble_eq_true rfl, Nat.le_of_ble_eq_true rfl⟩)) (fun r12 hr9 => ?_)
  rw [hr9]
  rcases bI_c (!decide (fu a = -1)) with ⟨hb14, e9⟩ | ⟨hb14, e9⟩
  · refine tr_top e9 ?_
    refine lv_if_eq (tgt := 120) hx hb d_Sw_order_105 (by decide) (fun h0 => absurd h0 (by decide)) (fun _ => ?_)
    refine lv_aload_n hx hb d_Sw_order_108 rfl (lv_at hl 0 rfl) ?_
    refine va_get (D := D) (ci := 5) (v := .ref hh) (C := R_Sw) (T := T_Sw) (N := 6) hx hb hts hin_Sw hown hK hP 0 rfl rfl 1 (by decide) (hts _ wd_202) (fun _ h9 => h9) rfl d_Sw_order_109 ?_
    refine lv_iload_n hx hb d_Sw_order_112 rfl (lv_at hl 2 rfl) ?_
    have hPc := hP.sub (ws' := [(hh, .inr (3, [.int tn, .ref qu, .ref qo, .ref qx, .ref qy, .ref qr, .ref qw])), (qu, .inl (cI, 12, .inl fu))]) [3, 4] rfl
    refine vp_callSi (va_Run.run (va_runV (As := [.int (nI a)]) (rest := []) ⟨hx, hb, hml, hown, hts⟩ (c_Sh_playerAtP l D cI cZ cJ cS aT ceT  hh tn qu qo qx qy qr qw fu a (Nat.lt_of_lt_of_le h_a hn)) (cwV 1 hts (tb_4 wd_465 wd_312 wd_313 wd_3 (tb_c wd_314)) rfl rfl rfl ⟨rfl, by decide, by decide, by decide +kernel⟩ ⟨Nat.le_of_ble_eq_true rfl, Nat.le_of_ble_eq_true rfl⟩) (tP_V hK hX (hS.2.1 aT hXl hXn) hPc (q := 0) rfl rfl) rfl rfl hl.1 rfl (lv_room (Nat.le_of_ble_eq_true rfl)) d_Sw_order_113 ⟨Nat.le_of_ble_eq_true rfl, Nat.le_of_ble_eq_true rfl⟩)) (fun r16 hr9 => ?_)
    rw [hr9]
    refine lv_iload_n hx hb d_Sw_order_116 rfl (lv_at hl 1 rfl) ?_
    refine lv_icmp_eq (tgt := 122) hx hb d_Sw_order_117 (by decide) (fun hc17 => ?_) (fun hc17 => ?_)
    · -- 117 taken
      refine lv_aload_n hx hb d_Sw_order_122 rfl (lv_at hl 0 rfl) ?_
      refine lv_iload_n hx hb d_Sw_order_123 rfl (lv_at hl 2 rfl) ?_
      refine lv_iload_n hx hb d_Sw_order_124 rfl (lv_at hl 3 rfl) ?_
      refine lv_iload hx hb d_Sw_order_125 (lv_at hl 4 rfl) ?_
      refine lv_iload hx hb d_Sw_order_127 (lv_at hl 5 rfl) ?_
      have hPc := hP.sub (ws' := [(h0, .inr (5, [.ref hm, .ref hh, .ref he, .ref ha, .ref hp, .int 1])), (hm, .inr (4, [.int (nI n), .int (mI S), .int (mI Ce), .ref qh, .ref qn])), (qn, .inl (cI, 12, .inl (fun j => mI (N j)))), (hh, .inr (3, [.int tn, .ref qu, .ref qo, .ref qx, .ref qy, .ref qr, .ref qw])), (qu, .inl (cI, 12, .inl fu))]) [0, 1, 2, 3, 4] rfl
      refine vp_callSi (va_Run.run (va_runV (As := [.int (nI a), .int 0, .int x, .int y]) (rest := []) ⟨hx, hb, hml, hown, hts⟩ (c_Sw_poss0 l D cI cZ cJ cS aT ceT  h0 hm hh he ha hp 1 qh qn n S Ce N tn qu qo qx qy qr qw fu x y a (Nat.lt_of_lt_of_le h_a hn)) (cwV 4 hts (tb_4 wd_466 wd_468 wp_3 wd_1 (tb_c wd_469)) rfl rfl rfl ⟨rfl, by decide, by decide, by decide +kernel⟩ ⟨Nat.le_of_ble_eq_true rfl, Nat.le_of_ble_eq_true rfl⟩) (tP_V hK hX (hS.2.1 aT hXl hXn) hPc (q := 0) rfl rfl) rfl rfl hl.1 rfl (lv_room (Nat.le_of_ble_eq_true rfl)) d_Sw_order_129 ⟨Nat.le_of_ble_eq_true rfl, Nat.le_of_ble_eq_true rfl⟩)) (fun r18 hr9 => ?_)
      rw [hr9]
      refine lv_if_ne (tgt := 137) hx hb d_Sw_order_132 (by decide) (fun _ => ?_) (fun h0 => absurd h0 (by decide))
      refine lv_aload_n hx hb d_Sw_order_137 rfl (lv_at hl 0 rfl) ?_
      refine va_get (D := D) (ci := 5) (v := .ref hh) (C := R_Sw) (T := T_Sw) (N := 6) hx hb hts hin_Sw hown hK hP 0 rfl rfl 1 (by decide) (hts _ wd_202) (fun _ h9 => h9) rfl d_Sw_order_138 ?_
      refine lv_iload_n hx hb d_Sw_order_141 rfl (lv_at hl 2 rfl) ?_
      refine lv_iload_n hx hb d_Sw_order_142 rfl (lv_at hl 3 rfl) ?_
      refine lv_iload_n hx hb d_Sw_order_143 rfl (lv_at hl 3 rfl) ?_
      have hPc := hP.sub (ws' := []) [] rfl
      refine vp_callSi (va_Run.run (va_runS (As := [.int 0]) (rest := [.int 0, .int (nI a), .ref hh]) ⟨hx, hb, hml, hown, hts⟩ (c_Sw_hasX0 l D cI cZ cJ cS aT ceT   ) (va_cwS 1 hts (tb_3 wd_459 wd_460 wd_1 (tb_c wd_461)) rfl rfl rfl ⟨by decide, by decide, by decide +kernel⟩ ⟨Nat.le_of_ble_eq_true rfl, Nat.le_of_ble_eq_true rfl⟩) (tP_S hK hX (hS.2.1 aT hXl hXn) hPc) rfl rfl hl.1 rfl (lv_room (Nat.le_of_ble_eq_true rfl)) d_Sw_order_144 ⟨Nat.le_of_ble_eq_true rfl, Nat.le_of_ble_eq_true rfl⟩)) (fun r20 hr9 => ?_)
      rw [hr9]
      refine lv_if_eq (tgt := 155) hx hb d_Sw_order_147 (by decide) (fun _ => ?_) (fun h0 => absurd (by decide) h0)
      refine lv_iconst (v := 0) hx hb d_Sw_order_155 (by decide) ?_
      refine lv_iload_n hx hb d_Sw_order_156 rfl (lv_at hl 3 rfl) ?_
      have hPc := hP.sub (ws' := []) [] rfl
      refine vp_callSi (va_Run.run (va_runS (As := [.int 0]) (rest := [.int 0, .int 0, .int (nI a), .ref hh]) ⟨hx, hb, hml, hown, hts⟩ (c_Sw_hasY0 l D cI cZ cJ cS aT ceT   ) (va_cwS 1 hts (tb_3 wd_462 wd_463 wd_1 (tb_c wd_464)) rfl rfl rfl ⟨by decide, by decide, by decide +kernel⟩ ⟨Nat.le_of_ble_eq_true rfl, Nat.le_of_ble_eq_true rfl⟩) (tP_S hK hX (hS.2.1 aT hXl hXn) hPc) rfl rfl hl.1 rfl (lv_room (Nat.le_of_ble_eq_true rfl)) d_Sw_order_157 ⟨Nat.le_of_ble_eq_true rfl, Nat.le_of_ble_eq_true rfl⟩)) (fun r22 hr9 => ?_)
      rw [hr9]
      refine lv_if_eq (tgt := 168) hx hb d_Sw_order_160 (by decide) (fun _ => ?_) (fun h0 => absurd (by decide) h0)
      refine lv_iconst (v := 0) hx hb d_Sw_order_168 (by decide) ?_
      have hPc := hP.sub (ws' := [(hh, .inr (3, [.int tn, .ref qu, .ref qo, .ref qx, .ref qy, .ref qr, .ref qw])), (qo, .inl (cI, 12, .inl (fun j => nI (Oo j)))), (qx, .inl (cI, 12, .inl (fun j => nI (X j)))), (qy, .inl (cI, 12, .inl (fun j => nI (Y j))))]) [3, 5, 6, 7] rfl
      have hDc := hD.sub (ws' := [(hh, .inr (3, [.int tn, .ref qu, .ref qo, .ref qx, .ref qy, .ref qr, .ref qw])), (qo, .inl (cI, 12, .inl (fun j => nI (Oo j)))), (qx, .inl (cI, 12, .inl (fun j => nI (X j)))), (qy, .inl (cI, 12, .inl (fun j => nI (Y j))))]) [3, 5, 6, 7] (by decide) rfl
      have hFc := va_free (wc := [(hh, .inr (3, [.int tn, .ref qu, .ref qo, .ref qx, .ref qy, .ref qr, .ref qw])), (qo, .inl (cI, 12, .inl (fun j => nI (Oo j)))), (qx, .inl (cI, 12, .inl (fun j => nI (X j)))), (qy, .inl (cI, 12, .inl (fun j => nI (Y j))))]) hD hS hA [3, 5, 6, 7] rfl
      refine va_callv (va_runV (As := [.int (nI a), .int 0, .int 0, .int 0]) (rest := []) ⟨hx, hb, hml, hown, hts⟩ (c_Sh_write l D cI cZ cJ cS aT ceT s.heap.size hh tn qu qo qx qy qr qw Oo X Y a (0 : Nat) (0 : Nat) (0 : Nat) (Nat.lt_of_lt_of_le h_a hn)) (cwV 4 hts (tb_4 wd_483 wd_484 wd_485 wd_3 (tb_c wd_486)) rfl rfl rfl ⟨rfl, by decide, by decide, by decide +kernel⟩ ⟨Nat.le_of_ble_eq_true rfl, Nat.le_of_ble_eq_true rfl⟩) (tH_V hK hX (hS.2.1 aT hXl hXn) hPc hDc (q := 0) rfl rfl) rfl rfl hl.1 rfl (lv_room (Nat.le_of_ble_eq_true rfl)) d_Sw_order_169 ⟨Nat.le_of_ble_eq_true rfl, Nat.le_of_ble_eq_true rfl⟩) hS (fun q _ h => hFc q h) hFc (fun u t H1 locs ht hvm h9 hB hz1 hk1 hS => ?_)
      obtain ⟨hP1, hD1⟩ := hB
      rw [ht] at hP1
      obtain ⟨hP, hD⟩ := va_join (wr := [(h0, .inr (5, [.ref hm, .ref hh, .ref he, .ref ha, .ref hp, .int 1])), (hm, .inr (4, [.int (nI n), .int (mI S), .int (mI Ce), .ref qh, .ref qn])), (qn, .inl (cI, 12, .inl (fun j => mI (N j)))), (qu, .inl (cI, 12, .inl fu))]) (w1 := [(hh, .inr (3, [.int tn, .ref qu, .ref qo, .ref qx, .ref qy, .ref qr, .ref qw])), (qo, .inl (cI, 12, .inl (fun j => nI (upN Oo a (0 : Nat) j)))), (qx, .inl (cI, 12, .inl (fun j => nI (upN X a (0 : Nat) j)))), (qy, .inl (cI, 12, .inl (fun j => nI (upN Y a (0 : Nat) j))))]) hP hD [3, 5, 6, 7] [0, 1, 2, 4] rfl rfl (by decide) (by decide) hk1 hFc hP1 hD1
      generalize H1 = H at hP hS ⊢
      have hP : va_P D vwCl [(h0, .inr (5, [.ref hm, .ref hh, .ref he, .ref ha, .ref hp, .int 1])), (hm, .inr (4, [.int (nI n), .int (mI S), .int (mI Ce), .ref qh, .ref qn])), (qn, .inl (cI, 12, .inl (fun j => mI (N j)))), (qu, .inl (cI, 12, .inl fu)), (hh, .inr (3, [.int tn, .ref qu, .ref qo, .ref qx, .ref qy, .ref qr, .ref qw])), (qo, .inl (cI, 12, .inl (fun j => nI (upN Oo a (0 : Nat) j)))), (qx, .inl (cI, 12, .inl (fun j => nI (upN X a (0 : Nat) j)))), (qy, .inl (cI, 12, .inl (fun j => nI (upN Y a (0 : Nat) j))))] H := hP
      have hD : va_D A [(h0, .inr (5, [.ref hm, .ref hh, .ref he, .ref ha, .ref hp, .int 1])), (hm, .inr (4, [.int (nI n), .int (mI S), .int (mI Ce), .ref qh, .ref qn])), (qn, .inl (cI, 12, .inl (fun j => mI (N j)))), (qu, .inl (cI, 12, .inl fu)), (hh, .inr (3, [.int tn, .ref qu, .ref qo, .ref qx, .ref qy, .ref qr, .ref qw])), (qo, .inl (cI, 12, .inl (fun j => nI (upN Oo a (0 : Nat) j)))), (qx, .inl (cI, 12, .inl (fun j => nI (upN X a (0 : Nat) j)))), (qy, .inl (cI, 12, .inl (fun j => nI (upN Y a (0 : Nat) j))))] := hD
      refine lv_iconst (v := 0) hx hb d_Sw_order_172 (by decide) ?_
      have hP9 := hP.sub (ws' := [(h0, .inr (5, [.ref hm, .ref hh, .ref he, .ref ha, .ref hp, .int 1])), (hm, .inr (4, [.int (nI n), .int (mI S), .int (mI Ce), .ref qh, .ref qn])), (qn, .inl (cI, 12, .inl (fun j => mI (N j)))), (hh, .inr (3, [.int tn, .ref qu, .ref qo, .ref qx, .ref qy, .ref qr, .ref qw])), (qu, .inl (cI, 12, .inl fu)), (qo, .inl (cI, 12, .inl (fun j => nI (upN Oo a (0 : Nat) j)))), (qx, .inl (cI, 12, .inl (fun j => nI (upN X a (0 : Nat) j)))), (qy, .inl (cI, 12, .inl (fun j => nI (upN Y a (0 : Nat) j))))]) [0, 1, 2, 4, 3, 5, 6, 7] rfl
      have hD9 := hD.sub (ws' := [(h0, .inr (5, [.ref hm, .ref hh, .ref he, .ref ha, .ref hp, .int 1])), (hm, .inr (4, [.int (nI n), .int (mI S), .int (mI Ce), .ref qh, .ref qn])), (qn, .inl (cI, 12, .inl (fun j => mI (N j)))), (hh, .inr (3, [.int tn, .ref qu, .ref qo, .ref qx, .ref qy, .ref qr, .ref qw])), (qu, .inl (cI, 12, .inl fu)), (qo, .inl (cI, 12, .inl (fun j => nI (upN Oo a (0 : Nat) j)))), (qx, .inl (cI, 12, .inl (fun j => nI (upN X a (0 : Nat) j)))), (qy, .inl (cI, 12, .inl (fun j => nI (upN Y a (0 : Nat) j))))]) [0, 1, 2, 4, 3, 5, 6, 7] (by decide) rfl
      have ej : odR (!decide (fu a = -1) && decide (fu a / 2 = nI p9)) (true) = 0 := by simp only [odR, hb14] <;> simp [hb14, hc17]
      have hP9 : va_P D vwCl [(h0, .inr (5, [.ref hm, .ref hh, .ref he, .ref ha, .ref hp, .int 1])), (hm, .inr (4, [.int (nI n), .int (mI S), .int (mI Ce), .ref qh, .ref qn])), (qn, .inl (cI, 12, .inl (fun j => mI (N j)))), (hh, .inr (3, [.int tn, .ref qu, .ref qo, .ref qx, .ref qy, .ref qr, .ref qw])), (qu, .inl (cI, 12, .inl fu)), (qo, .inl (cI, 12, .inl (fun j => nI (okN (odR (!decide (fu a = -1) && decide (fu a / 2 = nI p9)) (true)) Oo a 0 j)))), (qx, .inl (cI, 12, .inl (fun j => nI (okN (odR (!decide (fu a = -1) && decide (fu a / 2 = nI p9)) (true)) X a 0 j)))), (qy, .inl (cI, 12, .inl (fun j => nI (okN (odR (!decide (fu a = -1) && decide (fu a / 2 = nI p9)) (true)) Y a 0 j))))] H := by rw [ej]; exact hP9
      have hD9 : va_D A [(h0, .inr (5, [.ref hm, .ref hh, .ref he, .ref ha, .ref hp, .int 1])), (hm, .inr (4, [.int (nI n), .int (mI S), .int (mI Ce), .ref qh, .ref qn])), (qn, .inl (cI, 12, .inl (fun j => mI (N j)))), (hh, .inr (3, [.int tn, .ref qu, .ref qo, .ref qx, .ref qy, .ref qr, .ref qw])), (qu, .inl (cI, 12, .inl fu)), (qo, .inl (cI, 12, .inl (fun j => nI (okN (odR (!decide (fu a = -1) && decide (fu a / 2 = nI p9)) (true)) Oo a 0 j)))), (qx, .inl (cI, 12, .inl (fun j => nI (okN (odR (!decide (fu a = -1) && decide (fu a / 2 = nI p9)) (true)) X a 0 j)))), (qy, .inl (cI, 12, .inl (fun j => nI (okN (odR (!decide (fu a = -1) && decide (fu a / 2 = nI p9)) (true)) Y a 0 j))))] := by rw [ej]; exact hD9
      exact W.iret (v := 0) hx hb hr (fun t ht hW => ⟨⟨0, (), rfl, by rw [ej]; rfl, by rw [ht]; exact hP9, hD9⟩, hS.F ht⟩) hS.2.2 d_Sw_order_173
    · -- 117 not taken
      refine lv_iconst (v := 1) hx hb d_Sw_order_120 (by decide) ?_
      have hP9 := hP.sub (ws' := [(h0, .inr (5, [.ref hm, .ref hh, .ref he, .ref ha, .ref hp, .int 1])), (hm, .inr (4, [.int (nI n), .int (mI S), .int (mI Ce), .ref qh, .ref qn])), (qn, .inl (cI, 12, .inl (fun j => mI (N j)))), (hh, .inr (3, [.int tn, .ref qu, .ref qo, .ref qx, .ref qy, .ref qr, .ref qw])), (qu, .inl (cI, 12, .inl fu)), (qo, .inl (cI, 12, .inl (fun j => nI (Oo j)))), (qx, .inl (cI, 12, .inl (fun j => nI (X j)))), (qy, .inl (cI, 12, .inl (fun j => nI (Y j))))]) [0, 1, 2, 3, 4, 5, 6, 7] rfl
      have hD9 := hD.sub (ws' := [(h0, .inr (5, [.ref hm, .ref hh, .ref he, .ref ha, .ref hp, .int 1])), (hm, .inr (4, [.int (nI n), .int (mI S), .int (mI Ce), .ref qh, .ref qn])), (qn, .inl (cI, 12, .inl (fun j => mI (N j)))), (hh, .inr (3, [.int tn, .ref qu, .ref qo, .ref qx, .ref qy, .ref qr, .ref qw])), (qu, .inl (cI, 12, .inl fu)), (qo, .inl (cI, 12, .inl (fun j => nI (Oo j)))), (qx, .inl (cI, 12, .inl (fun j => nI (X j)))), (qy, .inl (cI, 12, .inl (fun j => nI (Y j))))]) [0, 1, 2, 3, 4, 5, 6, 7] (by decide) rfl
      have ej : odR (!decide (fu a = -1) && decide (fu a / 2 = nI p9)) (true) = 1 := by simp only [odR, hb14] <;> simp [hb14, hc17]
      have hP9 : va_P D vwCl [(h0, .inr (5, [.ref hm, .ref hh, .ref he, .ref ha, .ref hp, .int 1])), (hm, .inr (4, [.int (nI n), .int (mI S), .int (mI Ce), .ref qh, .ref qn])), (qn, .inl (cI, 12, .inl (fun j => mI (N j)))), (hh, .inr (3, [.int tn, .ref qu, .ref qo, .ref qx, .ref qy, .ref qr, .ref qw])), (qu, .inl (cI, 12, .inl fu)), (qo, .inl (cI, 12, .inl (fun j => nI (okN (odR (!decide (fu a = -1) && decide (fu a / 2 = nI p9)) (true)) Oo a 0 j)))), (qx, .inl (cI, 12, .inl (fun j => nI (okN (odR (!decide (fu a = -1) && decide (fu a / 2 = nI p9)) (true)) X a 0 j)))), (qy, .inl (cI, 12, .inl (fun j => nI (okN (odR (!decide (fu a = -1) && decide (fu a / 2 = nI p9)) (true)) Y a 0 j))))] s.heap := by rw [ej]; exact hP9
      have hD9 : va_D A [(h0, .inr (5, [.ref hm, .ref hh, .ref he, .ref ha, .ref hp, .int 1])), (hm, .inr (4, [.int (nI n), .int (mI S), .int (mI Ce), .ref qh, .ref qn])), (qn, .inl (cI, 12, .inl (fun j => mI (N j)))), (hh, .inr (3, [.int tn, .ref qu, .ref qo, .ref qx, .ref qy, .ref qr, .ref qw])), (qu, .inl (cI, 12, .inl fu)), (qo, .inl (cI, 12, .inl (fun j => nI (okN (odR (!decide (fu a = -1) && decide (fu a / 2 = nI p9)) (true)) Oo a 0 j)))), (qx, .inl (cI, 12, .inl (fun j => nI (okN (odR (!decide (fu a = -1) && decide (fu a / 2 = nI p9)) (true)) X a 0 j)))), (qy, .inl (cI, 12, .inl (fun j => nI (okN (odR (!decide (fu a = -1) && decide (fu a / 2 = nI p9)) (true)) Y a 0 j))))] := by rw [ej]; exact hD9
      exact W.iret (v := 1) hx hb hr (fun t ht hW => ⟨⟨1, (), rfl, by rw [ej]; rfl, by rw [ht]; exact hP9, hD9⟩, hS.F ht⟩) hS.2.2 d_Sw_order_121
  · refine tr_top e9 ?_
    refine lv_if_eq (tgt := 120) hx hb d_Sw_order_105 (by decide) (fun _ => ?_) (fun h0 => absurd (by decide) h0)
    refine lv_iconst (v := 1) hx hb d_Sw_order_120 (by decide) ?_
    have hP9 := hP.sub (ws' := [(h0, .inr (5, [.ref hm, .ref hh, .ref he, .ref ha, .ref hp, .int 1])), (hm, .inr (4, [.int (nI n), .int (mI S), .int (mI Ce), .ref qh, .ref qn])), (qn, .inl (cI, 12, .inl (fun j => mI (N j)))), (hh, .inr (3, [.int tn, .ref qu, .ref qo, .ref qx, .ref qy, .ref qr, .ref qw])), (qu, .inl (cI, 12, .inl fu)), (qo, .inl (cI, 12, .inl (fun j => nI (Oo j)))), (qx, .inl (cI, 12, .inl (fun j => nI (X j)))), (qy, .inl (cI, 12, .inl (fun j => nI (Y j))))]) [0, 1, 2, 3, 4, 5, 6, 7] rfl
    have hD9 := hD.sub (ws' := [(h0, .inr (5, [.ref hm, .ref hh, .ref he, .ref ha, .ref hp, .int 1])), (hm, .inr (4, [.int (nI n), .int (mI S), .int (mI Ce), .ref qh, .ref qn])), (qn, .inl (cI, 12, .inl (fun j => mI (N j)))), (hh, .inr (3, [.int tn, .ref qu, .ref qo, .ref qx, .ref qy, .ref qr, .ref qw])), (qu, .inl (cI, 12, .inl fu)), (qo, .inl (cI, 12, .inl (fun j => nI (Oo j)))), (qx, .inl (cI, 12, .inl (fun j => nI (X j)))), (qy, .inl (cI, 12, .inl (fun j => nI (Y j))))]) [0, 1, 2, 3, 4, 5, 6, 7] (by decide) rfl
    have ej : odR (!decide (fu a = -1) && decide (fu a / 2 = nI p9)) (true) = 1 := by simp only [odR, hb14] <;> simp [hb14]
    have hP9 : va_P D vwCl [(h0, .inr (5, [.ref hm, .ref hh, .ref he, .ref ha, .ref hp, .int 1])), (hm, .inr (4, [.int (nI n), .int (mI S), .int (mI Ce), .ref qh, .ref qn])), (qn, .inl (cI, 12, .inl (fun j => mI (N j)))), (hh, .inr (3, [.int tn, .ref qu, .ref qo, .ref qx, .ref qy, .ref qr, .ref qw])), (qu, .inl (cI, 12, .inl fu)), (qo, .inl (cI, 12, .inl (fun j => nI (okN (odR (!decide (fu a = -1) && decide (fu a / 2 = nI p9)) (true)) Oo a 0 j)))), (qx, .inl (cI, 12, .inl (fun j => nI (okN (odR (!decide (fu a = -1) && decide (fu a / 2 = nI p9)) (true)) X a 0 j)))), (qy, .inl (cI, 12, .inl (fun j => nI (okN (odR (!decide (fu a = -1) && decide (fu a / 2 = nI p9)) (true)) Y a 0 j))))] s.heap := by rw [ej]; exact hP9
    have hD9 : va_D A [(h0, .inr (5, [.ref hm, .ref hh, .ref he, .ref ha, .ref hp, .int 1])), (hm, .inr (4, [.int (nI n), .int (mI S), .int (mI Ce), .ref qh, .ref qn])), (qn, .inl (cI, 12, .inl (fun j => mI (N j)))), (hh, .inr (3, [.int tn, .ref qu, .ref qo, .ref qx, .ref qy, .ref qr, .ref qw])), (qu, .inl (cI, 12, .inl fu)), (qo, .inl (cI, 12, .inl (fun j => nI (okN (odR (!decide (fu a = -1) && decide (fu a / 2 = nI p9)) (true)) Oo a 0 j)))), (qx, .inl (cI, 12, .inl (fun j => nI (okN (odR (!decide (fu a = -1) && decide (fu a / 2 = nI p9)) (true)) X a 0 j)))), (qy, .inl (cI, 12, .inl (fun j => nI (okN (odR (!decide (fu a = -1) && decide (fu a / 2 = nI p9)) (true)) Y a 0 j))))] := by rw [ej]; exact hD9
    exact W.iret (v := 1) hx hb hr (fun t ht hW => ⟨⟨1, (), rfl, by rw [ej]; rfl, by rw [ht]; exact hP9, hD9⟩, hS.F ht⟩) hS.2.2 d_Sw_order_121


set_option maxHeartbeats 4000000 in
set_option maxRecDepth 100000 in
theorem c_Sw_order1 (l : Launch) (D : va_G) (cI cZ cJ cS : ClassId) (aT : Nat) (ceT : Cell) (sz : Nat) (h0 hm hh he ha hp : Nat) (qh qn n : Nat) (S Ce : Nat → Bool) (N : Nat → Nat → Bool) (tn : Int32) (qu qo qx qy qr qw : Nat) (fu : Nat → Int32) (Oo X Y : Nat → Nat) (p9 a x : Nat) (y : Int32) (hn : n ≤ 12) (h_a : a < n) (h_p : p9 < 4) (h_x : x < n) : Met l y_Sw_order w_Sw_order ({ frames := 5, cells := 0, slots := 0, locals := 113 }) (tH D cI cZ cJ cS aT ceT [.ref h0, .int (nI p9), .int (nI a), .int 1, .int (nI x), .int y] sz [(h0, .inr (5, [.ref hm, .ref hh, .ref he, .ref ha, .ref hp, .int 1])), (hm, .inr (4, [.int (nI n), .int (mI S), .int (mI Ce), .ref qh, .ref qn])), (qn, .inl (cI, 12, .inl (fun j => mI (N j)))), (hh, .inr (3, [.int tn, .ref qu, .ref qo, .ref qx, .ref qy, .ref qr, .ref qw])), (qu, .inl (cI, 12, .inl fu)), (qo, .inl (cI, 12, .inl (fun j => nI (Oo j)))), (qx, .inl (cI, 12, .inl (fun j => nI (X j)))), (qy, .inl (cI, 12, .inl (fun j => nI (Y j))))]) (va_Qi (fun (r : Int32) (_ : Unit) => r = nI (odR (!decide (fu a = -1) && decide (fu a / 2 = nI p9)) (pmC N S fu a x))) (fun _ t => tB D (va_A [(h0, .inr (5, [.ref hm, .ref hh, .ref he, .ref ha, .ref hp, .int 1])), (hm, .inr (4, [.int (nI n), .int (mI S), .int (mI Ce), .ref qh, .ref qn])), (qn, .inl (cI, 12, .inl (fun j => mI (N j)))), (hh, .inr (3, [.int tn, .ref qu, .ref qo, .ref qx, .ref qy, .ref qr, .ref qw])), (qu, .inl (cI, 12, .inl fu)), (qo, .inl (cI, 12, .inl (fun j => nI (Oo j)))), (qx, .inl (cI, 12, .inl (fun j => nI (X j)))), (qy, .inl (cI, 12, .inl (fun j => nI (Y j))))] sz) [(h0, .inr (5, [.ref hm, .ref hh, .ref he, .ref ha, .ref hp, .int 1])), (hm, .inr (4, [.int (nI n), .int (mI S), .int (mI Ce), .ref qh, .ref qn])), (qn, .inl (cI, 12, .inl (fun j => mI (N j)))), (hh, .inr (3, [.int tn, .ref qu, .ref qo, .ref qx, .ref qy, .ref qr, .ref qw])), (qu, .inl (cI, 12, .inl fu)), (qo, .inl (cI, 12, .inl (fun j => nI (okN (odR (!decide (fu a = -1) && decide (fu a / 2 = nI p9)) (pmC N S fu a x)) Oo a 1 j)))), (qx, .inl (cI, 12, .inl (fun j => nI (okN (odR (!decide (fu a = -1) && decide (fu a / 2 = nI p9)) (pmC N S fu a x)) X a x j)))), (qy, .inl (cI, 12, .inl (fun j => nI (okN (odR (!decide (fu a = -1) && decide (fu a / 2 = nI p9)) (pmC N S fu a x)) Y a 0 j))))] t) (va_A [(h0, .inr (5, [.ref hm, .ref hh, .ref he, .ref ha, .ref hp, .int 1])), (hm, .inr (4, [.int (nI n), .int (mI S), .int (mI Ce), .ref qh, .ref qn])), (qn, .inl (cI, 12, .inl (fun j => mI (N j)))), (hh, .inr (3, [.int tn, .ref qu, .ref qo, .ref qx, .ref qy, .ref qr, .ref qw])), (qu, .inl (cI, 12, .inl fu)), (qo, .inl (cI, 12, .inl (fun j => nI (Oo j)))), (qx, .inl (cI, 12, .inl (fun j => nI (X j)))), (qy, .inl (cI, 12, .inl (fun j => nI (Y j))))] sz)) 0 0 (va_A [(h0, .inr (5, [.ref hm, .ref hh, .ref he, .ref ha, .ref hp, .int 1])), (hm, .inr (4, [.int (nI n), .int (mI S), .int (mI Ce), .ref qh, .ref qn])), (qn, .inl (cI, 12, .inl (fun j => mI (N j)))), (hh, .inr (3, [.int tn, .ref qu, .ref qo, .ref qx, .ref qy, .ref qr, .ref qw])), (qu, .inl (cI, 12, .inl fu)), (qo, .inl (cI, 12, .inl (fun j => nI (Oo j)))), (qx, .inl (cI, 12, .inl (fun j => nI (X j)))), (qy, .inl (cI, 12, .inl (fun j => nI (Y j))))] sz) := by
  refine Met.ofW (cc := b_Sw_order) (maxL := 6) (ret := (some .int)) (by decide) rfl ?_
  intro p e s m args below meth c s₁ B hml hv
  obtain ⟨rfl, hsz, hP, hK, hD0, hX⟩ := hv
  have hx := B.exec
  have hb := B.bytes
  have hr := B.returns
  have hts0 := atoms_spec (ws := w_Sw_order) B.pre
  have hts : ∀ w ∈ TB, w.before _ s = true := fun w h => hts0 w (List.mem_cons_of_mem _ h)
  have hown : s.vm.findClass R_Sw = some m.cls := findClass_of_methodNamed B.named
  have hlocks := B.notSynchronized
  subst hsz
  have hXl := tx_lt hX
  have hXn := tx_far hP hX
  have hD := hD0.self (sz := s.heap.size)
  generalize hAe : va_A [(h0, .inr (5, [.ref hm, .ref hh, .ref he, .ref ha, .ref hp, .int 1])), (hm, .inr (4, [.int (nI n), .int (mI S), .int (mI Ce), .ref qh, .ref qn])), (qn, .inl (cI, 12, .inl (fun j => mI (N j)))), (hh, .inr (3, [.int tn, .ref qu, .ref qo, .ref qx, .ref qy, .ref qr, .ref qw])), (qu, .inl (cI, 12, .inl fu)), (qo, .inl (cI, 12, .inl (fun j => nI (Oo j)))), (qx, .inl (cI, 12, .inl (fun j => nI (X j)))), (qy, .inl (cI, 12, .inl (fun j => nI (Y j))))] s.heap.size = A at hD hXn ⊢
  have hA : ∀ q : Nat, s.heap.size ≤ q → A q := fun q h => by rw [← hAe]; exact Or.inr h
  have hS : va_S A s.heap s.heap [] := va_S.rf
  have hXH : s.heap[aT]? = s.heap[aT]? := rfl
  have hl := lv_entry ([.ref h0, .int (nI p9), .int (nI a), .int 1, .int (nI x), .int y]) (n := 6) (Nat.le_of_ble_eq_true rfl)
  rw [lg_entry_eq]
  generalize (lg_sl ([.ref h0, .int (nI p9), .int (nI a), .int 1, .int (nI x), .int y]) ++ List.replicate (6 - (lg_sl ([.ref h0, .int (nI p9), .int (nI a), .int 1, .int (nI x), .int y])).length) Slot.unset).toArray = ls at hl ⊢
  have hl : lv_has ls 6 [(0, .ref h0), (1, .int (nI p9)), (2, .int (nI a)), (3, .int 1), (4, .int (nI x)), (5, .int y)] := hl
  refine lv_iload_n hx hb d_Sw_order_0 rfl (lv_at hl 1 rfl) ?_
  have hPc := hP.sub (ws' := []) [] rfl
  refine vp_callSi (va_Run.run (va_runS (As := [.int (nI p9)]) (rest := []) ⟨hx, hb, hml, hown, hts⟩ (c_Sw_isPlayerY l D cI cZ cJ cS aT ceT  p9 h_p) (va_cwS 1 hts (tb_3 wd_299 wd_300 wd_1 (tb_c wd_301)) rfl rfl rfl ⟨by decide, by decide, by decide +kernel⟩ ⟨Nat.le_of_ble_eq_true rfl, Nat.le_of_ble_eq_true rfl⟩) (tP_S hK hX (hS.2.1 aT hXl hXn) hPc) rfl rfl hl.1 rfl (lv_room (Nat.le_of_ble_eq_true rfl)) d_Sw_order_1 ⟨Nat.le_of_ble_eq_true rfl, Nat.le_of_ble_eq_true rfl⟩)) (fun r1 hr9 => ?_)
  rw [hr9]
  refine lv_if_eq (tgt := 27) hx hb d_Sw_order_4 (by decide) (fun h0 => absurd h0 (by decide)) (fun _ => ?_)
  refine lv_aload_n hx hb d_Sw_order_7 rfl (lv_at hl 0 rfl) ?_
  refine va_get (D := D) (ci := 5) (v := .ref hm) (C := R_Sw) (T := T_Sw) (N := 6) hx hb hts hin_Sw hown hK hP 0 rfl rfl 0 (by decide) (hts _ wd_201) (fun _ h9 => h9) rfl d_Sw_order_8 ?_
  refine lv_iload_n hx hb d_Sw_order_11 rfl (lv_at hl 2 rfl) ?_
  have hPc := hP.sub (ws' := [(hm, .inr (4, [.int (nI n), .int (mI S), .int (mI Ce), .ref qh, .ref qn]))]) [1] rfl
  refine vp_callSi (va_Run.run (va_runV (As := [.int (nI a)]) (rest := []) ⟨hx, hb, hml, hown, hts⟩ (c_Wm_hasY l D cI cZ cJ cS aT ceT  hm qh qn n S Ce a hn h_a) (cwV 1 hts (tb_4 wd_224 wd_225 wd_226 wd_2 (tb_c wd_227)) rfl rfl rfl ⟨rfl, by decide, by decide, by decide +kernel⟩ ⟨Nat.le_of_ble_eq_true rfl, Nat.le_of_ble_eq_true rfl⟩) (tP_V hK hX (hS.2.1 aT hXl hXn) hPc (q := 0) rfl rfl) rfl rfl hl.1 rfl (lv_room (Nat.le_of_ble_eq_true rfl)) d_Sw_order_12 ⟨Nat.le_of_ble_eq_true rfl, Nat.le_of_ble_eq_true rfl⟩)) (fun r3 hr9 => ?_)
  rw [hr9]
  refine lv_if_eq (tgt := 27) hx hb d_Sw_order_15 (by decide) (fun h0 => absurd h0 (by decide)) (fun _ => ?_)
  refine lv_iload_n hx hb d_Sw_order_18 rfl (lv_at hl 3 rfl) ?_
  refine lv_if_lt (tgt := 27) hx hb d_Sw_order_19 (by decide) (fun h0 => absurd h0 (by decide)) (fun _ => ?_)
  refine lv_iload_n hx hb d_Sw_order_22 rfl (lv_at hl 3 rfl) ?_
  refine lv_iconst (v := 3) hx hb d_Sw_order_23 (by decide) ?_
  refine lv_icmp_le (tgt := 35) hx hb d_Sw_order_24 (by decide) (fun _ => ?_) (fun h0 => absurd (by decide) h0)
  refine lv_iload_n hx hb d_Sw_order_35 rfl (lv_at hl 3 rfl) ?_
  have hPc := hP.sub (ws' := []) [] rfl
  refine vp_callSi (va_Run.run (va_runS (As := [.int 1]) (rest := []) ⟨hx, hb, hml, hown, hts⟩ (c_Sw_hasX1 l D cI cZ cJ cS aT ceT   ) (va_cwS 1 hts (tb_3 wd_459 wd_460 wd_1 (tb_c wd_461)) rfl rfl rfl ⟨by decide, by decide, by decide +kernel⟩ ⟨Nat.le_of_ble_eq_true rfl, Nat.le_of_ble_eq_true rfl⟩) (tP_S hK hX (hS.2.1 aT hXl hXn) hPc) rfl rfl hl.1 rfl (lv_room (Nat.le_of_ble_eq_true rfl)) d_Sw_order_36 ⟨Nat.le_of_ble_eq_true rfl, Nat.le_of_ble_eq_true rfl⟩)) (fun r7 hr9 => ?_)
  rw [hr9]
  refine lv_if_eq (tgt := 54) hx hb d_Sw_order_39 (by decide) (fun h0 => absurd h0 (by decide)) (fun _ => ?_)
  refine lv_aload_n hx hb d_Sw_order_42 rfl (lv_at hl 0 rfl) ?_
  refine va_get (D := D) (ci := 5) (v := .ref hm) (C := R_Sw) (T := T_Sw) (N := 6) hx hb hts hin_Sw hown hK hP 0 rfl rfl 0 (by decide) (hts _ wd_201) (fun _ h9 => h9) rfl d_Sw_order_43 ?_
  refine lv_iload hx hb d_Sw_order_46 (lv_at hl 4 rfl) ?_
  have hPc := hP.sub (ws' := [(hm, .inr (4, [.int (nI n), .int (mI S), .int (mI Ce), .ref qh, .ref qn]))]) [1] rfl
  refine vp_callSi (va_Run.run (va_runV (As := [.int (nI x)]) (rest := []) ⟨hx, hb, hml, hown, hts⟩ (c_Wm_hasY l D cI cZ cJ cS aT ceT  hm qh qn n S Ce x hn h_x) (cwV 1 hts (tb_4 wd_224 wd_225 wd_226 wd_2 (tb_c wd_227)) rfl rfl rfl ⟨rfl, by decide, by decide, by decide +kernel⟩ ⟨Nat.le_of_ble_eq_true rfl, Nat.le_of_ble_eq_true rfl⟩) (tP_V hK hX (hS.2.1 aT hXl hXn) hPc (q := 0) rfl rfl) rfl rfl hl.1 rfl (lv_room (Nat.le_of_ble_eq_true rfl)) d_Sw_order_48 ⟨Nat.le_of_ble_eq_true rfl, Nat.le_of_ble_eq_true rfl⟩)) (fun r9 hr9 => ?_)
  rw [hr9]
  refine lv_if_eq (tgt := 73) hx hb d_Sw_order_51 (by decide) (fun h0 => absurd h0 (by decide)) (fun _ => ?_)
  refine lv_iload_n hx hb d_Sw_order_54 rfl (lv_at hl 3 rfl) ?_
  have hPc := hP.sub (ws' := []) [] rfl
  refine vp_callSi (va_Run.run (va_runS (As := [.int 1]) (rest := []) ⟨hx, hb, hml, hown, hts⟩ (c_Sw_hasY1 l D cI cZ cJ cS aT ceT   ) (va_cwS 1 hts (tb_3 wd_462 wd_463 wd_1 (tb_c wd_464)) rfl rfl rfl ⟨by decide, by decide, by decide +kernel⟩ ⟨Nat.le_of_ble_eq_true rfl, Nat.le_of_ble_eq_true rfl⟩) (tP_S hK hX (hS.2.1 aT hXl hXn) hPc) rfl rfl hl.1 rfl (lv_room (Nat.le_of_ble_eq_true rfl)) d_Sw_order_55 ⟨Nat.le_of_ble_eq_true rfl, Nat.le_of_ble_eq_true rfl⟩)) (fun r11 hr9 => ?_)
  rw [hr9]
  refine lv_if_eq (tgt := 81) hx hb d_Sw_order_58 (by decide) (fun _ => ?_) (fun h0 => absurd (by decide) h0)
  refine lv_aload_n hx hb d_Sw_order_81 rfl (lv_at hl 0 rfl) ?_
  refine va_get (D := D) (ci := 5) (v := .int 1) (C := R_Sw) (T := T_Sw) (N := 6) hx hb hts hin_Sw hown hK hP 0 rfl rfl 5 (by decide) (hts _ wd_206) (fun _ h9 => h9) rfl d_Sw_order_82 ?_
  refine lv_iconst (v := 1) hx hb d_Sw_order_85 (by decide) ?_
  refine lv_icmp_eq (tgt := 97) hx hb d_Sw_order_86 (by decide) (fun _ => ?_) (fun h0 => absurd (by decide) h0)
  refine lv_aload_n hx hb d_Sw_order_97 rfl (lv_at hl 0 rfl) ?_
  refine va_get (D := D) (ci := 5) (v := .ref hh) (C := R_Sw) (T := T_Sw) (N := 6) hx hb hts hin_Sw hown hK hP 0 rfl rfl 1 (by decide) (hts _ wd_202) (fun _ h9 => h9) rfl d_Sw_order_98 ?_
  refine lv_iload_n hx hb d_Sw_order_101 rfl (lv_at hl 2 rfl) ?_
  have hPc := hP.sub (ws' := [(hh, .inr (3, [.int tn, .ref qu, .ref qo, .ref qx, .ref qy, .ref qr, .ref qw])), (qu, .inl (cI, 12, .inl fu))]) [3, 4] rfl
  refine vp_callSi (va_Run.run (va_runV (As := [.int (nI a)]) (rest := []) ⟨hx, hb, hml, hown, hts⟩ (c_Sh_hasUnitP l D cI cZ cJ cS aT ceT  hh tn qu qo qx qy qr qw fu a (Nat.lt_of_lt_of_le h_a hn)) (cwV 1 hts (tb_4 wd_286 wd_287 wd_288 wd_3 (tb_c wd_289)) rfl rfl rfl ⟨rfl, by decide, by decide, by decide +kernel⟩ ⟨Nat.le_of_ble_eq_true rfl, Nat.le_of_ble_eq_true rfl⟩) (tP_V hK hX (hS.2.1 aT hXl hXn) hPc (q := 0) rfl rfl) rfl rfl hl.1 rfl (lv_room (Nat.le_of_ble_eq_true rfl)) d_Sw_order_102 ⟨Nat.le_of_ble_eq_true rfl, Nat.le_of_ble_eq_true rfl⟩)) (fun r14 hr9 => ?_)
  rw [hr9]
  rcases bI_c (!decide (fu a = -1)) with ⟨hb16, e9⟩ | ⟨hb16, e9⟩
  · refine tr_top e9 ?_
    refine lv_if_eq (tgt := 120) hx hb d_Sw_order_105 (by decide) (fun h0 => absurd h0 (by decide)) (fun _ => ?_)
    refine lv_aload_n hx hb d_Sw_order_108 rfl (lv_at hl 0 rfl) ?_
    refine va_get (D := D) (ci := 5) (v := .ref hh) (C := R_Sw) (T := T_Sw) (N := 6) hx hb hts hin_Sw hown hK hP 0 rfl rfl 1 (by decide) (hts _ wd_202) (fun _ h9 => h9) rfl d_Sw_order_109 ?_
    refine lv_iload_n hx hb d_Sw_order_112 rfl (lv_at hl 2 rfl) ?_
    have hPc := hP.sub (ws' := [(hh, .inr (3, [.int tn, .ref qu, .ref qo, .ref qx, .ref qy, .ref qr, .ref qw])), (qu, .inl (cI, 12, .inl fu))]) [3, 4] rfl
    refine vp_callSi (va_Run.run (va_runV (As := [.int (nI a)]) (rest := []) ⟨hx, hb, hml, hown, hts⟩ (c_Sh_playerAtP l D cI cZ cJ cS aT ceT  hh tn qu qo qx qy qr qw fu a (Nat.lt_of_lt_of_le h_a hn)) (cwV 1 hts (tb_4 wd_465 wd_312 wd_313 wd_3 (tb_c wd_314)) rfl rfl rfl ⟨rfl, by decide, by decide, by decide +kernel⟩ ⟨Nat.le_of_ble_eq_true rfl, Nat.le_of_ble_eq_true rfl⟩) (tP_V hK hX (hS.2.1 aT hXl hXn) hPc (q := 0) rfl rfl) rfl rfl hl.1 rfl (lv_room (Nat.le_of_ble_eq_true rfl)) d_Sw_order_113 ⟨Nat.le_of_ble_eq_true rfl, Nat.le_of_ble_eq_true rfl⟩)) (fun r18 hr9 => ?_)
    rw [hr9]
    refine lv_iload_n hx hb d_Sw_order_116 rfl (lv_at hl 1 rfl) ?_
    refine lv_icmp_eq (tgt := 122) hx hb d_Sw_order_117 (by decide) (fun hc19 => ?_) (fun hc19 => ?_)
    · -- 117 taken
      refine lv_aload_n hx hb d_Sw_order_122 rfl (lv_at hl 0 rfl) ?_
      refine lv_iload_n hx hb d_Sw_order_123 rfl (lv_at hl 2 rfl) ?_
      refine lv_iload_n hx hb d_Sw_order_124 rfl (lv_at hl 3 rfl) ?_
      refine lv_iload hx hb d_Sw_order_125 (lv_at hl 4 rfl) ?_
      refine lv_iload hx hb d_Sw_order_127 (lv_at hl 5 rfl) ?_
      have hPc := hP.sub (ws' := [(h0, .inr (5, [.ref hm, .ref hh, .ref he, .ref ha, .ref hp, .int 1])), (hm, .inr (4, [.int (nI n), .int (mI S), .int (mI Ce), .ref qh, .ref qn])), (qn, .inl (cI, 12, .inl (fun j => mI (N j)))), (hh, .inr (3, [.int tn, .ref qu, .ref qo, .ref qx, .ref qy, .ref qr, .ref qw])), (qu, .inl (cI, 12, .inl fu))]) [0, 1, 2, 3, 4] rfl
      refine vp_callSi (va_Run.run (va_runV (As := [.int (nI a), .int 1, .int (nI x), .int y]) (rest := []) ⟨hx, hb, hml, hown, hts⟩ (c_Sw_poss1 l D cI cZ cJ cS aT ceT  h0 hm hh he ha hp 1 qh qn n S Ce N tn qu qo qx qy qr qw fu y a x (Nat.lt_of_lt_of_le h_a hn) (Nat.lt_of_lt_of_le h_x hn)) (cwV 4 hts (tb_4 wd_466 wd_468 wp_3 wd_1 (tb_c wd_469)) rfl rfl rfl ⟨rfl, by decide, by decide, by decide +kernel⟩ ⟨Nat.le_of_ble_eq_true rfl, Nat.le_of_ble_eq_true rfl⟩) (tP_V hK hX (hS.2.1 aT hXl hXn) hPc (q := 0) rfl rfl) rfl rfl hl.1 rfl (lv_room (Nat.le_of_ble_eq_true rfl)) d_Sw_order_129 ⟨Nat.le_of_ble_eq_true rfl, Nat.le_of_ble_eq_true rfl⟩)) (fun r20 hr9 => ?_)
      rw [hr9]
      rcases bI_c (pmC N S fu a x) with ⟨hb22, e9⟩ | ⟨hb22, e9⟩
      · refine tr_top e9 ?_
        refine lv_if_ne (tgt := 137) hx hb d_Sw_order_132 (by decide) (fun _ => ?_) (fun h0 => absurd h0 (by decide))
        refine lv_aload_n hx hb d_Sw_order_137 rfl (lv_at hl 0 rfl) ?_
        refine va_get (D := D) (ci := 5) (v := .ref hh) (C := R_Sw) (T := T_Sw) (N := 6) hx hb hts hin_Sw hown hK hP 0 rfl rfl 1 (by decide) (hts _ wd_202) (fun _ h9 => h9) rfl d_Sw_order_138 ?_
        refine lv_iload_n hx hb d_Sw_order_141 rfl (lv_at hl 2 rfl) ?_
        refine lv_iload_n hx hb d_Sw_order_142 rfl (lv_at hl 3 rfl) ?_
        refine lv_iload_n hx hb d_Sw_order_143 rfl (lv_at hl 3 rfl) ?_
        have hPc := hP.sub (ws' := []) [] rfl
        refine vp_callSi (va_Run.run (va_runS (As := [.int 1]) (rest := [.int 1, .int (nI a), .ref hh]) ⟨hx, hb, hml, hown, hts⟩ (c_Sw_hasX1 l D cI cZ cJ cS aT ceT   ) (va_cwS 1 hts (tb_3 wd_459 wd_460 wd_1 (tb_c wd_461)) rfl rfl rfl ⟨by decide, by decide, by decide +kernel⟩ ⟨Nat.le_of_ble_eq_true rfl, Nat.le_of_ble_eq_true rfl⟩) (tP_S hK hX (hS.2.1 aT hXl hXn) hPc) rfl rfl hl.1 rfl (lv_room (Nat.le_of_ble_eq_true rfl)) d_Sw_order_144 ⟨Nat.le_of_ble_eq_true rfl, Nat.le_of_ble_eq_true rfl⟩)) (fun r24 hr9 => ?_)
        rw [hr9]
        refine lv_if_eq (tgt := 155) hx hb d_Sw_order_147 (by decide) (fun h0 => absurd h0 (by decide)) (fun _ => ?_)
        refine lv_iload hx hb d_Sw_order_150 (lv_at hl 4 rfl) ?_
        refine lv_goto (tgt := 156) hx hb d_Sw_order_152 (by decide) ?_
        refine lv_iload_n hx hb d_Sw_order_156 rfl (lv_at hl 3 rfl) ?_
        have hPc := hP.sub (ws' := []) [] rfl
        refine vp_callSi (va_Run.run (va_runS (As := [.int 1]) (rest := [.int (nI x), .int 1, .int (nI a), .ref hh]) ⟨hx, hb, hml, hown, hts⟩ (c_Sw_hasY1 l D cI cZ cJ cS aT ceT   ) (va_cwS 1 hts (tb_3 wd_462 wd_463 wd_1 (tb_c wd_464)) rfl rfl rfl ⟨by decide, by decide, by decide +kernel⟩ ⟨Nat.le_of_ble_eq_true rfl, Nat.le_of_ble_eq_true rfl⟩) (tP_S hK hX (hS.2.1 aT hXl hXn) hPc) rfl rfl hl.1 rfl (lv_room (Nat.le_of_ble_eq_true rfl)) d_Sw_order_157 ⟨Nat.le_of_ble_eq_true rfl, Nat.le_of_ble_eq_true rfl⟩)) (fun r26 hr9 => ?_)
        rw [hr9]
        refine lv_if_eq (tgt := 168) hx hb d_Sw_order_160 (by decide) (fun _ => ?_) (fun h0 => absurd (by decide) h0)
        refine lv_iconst (v := 0) hx hb d_Sw_order_168 (by decide) ?_
        have hPc := hP.sub (ws' := [(hh, .inr (3, [.int tn, .ref qu, .ref qo, .ref qx, .ref qy, .ref qr, .ref qw])), (qo, .inl (cI, 12, .inl (fun j => nI (Oo j)))), (qx, .inl (cI, 12, .inl (fun j => nI (X j)))), (qy, .inl (cI, 12, .inl (fun j => nI (Y j))))]) [3, 5, 6, 7] rfl
        have hDc := hD.sub (ws' := [(hh, .inr (3, [.int tn, .ref qu, .ref qo, .ref qx, .ref qy, .ref qr, .ref qw])), (qo, .inl (cI, 12, .inl (fun j => nI (Oo j)))), (qx, .inl (cI, 12, .inl (fun j => nI (X j)))), (qy, .inl (cI, 12, .inl (fun j => nI (Y j))))]) [3, 5, 6, 7] (by decide) rfl
        have hFc := va_free (wc := [(hh, .inr (3, [.int tn, .ref qu, .ref qo, .ref qx, .ref qy, .ref qr, .ref qw])), (qo, .inl (cI, 12, .inl (fun j => nI (Oo j)))), (qx, .inl (cI, 12, .inl (fun j => nI (X j)))), (qy, .inl (cI, 12, .inl (fun j => nI (Y j))))]) hD hS hA [3, 5, 6, 7] rfl
        refine va_callv (va_runV (As := [.int (nI a), .int 1, .int (nI x), .int 0]) (rest := []) ⟨hx, hb, hml, hown, hts⟩ (c_Sh_write l D cI cZ cJ cS aT ceT s.heap.size hh tn qu qo qx qy qr qw Oo X Y a (1 : Nat) x (0 : Nat) (Nat.lt_of_lt_of_le h_a hn)) (cwV 4 hts (tb_4 wd_483 wd_484 wd_485 wd_3 (tb_c wd_486)) rfl rfl rfl ⟨rfl, by decide, by decide, by decide +kernel⟩ ⟨Nat.le_of_ble_eq_true rfl, Nat.le_of_ble_eq_true rfl⟩) (tH_V hK hX (hS.2.1 aT hXl hXn) hPc hDc (q := 0) rfl rfl) rfl rfl hl.1 rfl (lv_room (Nat.le_of_ble_eq_true rfl)) d_Sw_order_169 ⟨Nat.le_of_ble_eq_true rfl, Nat.le_of_ble_eq_true rfl⟩) hS (fun q _ h => hFc q h) hFc (fun u t H1 locs ht hvm h9 hB hz1 hk1 hS => ?_)
        obtain ⟨hP1, hD1⟩ := hB
        rw [ht] at hP1
        obtain ⟨hP, hD⟩ := va_join (wr := [(h0, .inr (5, [.ref hm, .ref hh, .ref he, .ref ha, .ref hp, .int 1])), (hm, .inr (4, [.int (nI n), .int (mI S), .int (mI Ce), .ref qh, .ref qn])), (qn, .inl (cI, 12, .inl (fun j => mI (N j)))), (qu, .inl (cI, 12, .inl fu))]) (w1 := [(hh, .inr (3, [.int tn, .ref qu, .ref qo, .ref qx, .ref qy, .ref qr, .ref qw])), (qo, .inl (cI, 12, .inl (fun j => nI (upN Oo a (1 : Nat) j)))), (qx, .inl (cI, 12, .inl (fun j => nI (upN X a x j)))), (qy, .inl (cI, 12, .inl (fun j => nI (upN Y a (0 : Nat) j))))]) hP hD [3, 5, 6, 7] [0, 1, 2, 4] rfl rfl (by decide) (by decide) hk1 hFc hP1 hD1
        generalize H1 = H at hP hS ⊢
        have hP : va_P D vwCl [(h0, .inr (5, [.ref hm, .ref hh, .ref he, .ref ha, .ref hp, .int 1])), (hm, .inr (4, [.int (nI n), .int (mI S), .int (mI Ce), .ref qh, .ref qn])), (qn, .inl (cI, 12, .inl (fun j => mI (N j)))), (qu, .inl (cI, 12, .inl fu)), (hh, .inr (3, [.int tn, .ref qu, .ref qo, .ref qx, .ref qy, .ref qr, .ref qw])), (qo, .inl (cI, 12, .inl (fun j => nI (upN Oo a (1 : Nat) j)))), (qx, .inl (cI, 12, .inl (fun j => nI (upN X a x j)))), (qy, .inl (cI, 12, .inl (fun j => nI (upN Y a (0 : Nat) j))))] H := hP
        have hD : va_D A [(h0, .inr (5, [.ref hm, .ref hh, .ref he, .ref ha, .ref hp, .int 1])), (hm, .inr (4, [.int (nI n), .int (mI S), .int (mI Ce), .ref qh, .ref qn])), (qn, .inl (cI, 12, .inl (fun j => mI (N j)))), (qu, .inl (cI, 12, .inl fu)), (hh, .inr (3, [.int tn, .ref qu, .ref qo, .ref qx, .ref qy, .ref qr, .ref qw])), (qo, .inl (cI, 12, .inl (fun j => nI (upN Oo a (1 : Nat) j)))), (qx, .inl (cI, 12, .inl (fun j => nI (upN X a x j)))), (qy, .inl (cI, 12, .inl (fun j => nI (upN Y a (0 : Nat) j))))] := hD
        refine lv_iconst (v := 0) hx hb d_Sw_order_172 (by decide) ?_
        have hP9 := hP.sub (ws' := [(h0, .inr (5, [.ref hm, .ref hh, .ref he, .ref ha, .ref hp, .int 1])), (hm, .inr (4, [.int (nI n), .int (mI S), .int (mI Ce), .ref qh, .ref qn])), (qn, .inl (cI, 12, .inl (fun j => mI (N j)))), (hh, .inr (3, [.int tn, .ref qu, .ref qo, .ref qx, .ref qy, .ref qr, .ref qw])), (qu, .inl (cI, 12, .inl fu)), (qo, .inl (cI, 12, .inl (fun j => nI (upN Oo a (1 : Nat) j)))), (qx, .inl (cI, 12, .inl (fun j => nI (upN X a x j)))), (qy, .inl (cI, 12, .inl (fun j => nI (upN Y a (0 : Nat) j))))]) [0, 1, 2, 4, 3, 5, 6, 7] rfl
        have hD9 := hD.sub (ws' := [(h0, .inr (5, [.ref hm, .ref hh, .ref he, .ref ha, .ref hp, .int 1])), (hm, .inr (4, [.int (nI n), .int (mI S), .int (mI Ce), .ref qh, .ref qn])), (qn, .inl (cI, 12, .inl (fun j => mI (N j)))), (hh, .inr (3, [.int tn, .ref qu, .ref qo, .ref qx, .ref qy, .ref qr, .ref qw])), (qu, .inl (cI, 12, .inl fu)), (qo, .inl (cI, 12, .inl (fun j => nI (upN Oo a (1 : Nat) j)))), (qx, .inl (cI, 12, .inl (fun j => nI (upN X a x j)))), (qy, .inl (cI, 12, .inl (fun j => nI (upN Y a (0 : Nat) j))))]) [0, 1, 2, 4, 3, 5, 6, 7] (by decide) rfl
        have ej : odR (!decide (fu a = -1) && decide (fu a / 2 = nI p9)) (pmC N S fu a x) = 0 := by simp only [odR, hb16, hb22] <;> simp [hb16, hc19, hb22]
        have hP9 : va_P D vwCl [(h0, .inr (5, [.ref hm, .ref hh, .ref he, .ref ha, .ref hp, .int 1])), (hm, .inr (4, [.int (nI n), .int (mI S), .int (mI Ce), .ref qh, .ref qn])), (qn, .inl (cI, 12, .inl (fun j => mI (N j)))), (hh, .inr (3, [.int tn, .ref qu, .ref qo, .ref qx, .ref qy, .ref qr, .ref qw])), (qu, .inl (cI, 12, .inl fu)), (qo, .inl (cI, 12, .inl (fun j => nI (okN (odR (!decide (fu a = -1) && decide (fu a / 2 = nI p9)) (pmC N S fu a x)) Oo a 1 j)))), (qx, .inl (cI, 12, .inl (fun j => nI (okN (odR (!decide (fu a = -1) && decide (fu a / 2 = nI p9)) (pmC N S fu a x)) X a x j)))), (qy, .inl (cI, 12, .inl (fun j => nI (okN (odR (!decide (fu a = -1) && decide (fu a / 2 = nI p9)) (pmC N S fu a x)) Y a 0 j))))] H := by rw [ej]; exact hP9
        have hD9 : va_D A [(h0, .inr (5, [.ref hm, .ref hh, .ref he, .ref ha, .ref hp, .int 1])), (hm, .inr (4, [.int (nI n), .int (mI S), .int (mI Ce), .ref qh, .ref qn])), (qn, .inl (cI, 12, .inl (fun j => mI (N j)))), (hh, .inr (3, [.int tn, .ref qu, .ref qo, .ref qx, .ref qy, .ref qr, .ref qw])), (qu, .inl (cI, 12, .inl fu)), (qo, .inl (cI, 12, .inl (fun j => nI (okN (odR (!decide (fu a = -1) && decide (fu a / 2 = nI p9)) (pmC N S fu a x)) Oo a 1 j)))), (qx, .inl (cI, 12, .inl (fun j => nI (okN (odR (!decide (fu a = -1) && decide (fu a / 2 = nI p9)) (pmC N S fu a x)) X a x j)))), (qy, .inl (cI, 12, .inl (fun j => nI (okN (odR (!decide (fu a = -1) && decide (fu a / 2 = nI p9)) (pmC N S fu a x)) Y a 0 j))))] := by rw [ej]; exact hD9
        exact W.iret (v := 0) hx hb hr (fun t ht hW => ⟨⟨0, (), rfl, by rw [ej]; rfl, by rw [ht]; exact hP9, hD9⟩, hS.F ht⟩) hS.2.2 d_Sw_order_173
      · refine tr_top e9 ?_
        refine lv_if_ne (tgt := 137) hx hb d_Sw_order_132 (by decide) (fun h0 => absurd (by decide) h0) (fun _ => ?_)
        refine lv_iconst (v := 2) hx hb d_Sw_order_135 (by decide) ?_
        have hP9 := hP.sub (ws' := [(h0, .inr (5, [.ref hm, .ref hh, .ref he, .ref ha, .ref hp, .int 1])), (hm, .inr (4, [.int (nI n), .int (mI S), .int (mI Ce), .ref qh, .ref qn])), (qn, .inl (cI, 12, .inl (fun j => mI (N j)))), (hh, .inr (3, [.int tn, .ref qu, .ref qo, .ref qx, .ref qy, .ref qr, .ref qw])), (qu, .inl (cI, 12, .inl fu)), (qo, .inl (cI, 12, .inl (fun j => nI (Oo j)))), (qx, .inl (cI, 12, .inl (fun j => nI (X j)))), (qy, .inl (cI, 12, .inl (fun j => nI (Y j))))]) [0, 1, 2, 3, 4, 5, 6, 7] rfl
        have hD9 := hD.sub (ws' := [(h0, .inr (5, [.ref hm, .ref hh, .ref he, .ref ha, .ref hp, .int 1])), (hm, .inr (4, [.int (nI n), .int (mI S), .int (mI Ce), .ref qh, .ref qn])), (qn, .inl (cI, 12, .inl (fun j => mI (N j)))), (hh, .inr (3, [.int tn, .ref qu, .ref qo, .ref qx, .ref qy, .ref qr, .ref qw])), (qu, .inl (cI, 12, .inl fu)), (qo, .inl (cI, 12, .inl (fun j => nI (Oo j)))), (qx, .inl (cI, 12, .inl (fun j => nI (X j)))), (qy, .inl (cI, 12, .inl (fun j => nI (Y j))))]) [0, 1, 2, 3, 4, 5, 6, 7] (by decide) rfl
        have ej : odR (!decide (fu a = -1) && decide (fu a / 2 = nI p9)) (pmC N S fu a x) = 2 := by simp only [odR, hb16, hb22] <;> simp [hb16, hc19, hb22]
        have hP9 : va_P D vwCl [(h0, .inr (5, [.ref hm, .ref hh, .ref he, .ref ha, .ref hp, .int 1])), (hm, .inr (4, [.int (nI n), .int (mI S), .int (mI Ce), .ref qh, .ref qn])), (qn, .inl (cI, 12, .inl (fun j => mI (N j)))), (hh, .inr (3, [.int tn, .ref qu, .ref qo, .ref qx, .ref qy, .ref qr, .ref qw])), (qu, .inl (cI, 12, .inl fu)), (qo, .inl (cI, 12, .inl (fun j => nI (okN (odR (!decide (fu a = -1) && decide (fu a / 2 = nI p9)) (pmC N S fu a x)) Oo a 1 j)))), (qx, .inl (cI, 12, .inl (fun j => nI (okN (odR (!decide (fu a = -1) && decide (fu a / 2 = nI p9)) (pmC N S fu a x)) X a x j)))), (qy, .inl (cI, 12, .inl (fun j => nI (okN (odR (!decide (fu a = -1) && decide (fu a / 2 = nI p9)) (pmC N S fu a x)) Y a 0 j))))] s.heap := by rw [ej]; exact hP9
        have hD9 : va_D A [(h0, .inr (5, [.ref hm, .ref hh, .ref he, .ref ha, .ref hp, .int 1])), (hm, .inr (4, [.int (nI n), .int (mI S), .int (mI Ce), .ref qh, .ref qn])), (qn, .inl (cI, 12, .inl (fun j => mI (N j)))), (hh, .inr (3, [.int tn, .ref qu, .ref qo, .ref qx, .ref qy, .ref qr, .ref qw])), (qu, .inl (cI, 12, .inl fu)), (qo, .inl (cI, 12, .inl (fun j => nI (okN (odR (!decide (fu a = -1) && decide (fu a / 2 = nI p9)) (pmC N S fu a x)) Oo a 1 j)))), (qx, .inl (cI, 12, .inl (fun j => nI (okN (odR (!decide (fu a = -1) && decide (fu a / 2 = nI p9)) (pmC N S fu a x)) X a x j)))), (qy, .inl (cI, 12, .inl (fun j => nI (okN (odR (!decide (fu a = -1) && decide (fu a / 2 = nI p9)) (pmC N S fu a x)) Y a 0 j))))] := by rw [ej]; exact hD9
        exact W.iret (v := 2) hx hb hr (fun t ht hW => ⟨⟨2, (), rfl, by rw [ej]; rfl, by rw [ht]; exact hP9, hD9⟩, hS.F ht⟩) hS.2.2 d_Sw_order_136
    · -- 117 not taken
      refine lv_iconst (v := 1) hx hb d_Sw_order_120 (by decide) ?_
      have hP9 := hP.sub (ws' := [(h0, .inr (5, [.ref hm, .ref hh, .ref he, .ref ha, .ref hp, .int 1])), (hm, .inr (4, [.int (nI n), .int (mI S), .int (mI Ce), .ref qh, .ref qn])), (qn, .inl (cI, 12, .inl (fun j => mI (N j)))), (hh, .inr (3, [.int tn, .ref qu, .ref qo, .ref qx, .ref qy, .ref qr, .ref qw])), (qu, .inl (cI, 12, .inl fu)), (qo, .inl (cI, 12, .inl (fun j => nI (Oo j)))), (qx, .inl (cI, 12, .inl (fun j => nI (X j)))), (qy, .inl (cI, 12, .inl (fun j => nI (Y j))))]) [0, 1, 2, 3, 4, 5, 6, 7] rfl
      have hD9 := hD.sub (ws' := [(h0, .inr (5, [.ref hm, .ref hh, .ref he, .ref ha, .ref hp, .int 1])), (hm, .inr (4, [.int (nI n), .int (mI S), .int (mI Ce), .ref qh, .ref qn])), (qn, .inl (cI, 12, .inl (fun j => mI (N j)))), (hh, .inr (3, [.int tn, .ref qu, .ref qo, .ref qx, .ref qy, .ref qr, .ref qw])), (qu, .inl (cI, 12, .inl fu)), (qo, .inl (cI, 12, .inl (fun j => nI (Oo j)))), (qx, .inl (cI, 12, .inl (fun j => nI (X j)))), (qy, .inl (cI, 12, .inl (fun j => nI (Y j))))]) [0, 1, 2, 3, 4, 5, 6, 7] (by decide) rfl
      have ej : odR (!decide (fu a = -1) && decide (fu a / 2 = nI p9)) (pmC N S fu a x) = 1 := by simp only [odR, hb16] <;> simp [hb16, hc19]
      have hP9 : va_P D vwCl [(h0, .inr (5, [.ref hm, .ref hh, .ref he, .ref ha, .ref hp, .int 1])), (hm, .inr (4, [.int (nI n), .int (mI S), .int (mI Ce), .ref qh, .ref qn])), (qn, .inl (cI, 12, .inl (fun j => mI (N j)))), (hh, .inr (3, [.int tn, .ref qu, .ref qo, .ref qx, .ref qy, .ref qr, .ref qw])), (qu, .inl (cI, 12, .inl fu)), (qo, .inl (cI, 12, .inl (fun j => nI (okN (odR (!decide (fu a = -1) && decide (fu a / 2 = nI p9)) (pmC N S fu a x)) Oo a 1 j)))), (qx, .inl (cI, 12, .inl (fun j => nI (okN (odR (!decide (fu a = -1) && decide (fu a / 2 = nI p9)) (pmC N S fu a x)) X a x j)))), (qy, .inl (cI, 12, .inl (fun j => nI (okN (odR (!decide (fu a = -1) && decide (fu a / 2 = nI p9)) (pmC N S fu a x)) Y a 0 j))))] s.heap := by rw [ej]; exact hP9
      have hD9 : va_D A [(h0, .inr (5, [.ref hm, .ref hh, .ref he, .ref ha, .ref hp, .int 1])), (hm, .inr (4, [.int (nI n), .int (mI S), .int (mI Ce), .ref qh, .ref qn])), (qn, .inl (cI, 12, .inl (fun j => mI (N j)))), (hh, .inr (3, [.int tn, .ref qu, .ref qo, .ref qx, .ref qy, .ref qr, .ref qw])), (qu, .inl (cI, 12, .inl fu)), (qo, .inl (cI, 12, .inl (fun j => nI (okN (odR (!decide (fu a = -1) && decide (fu a / 2 = nI p9)) (pmC N S fu a x)) Oo a 1 j)))), (qx, .inl (cI, 12, .inl (fun j => nI (okN (odR (!decide (fu a = -1) && decide (fu a / 2 = nI p9)) (pmC N S fu a x)) X a x j)))), (qy, .inl (cI, 12, .inl (fun j => nI (okN (odR (!decide (fu a = -1) && decide (fu a / 2 = nI p9)) (pmC N S fu a x)) Y a 0 j))))] := by rw [ej]; exact hD9
      exact W.iret (v := 1) hx hb hr (fun t ht hW => ⟨⟨1, (), rfl, by rw [ej]; rfl, by rw [ht]; exact hP9, hD9⟩, hS.F ht⟩) hS.2.2 d_Sw_order_121
  · refine tr_top e9 ?_
    refine lv_if_eq (tgt := 120) hx hb d_Sw_order_105 (by decide) (fun _ => ?_) (fun h0 => absurd (by decide) h0)
    refine lv_iconst (v := 1) hx hb d_Sw_order_120 (by decide) ?_
    have hP9 := hP.sub (ws' := [(h0, .inr (5, [.ref hm, .ref hh, .ref he, .ref ha, .ref hp, .int 1])), (hm, .inr (4, [.int (nI n), .int (mI S), .int (mI Ce), .ref qh, .ref qn])), (qn, .inl (cI, 12, .inl (fun j => mI (N j)))), (hh, .inr (3, [.int tn, .ref qu, .ref qo, .ref qx, .ref qy, .ref qr, .ref qw])), (qu, .inl (cI, 12, .inl fu)), (qo, .inl (cI, 12, .inl (fun j => nI (Oo j)))), (qx, .inl (cI, 12, .inl (fun j => nI (X j)))), (qy, .inl (cI, 12, .inl (fun j => nI (Y j))))]) [0, 1, 2, 3, 4, 5, 6, 7] rfl
    have hD9 := hD.sub (ws' := [(h0, .inr (5, [.ref hm, .ref hh, .ref he, .ref ha, .ref hp, .int 1])), (hm, .inr (4, [.int (nI n), .int (mI S), .int (mI Ce), .ref qh, .ref qn])), (qn, .inl (cI, 12, .inl (fun j => mI (N j)))), (hh, .inr (3, [.int tn, .ref qu, .ref qo, .ref qx, .ref qy, .ref qr, .ref qw])), (qu, .inl (cI, 12, .inl fu)), (qo, .inl (cI, 12, .inl (fun j => nI (Oo j)))), (qx, .inl (cI, 12, .inl (fun j => nI (X j)))), (qy, .inl (cI, 12, .inl (fun j => nI (Y j))))]) [0, 1, 2, 3, 4, 5, 6, 7] (by decide) rfl
    have ej : odR (!decide (fu a = -1) && decide (fu a / 2 = nI p9)) (pmC N S fu a x) = 1 := by simp only [odR, hb16] <;> simp [hb16]
    have hP9 : va_P D vwCl [(h0, .inr (5, [.ref hm, .ref hh, .ref he, .ref ha, .ref hp, .int 1])), (hm, .inr (4, [.int (nI n), .int (mI S), .int (mI Ce), .ref qh, .ref qn])), (qn, .inl (cI, 12, .inl (fun j => mI (N j)))), (hh, .inr (3, [.int tn, .ref qu, .ref qo, .ref qx, .ref qy, .ref qr, .ref qw])), (qu, .inl (cI, 12, .inl fu)), (qo, .inl (cI, 12, .inl (fun j => nI (okN (odR (!decide (fu a = -1) && decide (fu a / 2 = nI p9)) (pmC N S fu a x)) Oo a 1 j)))), (qx, .inl (cI, 12, .inl (fun j => nI (okN (odR (!decide (fu a = -1) && decide (fu a / 2 = nI p9)) (pmC N S fu a x)) X a x j)))), (qy, .inl (cI, 12, .inl (fun j => nI (okN (odR (!decide (fu a = -1) && decide (fu a / 2 = nI p9)) (pmC N S fu a x)) Y a 0 j))))] s.heap := by rw [ej]; exact hP9
    have hD9 : va_D A [(h0, .inr (5, [.ref hm, .ref hh, .ref he, .ref ha, .ref hp, .int 1])), (hm, .inr (4, [.int (nI n), .int (mI S), .int (mI Ce), .ref qh, .ref qn])), (qn, .inl (cI, 12, .inl (fun j => mI (N j)))), (hh, .inr (3, [.int tn, .ref qu, .ref qo, .ref qx, .ref qy, .ref qr, .ref qw])), (qu, .inl (cI, 12, .inl fu)), (qo, .inl (cI, 12, .inl (fun j => nI (okN (odR (!decide (fu a = -1) && decide (fu a / 2 = nI p9)) (pmC N S fu a x)) Oo a 1 j)))), (qx, .inl (cI, 12, .inl (fun j => nI (okN (odR (!decide (fu a = -1) && decide (fu a / 2 = nI p9)) (pmC N S fu a x)) X a x j)))), (qy, .inl (cI, 12, .inl (fun j => nI (okN (odR (!decide (fu a = -1) && decide (fu a / 2 = nI p9)) (pmC N S fu a x)) Y a 0 j))))] := by rw [ej]; exact hD9
    exact W.iret (v := 1) hx hb hr (fun t ht hW => ⟨⟨1, (), rfl, by rw [ej]; rfl, by rw [ht]; exact hP9, hD9⟩, hS.F ht⟩) hS.2.2 d_Sw_order_121


set_option maxHeartbeats 4000000 in
set_option maxRecDepth 100000 in
theorem c_Sw_order2 (l : Launch) (D : va_G) (cI cZ cJ cS : ClassId) (aT : Nat) (ceT : Cell) (sz : Nat) (h0 hm hh he ha hp : Nat) (qh qn n : Nat) (S Ce : Nat → Bool) (N : Nat → Nat → Bool) (tn : Int32) (qu qo qx qy qr qw : Nat) (fu : Nat → Int32) (Oo X Y : Nat → Nat) (p9 a x y : Nat) (hn : n ≤ 12) (h_a : a < n) (h_p : p9 < 4) (h_x : x < n) (h_y : y < n) : Met l y_Sw_order w_Sw_order ({ frames := 5, cells := 0, slots := 0, locals := 113 }) (tH D cI cZ cJ cS aT ceT [.ref h0, .int (nI p9), .int (nI a), .int 2, .int (nI x), .int (nI y)] sz [(h0, .inr (5, [.ref hm, .ref hh, .ref he, .ref ha, .ref hp, .int 1])), (hm, .inr (4, [.int (nI n), .int (mI S), .int (mI Ce), .ref qh, .ref qn])), (qn, .inl (cI, 12, .inl (fun j => mI (N j)))), (hh, .inr (3, [.int tn, .ref qu, .ref qo, .ref qx, .ref qy, .ref qr, .ref qw])), (qu, .inl (cI, 12, .inl fu)), (qo, .inl (cI, 12, .inl (fun j => nI (Oo j)))), (qx, .inl (cI, 12, .inl (fun j => nI (X j)))), (qy, .inl (cI, 12, .inl (fun j => nI (Y j))))]) (va_Qi (fun (r : Int32) (_ : Unit) => r = nI (odR (!decide (fu a = -1) && decide (fu a / 2 = nI p9)) (psuC N S fu a x y))) (fun _ t => tB D (va_A [(h0, .inr (5, [.ref hm, .ref hh, .ref he, .ref ha, .ref hp, .int 1])), (hm, .inr (4, [.int (nI n), .int (mI S), .int (mI Ce), .ref qh, .ref qn])), (qn, .inl (cI, 12, .inl (fun j => mI (N j)))), (hh, .inr (3, [.int tn, .ref qu, .ref qo, .ref qx, .ref qy, .ref qr, .ref qw])), (qu, .inl (cI, 12, .inl fu)), (qo, .inl (cI, 12, .inl (fun j => nI (Oo j)))), (qx, .inl (cI, 12, .inl (fun j => nI (X j)))), (qy, .inl (cI, 12, .inl (fun j => nI (Y j))))] sz) [(h0, .inr (5, [.ref hm, .ref hh, .ref he, .ref ha, .ref hp, .int 1])), (hm, .inr (4, [.int (nI n), .int (mI S), .int (mI Ce), .ref qh, .ref qn])), (qn, .inl (cI, 12, .inl (fun j => mI (N j)))), (hh, .inr (3, [.int tn, .ref qu, .ref qo, .ref qx, .ref qy, .ref qr, .ref qw])), (qu, .inl (cI, 12, .inl fu)), (qo, .inl (cI, 12, .inl (fun j => nI (okN (odR (!decide (fu a = -1) && decide (fu a / 2 = nI p9)) (psuC N S fu a x y)) Oo a 2 j)))), (qx, .inl (cI, 12, .inl (fun j => nI (okN (odR (!decide (fu a = -1) && decide (fu a / 2 = nI p9)) (psuC N S fu a x y)) X a x j)))), (qy, .inl (cI, 12, .inl (fun j => nI (okN (odR (!decide (fu a = -1) && decide (fu a / 2 = nI p9)) (psuC N S fu a x y)) Y a y j))))] t) (va_A [(h0, .inr (5, [.ref hm, .ref hh, .ref he, .ref ha, .ref hp, .int 1])), (hm, .inr (4, [.int (nI n), .int (mI S), .int (mI Ce), .ref qh, .ref qn])), (qn, .inl (cI, 12, .inl (fun j => mI (N j)))), (hh, .inr (3, [.int tn, .ref qu, .ref qo, .ref qx, .ref qy, .ref qr, .ref qw])), (qu, .inl (cI, 12, .inl fu)), (qo, .inl (cI, 12, .inl (fun j => nI (Oo j)))), (qx, .inl (cI, 12, .inl (fun j => nI (X j)))), (qy, .inl (cI, 12, .inl (fun j => nI (Y j))))] sz)) 0 0 (va_A [(h0, .inr (5, [.ref hm, .ref hh, .ref he, .ref ha, .ref hp, .int 1])), (hm, .inr (4, [.int (nI n), .int (mI S), .int (mI Ce), .ref qh, .ref qn])), (qn, .inl (cI, 12, .inl (fun j => mI (N j)))), (hh, .inr (3, [.int tn, .ref qu, .ref qo, .ref qx, .ref qy, .ref qr, .ref qw])), (qu, .inl (cI, 12, .inl fu)), (qo, .inl (cI, 12, .inl (fun j => nI (Oo j)))), (qx, .inl (cI, 12, .inl (fun j => nI (X j)))), (qy, .inl (cI, 12, .inl (fun j => nI (Y j))))] sz) := by
  refine Met.ofW (cc := b_Sw_order) (maxL := 6) (ret := (some .int)) (by decide) rfl ?_
  intro p e s m args below meth c s₁ B hml hv
  obtain ⟨rfl, hsz, hP, hK, hD0, hX⟩ := hv
  have hx := B.exec
  have hb := B.bytes
  have hr := B.returns
  have hts0 := atoms_spec (ws := w_Sw_order) B.pre
  have hts : ∀ w ∈ TB, w.before _ s = true := fun w h => hts0 w (List.mem_cons_of_mem _ h)
  have hown : s.vm.findClass R_Sw = some m.cls := findClass_of_methodNamed B.named
  have hlocks := B.notSynchronized
  subst hsz
  have hXl := tx_lt hX
  have hXn := tx_far hP hX
  have hD := hD0.self (sz := s.heap.size)
  generalize hAe : va_A [(h0, .inr (5, [.ref hm, .ref hh, .ref he, .ref ha, .ref hp, .int 1])), (hm, .inr (4, [.int (nI n), .int (mI S), .int (mI Ce), .ref qh, .ref qn])), (qn, .inl (cI, 12, .inl (fun j => mI (N j)))), (hh, .inr (3, [.int tn, .ref qu, .ref qo, .ref qx, .ref qy, .ref qr, .ref qw])), (qu, .inl (cI, 12, .inl fu)), (qo, .inl (cI, 12, .inl (fun j => nI (Oo j)))), (qx, .inl (cI, 12, .inl (fun j => nI (X j)))), (qy, .inl (cI, 12, .inl (fun j => nI (Y j))))] s.heap.size = A at hD hXn ⊢
  have hA : ∀ q : Nat, s.heap.size ≤ q → A q := fun q h => by rw [← hAe]; exact Or.inr h
  have hS : va_S A s.heap s.heap [] := va_S.rf
  have hXH : s.heap[aT]? = s.heap[aT]? := rfl
  have hl := lv_entry ([.ref h0, .int (nI p9), .int (nI a), .int 2, .int (nI x), .int (nI y)]) (n := 6) (Nat.le_of_ble_eq_true rfl)
  rw [lg_entry_eq]
  generalize (lg_sl ([.ref h0, .int (nI p9), .int (nI a), .int 2, .int (nI x), .int (nI y)]) ++ List.replicate (6 - (lg_sl ([.ref h0, .int (nI p9), .int (nI a), .int 2, .int (nI x), .int (nI y)])).length) Slot.unset).toArray = ls at hl ⊢
  have hl : lv_has ls 6 [(0, .ref h0), (1, .int (nI p9)), (2, .int (nI a)), (3, .int 2), (4, .int (nI x)), (5, .int (nI y))] := hl
  refine lv_iload_n hx hb d_Sw_order_0 rfl (lv_at hl 1 rfl) ?_
  have hPc := hP.sub (ws' := []) [] rfl
  refine vp_callSi (va_Run.run (va_runS (As := [.int (nI p9)]) (rest := []) ⟨hx, hb, hml, hown, hts⟩ (c_Sw_isPlayerY l D cI cZ cJ cS aT ceT  p9 h_p) (va_cwS 1 hts (tb_3 wd_299 wd_300 wd_1 (tb_c wd_301)) rfl rfl rfl ⟨by decide, by decide, by decide +kernel⟩ ⟨Nat.le_of_ble_eq_true rfl, Nat.le_of_ble_eq_true rfl⟩) (tP_S hK hX (hS.2.1 aT hXl hXn) hPc) rfl rfl hl.1 rfl (lv_room (Nat.le_of_ble_eq_true rfl)) d_Sw_order_1 ⟨Nat.le_of_ble_eq_true rfl, Nat.le_of_ble_eq_true rfl⟩)) (fun r1 hr9 => ?_)
  rw [hr9]
  refine lv_if_eq (tgt := 27) hx hb d_Sw_order_4 (by decide) (fun h0 => absurd h0 (by decide)) (fun _ => ?_)
  refine lv_aload_n hx hb d_Sw_order_7 rfl (lv_at hl 0 rfl) ?_
  refine va_get (D := D) (ci := 5) (v := .ref hm) (C := R_Sw) (T := T_Sw) (N := 6) hx hb hts hin_Sw hown hK hP 0 rfl rfl 0 (by decide) (hts _ wd_201) (fun _ h9 => h9) rfl d_Sw_order_8 ?_
  refine lv_iload_n hx hb d_Sw_order_11 rfl (lv_at hl 2 rfl) ?_
  have hPc := hP.sub (ws' := [(hm, .inr (4, [.int (nI n), .int (mI S), .int (mI Ce), .ref qh, .ref qn]))]) [1] rfl
  refine vp_callSi (va_Run.run (va_runV (As := [.int (nI a)]) (rest := []) ⟨hx, hb, hml, hown, hts⟩ (c_Wm_hasY l D cI cZ cJ cS aT ceT  hm qh qn n S Ce a hn h_a) (cwV 1 hts (tb_4 wd_224 wd_225 wd_226 wd_2 (tb_c wd_227)) rfl rfl rfl ⟨rfl, by decide, by decide, by decide +kernel⟩ ⟨Nat.le_of_ble_eq_true rfl, Nat.le_of_ble_eq_true rfl⟩) (tP_V hK hX (hS.2.1 aT hXl hXn) hPc (q := 0) rfl rfl) rfl rfl hl.1 rfl (lv_room (Nat.le_of_ble_eq_true rfl)) d_Sw_order_12 ⟨Nat.le_of_ble_eq_true rfl, Nat.le_of_ble_eq_true rfl⟩)) (fun r3 hr9 => ?_)
  rw [hr9]
  refine lv_if_eq (tgt := 27) hx hb d_Sw_order_15 (by decide) (fun h0 => absurd h0 (by decide)) (fun _ => ?_)
  refine lv_iload_n hx hb d_Sw_order_18 rfl (lv_at hl 3 rfl) ?_
  refine lv_if_lt (tgt := 27) hx hb d_Sw_order_19 (by decide) (fun h0 => absurd h0 (by decide)) (fun _ => ?_)
  refine lv_iload_n hx hb d_Sw_order_22 rfl (lv_at hl 3 rfl) ?_
  refine lv_iconst (v := 3) hx hb d_Sw_order_23 (by decide) ?_
  refine lv_icmp_le (tgt := 35) hx hb d_Sw_order_24 (by decide) (fun _ => ?_) (fun h0 => absurd (by decide) h0)
  refine lv_iload_n hx hb d_Sw_order_35 rfl (lv_at hl 3 rfl) ?_
  have hPc := hP.sub (ws' := []) [] rfl
  refine vp_callSi (va_Run.run (va_runS (As := [.int 2]) (rest := []) ⟨hx, hb, hml, hown, hts⟩ (c_Sw_hasX2 l D cI cZ cJ cS aT ceT   ) (va_cwS 1 hts (tb_3 wd_459 wd_460 wd_1 (tb_c wd_461)) rfl rfl rfl ⟨by decide, by decide, by decide +kernel⟩ ⟨Nat.le_of_ble_eq_true rfl, Nat.le_of_ble_eq_true rfl⟩) (tP_S hK hX (hS.2.1 aT hXl hXn) hPc) rfl rfl hl.1 rfl (lv_room (Nat.le_of_ble_eq_true rfl)) d_Sw_order_36 ⟨Nat.le_of_ble_eq_true rfl, Nat.le_of_ble_eq_true rfl⟩)) (fun r7 hr9 => ?_)
  rw [hr9]
  refine lv_if_eq (tgt := 54) hx hb d_Sw_order_39 (by decide) (fun h0 => absurd h0 (by decide)) (fun _ => ?_)
  refine lv_aload_n hx hb d_Sw_order_42 rfl (lv_at hl 0 rfl) ?_
  refine va_get (D := D) (ci := 5) (v := .ref hm) (C := R_Sw) (T := T_Sw) (N := 6) hx hb hts hin_Sw hown hK hP 0 rfl rfl 0 (by decide) (hts _ wd_201) (fun _ h9 => h9) rfl d_Sw_order_43 ?_
  refine lv_iload hx hb d_Sw_order_46 (lv_at hl 4 rfl) ?_
  have hPc := hP.sub (ws' := [(hm, .inr (4, [.int (nI n), .int (mI S), .int (mI Ce), .ref qh, .ref qn]))]) [1] rfl
  refine vp_callSi (va_Run.run (va_runV (As := [.int (nI x)]) (rest := []) ⟨hx, hb, hml, hown, hts⟩ (c_Wm_hasY l D cI cZ cJ cS aT ceT  hm qh qn n S Ce x hn h_x) (cwV 1 hts (tb_4 wd_224 wd_225 wd_226 wd_2 (tb_c wd_227)) rfl rfl rfl ⟨rfl, by decide, by decide, by decide +kernel⟩ ⟨Nat.le_of_ble_eq_true rfl, Nat.le_of_ble_eq_true rfl⟩) (tP_V hK hX (hS.2.1 aT hXl hXn) hPc (q := 0) rfl rfl) rfl rfl hl.1 rfl (lv_room (Nat.le_of_ble_eq_true rfl)) d_Sw_order_48 ⟨Nat.le_of_ble_eq_true rfl, Nat.le_of_ble_eq_true rfl⟩)) (fun r9 hr9 => ?_)
  rw [hr9]
  refine lv_if_eq (tgt := 73) hx hb d_Sw_order_51 (by decide) (fun h0 => absurd h0 (by decide)) (fun _ => ?_)
  refine lv_iload_n hx hb d_Sw_order_54 rfl (lv_at hl 3 rfl) ?_
  have hPc := hP.sub (ws' := []) [] rfl
  refine vp_callSi (va_Run.run (va_runS (As := [.int 2]) (rest := []) ⟨hx, hb, hml, hown, hts⟩ (c_Sw_hasY2 l D cI cZ cJ cS aT ceT   ) (va_cwS 1 hts (tb_3 wd_462 wd_463 wd_1 (tb_c wd_464)) rfl rfl rfl ⟨by decide, by decide, by decide +kernel⟩ ⟨Nat.le_of_ble_eq_true rfl, Nat.le_of_ble_eq_true rfl⟩) (tP_S hK hX (hS.2.1 aT hXl hXn) hPc) rfl rfl hl.1 rfl (lv_room (Nat.le_of_ble_eq_true rfl)) d_Sw_order_55 ⟨Nat.le_of_ble_eq_true rfl, Nat.le_of_ble_eq_true rfl⟩)) (fun r11 hr9 => ?_)
  rw [hr9]
  refine lv_if_eq (tgt := 81) hx hb d_Sw_order_58 (by decide) (fun h0 => absurd h0 (by decide)) (fun _ => ?_)
  refine lv_aload_n hx hb d_Sw_order_61 rfl (lv_at hl 0 rfl) ?_
  refine va_get (D := D) (ci := 5) (v := .ref hm) (C := R_Sw) (T := T_Sw) (N := 6) hx hb hts hin_Sw hown hK hP 0 rfl rfl 0 (by decide) (hts _ wd_201) (fun _ h9 => h9) rfl d_Sw_order_62 ?_
  refine lv_iload hx hb d_Sw_order_65 (lv_at hl 5 rfl) ?_
  have hPc := hP.sub (ws' := [(hm, .inr (4, [.int (nI n), .int (mI S), .int (mI Ce), .ref qh, .ref qn]))]) [1] rfl
  refine vp_callSi (va_Run.run (va_runV (As := [.int (nI y)]) (rest := []) ⟨hx, hb, hml, hown, hts⟩ (c_Wm_hasY l D cI cZ cJ cS aT ceT  hm qh qn n S Ce y hn h_y) (cwV 1 hts (tb_4 wd_224 wd_225 wd_226 wd_2 (tb_c wd_227)) rfl rfl rfl ⟨rfl, by decide, by decide, by decide +kernel⟩ ⟨Nat.le_of_ble_eq_true rfl, Nat.le_of_ble_eq_true rfl⟩) (tP_V hK hX (hS.2.1 aT hXl hXn) hPc (q := 0) rfl rfl) rfl rfl hl.1 rfl (lv_room (Nat.le_of_ble_eq_true rfl)) d_Sw_order_67 ⟨Nat.le_of_ble_eq_true rfl, Nat.le_of_ble_eq_true rfl⟩)) (fun r13 hr9 => ?_)
  rw [hr9]
  refine lv_if_ne (tgt := 81) hx hb d_Sw_order_70 (by decide) (fun _ => ?_) (fun h0 => absurd h0 (by decide))
  refine lv_aload_n hx hb d_Sw_order_81 rfl (lv_at hl 0 rfl) ?_
  refine va_get (D := D) (ci := 5) (v := .int 1) (C := R_Sw) (T := T_Sw) (N := 6) hx hb hts hin_Sw hown hK hP 0 rfl rfl 5 (by decide) (hts _ wd_206) (fun _ h9 => h9) rfl d_Sw_order_82 ?_
  refine lv_iconst (v := 1) hx hb d_Sw_order_85 (by decide) ?_
  refine lv_icmp_eq (tgt := 97) hx hb d_Sw_order_86 (by decide) (fun _ => ?_) (fun h0 => absurd (by decide) h0)
  refine lv_aload_n hx hb d_Sw_order_97 rfl (lv_at hl 0 rfl) ?_
  refine va_get (D := D) (ci := 5) (v := .ref hh) (C := R_Sw) (T := T_Sw) (N := 6) hx hb hts hin_Sw hown hK hP 0 rfl rfl 1 (by decide) (hts _ wd_202) (fun _ h9 => h9) rfl d_Sw_order_98 ?_
  refine lv_iload_n hx hb d_Sw_order_101 rfl (lv_at hl 2 rfl) ?_
  have hPc := hP.sub (ws' := [(hh, .inr (3, [.int tn, .ref qu, .ref qo, .ref qx, .ref qy, .ref qr, .ref qw])), (qu, .inl (cI, 12, .inl fu))]) [3, 4] rfl
  refine vp_callSi (va_Run.run (va_runV (As := [.int (nI a)]) (rest := []) ⟨hx, hb, hml, hown, hts⟩ (c_Sh_hasUnitP l D cI cZ cJ cS aT ceT  hh tn qu qo qx qy qr qw fu a (Nat.lt_of_lt_of_le h_a hn)) (cwV 1 hts (tb_4 wd_286 wd_287 wd_288 wd_3 (tb_c wd_289)) rfl rfl rfl ⟨rfl, by decide, by decide, by decide +kernel⟩ ⟨Nat.le_of_ble_eq_true rfl, Nat.le_of_ble_eq_true rfl⟩) (tP_V hK hX (hS.2.1 aT hXl hXn) hPc (q := 0) rfl rfl) rfl rfl hl.1 rfl (lv_room (Nat.le_of_ble_eq_true rfl)) d_Sw_order_102 ⟨Nat.le_of_ble_eq_true rfl, Nat.le_of_ble_eq_true rfl⟩)) (fun r16 hr9 => ?_)
  rw [hr9]
  rcases bI_c (!decide (fu a = -1)) with ⟨hb18, e9⟩ | ⟨hb18, e9⟩
  · refine tr_top e9 ?_
    refine lv_if_eq (tgt := 120) hx hb d_Sw_order_105 (by decide) (fun h0 => absurd h0 (by decide)) (fun _ => ?_)
    refine lv_aload_n hx hb d_Sw_order_108 rfl (lv_at hl 0 rfl) ?_
    refine va_get (D := D) (ci := 5) (v := .ref hh) (C := R_Sw) (T := T_Sw) (N := 6) hx hb hts hin_Sw hown hK hP 0 rfl rfl 1 (by decide) (hts _ wd_202) (fun _ h9 => h9) rfl d_Sw_order_109 ?_
    refine lv_iload_n hx hb d_Sw_order_112 rfl (lv_at hl 2 rfl) ?_
    have hPc := hP.sub (ws' := [(hh, .inr (3, [.int tn, .ref qu, .ref qo, .ref qx, .ref qy, .ref qr, .ref qw])), (qu, .inl (cI, 12, .inl fu))]) [3, 4] rfl
    refine vp_callSi (va_Run.run (va_runV (As := [.int (nI a)]) (rest := []) ⟨hx, hb, hml, hown, hts⟩ (c_Sh_playerAtP l D cI cZ cJ cS aT ceT  hh tn qu qo qx qy qr qw fu a (Nat.lt_of_lt_of_le h_a hn)) (cwV 1 hts (tb_4 wd_465 wd_312 wd_313 wd_3 (tb_c wd_314)) rfl rfl rfl ⟨rfl, by decide, by decide, by decide +kernel⟩ ⟨Nat.le_of_ble_eq_true rfl, Nat.le_of_ble_eq_true rfl⟩) (tP_V hK hX (hS.2.1 aT hXl hXn) hPc (q := 0) rfl rfl) rfl rfl hl.1 rfl (lv_room (Nat.le_of_ble_eq_true rfl)) d_Sw_order_113 ⟨Nat.le_of_ble_eq_true rfl, Nat.le_of_ble_eq_true rfl⟩)) (fun r20 hr9 => ?_)
    rw [hr9]
    refine lv_iload_n hx hb d_Sw_order_116 rfl (lv_at hl 1 rfl) ?_
    refine lv_icmp_eq (tgt := 122) hx hb d_Sw_order_117 (by decide) (fun hc21 => ?_) (fun hc21 => ?_)
    · -- 117 taken
      refine lv_aload_n hx hb d_Sw_order_122 rfl (lv_at hl 0 rfl) ?_
      refine lv_iload_n hx hb d_Sw_order_123 rfl (lv_at hl 2 rfl) ?_
      refine lv_iload_n hx hb d_Sw_order_124 rfl (lv_at hl 3 rfl) ?_
      refine lv_iload hx hb d_Sw_order_125 (lv_at hl 4 rfl) ?_
      refine lv_iload hx hb d_Sw_order_127 (lv_at hl 5 rfl) ?_
      have hPc := hP.sub (ws' := [(h0, .inr (5, [.ref hm, .ref hh, .ref he, .ref ha, .ref hp, .int 1])), (hm, .inr (4, [.int (nI n), .int (mI S), .int (mI Ce), .ref qh, .ref qn])), (qn, .inl (cI, 12, .inl (fun j => mI (N j)))), (hh, .inr (3, [.int tn, .ref qu, .ref qo, .ref qx, .ref qy, .ref qr, .ref qw])), (qu, .inl (cI, 12, .inl fu))]) [0, 1, 2, 3, 4] rfl
      refine vp_callSi (va_Run.run (va_runV (As := [.int (nI a), .int 2, .int (nI x), .int (nI y)]) (rest := []) ⟨hx, hb, hml, hown, hts⟩ (c_Sw_poss2 l D cI cZ cJ cS aT ceT  h0 hm hh he ha hp 1 qh qn n S Ce N tn qu qo qx qy qr qw fu a x y (Nat.lt_of_lt_of_le h_a hn) (Nat.lt_of_lt_of_le h_x hn) (Nat.lt_of_lt_of_le h_y hn)) (cwV 4 hts (tb_4 wd_466 wd_468 wp_3 wd_1 (tb_c wd_469)) rfl rfl rfl ⟨rfl, by decide, by decide, by decide +kernel⟩ ⟨Nat.le_of_ble_eq_true rfl, Nat.le_of_ble_eq_true rfl⟩) (tP_V hK hX (hS.2.1 aT hXl hXn) hPc (q := 0) rfl rfl) rfl rfl hl.1 rfl (lv_room (Nat.le_of_ble_eq_true rfl)) d_Sw_order_129 ⟨Nat.le_of_ble_eq_true rfl, Nat.le_of_ble_eq_true rfl⟩)) (fun r22 hr9 => ?_)
      rw [hr9]
      rcases bI_c (psuC N S fu a x y) with ⟨hb24, e9⟩ | ⟨hb24, e9⟩
      · refine tr_top e9 ?_
        refine lv_if_ne (tgt := 137) hx hb d_Sw_order_132 (by decide) (fun _ => ?_) (fun h0 => absurd h0 (by decide))
        refine lv_aload_n hx hb d_Sw_order_137 rfl (lv_at hl 0 rfl) ?_
        refine va_get (D := D) (ci := 5) (v := .ref hh) (C := R_Sw) (T := T_Sw) (N := 6) hx hb hts hin_Sw hown hK hP 0 rfl rfl 1 (by decide) (hts _ wd_202) (fun _ h9 => h9) rfl d_Sw_order_138 ?_
        refine lv_iload_n hx hb d_Sw_order_141 rfl (lv_at hl 2 rfl) ?_
        refine lv_iload_n hx hb d_Sw_order_142 rfl (lv_at hl 3 rfl) ?_
        refine lv_iload_n hx hb d_Sw_order_143 rfl (lv_at hl 3 rfl) ?_
        have hPc := hP.sub (ws' := []) [] rfl
        refine vp_callSi (va_Run.run (va_runS (As := [.int 2]) (rest := [.int 2, .int (nI a), .ref hh]) ⟨hx, hb, hml, hown, hts⟩ (c_Sw_hasX2 l D cI cZ cJ cS aT ceT   ) (va_cwS 1 hts (tb_3 wd_459 wd_460 wd_1 (tb_c wd_461)) rfl rfl rfl ⟨by decide, by decide, by decide +kernel⟩ ⟨Nat.le_of_ble_eq_true rfl, Nat.le_of_ble_eq_true rfl⟩) (tP_S hK hX (hS.2.1 aT hXl hXn) hPc) rfl rfl hl.1 rfl (lv_room (Nat.le_of_ble_eq_true rfl)) d_Sw_order_144 ⟨Nat.le_of_ble_eq_true rfl, Nat.le_of_ble_eq_true rfl⟩)) (fun r26 hr9 => ?_)
        rw [hr9]
        refine lv_if_eq (tgt := 155) hx hb d_Sw_order_147 (by decide) (fun h0 => absurd h0 (by decide)) (fun _ => ?_)
        refine lv_iload hx hb d_Sw_order_150 (lv_at hl 4 rfl) ?_
        refine lv_goto (tgt := 156) hx hb d_Sw_order_152 (by decide) ?_
        refine lv_iload_n hx hb d_Sw_order_156 rfl (lv_at hl 3 rfl) ?_
        have hPc := hP.sub (ws' := []) [] rfl
        refine vp_callSi (va_Run.run (va_runS (As := [.int 2]) (rest := [.int (nI x), .int 2, .int (nI a), .ref hh]) ⟨hx, hb, hml, hown, hts⟩ (c_Sw_hasY2 l D cI cZ cJ cS aT ceT   ) (va_cwS 1 hts (tb_3 wd_462 wd_463 wd_1 (tb_c wd_464)) rfl rfl rfl ⟨by decide, by decide, by decide +kernel⟩ ⟨Nat.le_of_ble_eq_true rfl, Nat.le_of_ble_eq_true rfl⟩) (tP_S hK hX (hS.2.1 aT hXl hXn) hPc) rfl rfl hl.1 rfl (lv_room (Nat.le_of_ble_eq_true rfl)) d_Sw_order_157 ⟨Nat.le_of_ble_eq_true rfl, Nat.le_of_ble_eq_true rfl⟩)) (fun r28 hr9 => ?_)
        rw [hr9]
        refine lv_if_eq (tgt := 168) hx hb d_Sw_order_160 (by decide) (fun h0 => absurd h0 (by decide)) (fun _ => ?_)
        refine lv_iload hx hb d_Sw_order_163 (lv_at hl 5 rfl) ?_
        refine lv_goto (tgt := 169) hx hb d_Sw_order_165 (by decide) ?_
        have hPc := hP.sub (ws' := [(hh, .inr (3, [.int tn, .ref qu, .ref qo, .ref qx, .ref qy, .ref qr, .ref qw])), (qo, .inl (cI, 12, .inl (fun j => nI (Oo j)))), (qx, .inl (cI, 12, .inl (fun j => nI (X j)))), (qy, .inl (cI, 12, .inl (fun j => nI (Y j))))]) [3, 5, 6, 7] rfl
        have hDc := hD.sub (ws' := [(hh, .inr (3, [.int tn, .ref qu, .ref qo, .ref qx, .ref qy, .ref qr, .ref qw])), (qo, .inl (cI, 12, .inl (fun j => nI (Oo j)))), (qx, .inl (cI, 12, .inl (fun j => nI (X j)))), (qy, .inl (cI, 12, .inl (fun j => nI (Y j))))]) [3, 5, 6, 7] (by decide) rfl
        have hFc := va_free (wc := [(hh, .inr (3, [.int tn, .ref qu, .ref qo, .ref qx, .ref qy, .ref qr, .ref qw])), (qo, .inl (cI, 12, .inl (fun j => nI (Oo j)))), (qx, .inl (cI, 12, .inl (fun j => nI (X j)))), (qy, .inl (cI, 12, .inl (fun j => nI (Y j))))]) hD hS hA [3, 5, 6, 7] rfl
        refine va_callv (va_runV (As := [.int (nI a), .int 2, .int (nI x), .int (nI y)]) (rest := []) ⟨hx, hb, hml, hown, hts⟩ (c_Sh_write l D cI cZ cJ cS aT ceT s.heap.size hh tn qu qo qx qy qr qw Oo X Y a (2 : Nat) x y (Nat.lt_of_lt_of_le h_a hn)) (cwV 4 hts (tb_4 wd_483 wd_484 wd_485 wd_3 (tb_c wd_486)) rfl rfl rfl ⟨rfl, by decide, by decide, by decide +kernel⟩ ⟨Nat.le_of_ble_eq_true rfl, Nat.le_of_ble_eq_true rfl⟩) (tH_V hK hX (hS.2.1 aT hXl hXn) hPc hDc (q := 0) rfl rfl) rfl rfl hl.1 rfl (lv_room (Nat.le_of_ble_eq_true rfl)) d_Sw_order_169 ⟨Nat.le_of_ble_eq_true rfl, Nat.le_of_ble_eq_true rfl⟩) hS (fun q _ h => hFc q h) hFc (fun u t H1 locs ht hvm h9 hB hz1 hk1 hS => ?_)
        obtain ⟨hP1, hD1⟩ := hB
        rw [ht] at hP1
        obtain ⟨hP, hD⟩ := va_join (wr := [(h0, .inr (5, [.ref hm, .ref hh, .ref he, .ref ha, .ref hp, .int 1])), (hm, .inr (4, [.int (nI n), .int (mI S), .int (mI Ce), .ref qh, .ref qn])), (qn, .inl (cI, 12, .inl (fun j => mI (N j)))), (qu, .inl (cI, 12, .inl fu))]) (w1 := [(hh, .inr (3, [.int tn, .ref qu, .ref qo, .ref qx, .ref qy, .ref qr, .ref qw])), (qo, .inl (cI, 12, .inl (fun j => nI (upN Oo a (2 : Nat) j)))), (qx, .inl (cI, 12, .inl (fun j => nI (upN X a x j)))), (qy, .inl (cI, 12, .inl (fun j => nI (upN Y a y j))))]) hP hD [3, 5, 6, 7] [0, 1, 2, 4] rfl rfl (by decide) (by decide) hk1 hFc hP1 hD1
        generalize H1 = H at hP hS ⊢
        have hP : va_P D vwCl [(h0, .inr (5, [.ref hm, .ref hh, .ref he, .ref ha, .ref hp, .int 1])), (hm, .inr (4, [.int (nI n), .int (mI S), .int (mI Ce), .ref qh, .ref qn])), (qn, .inl (cI, 12, .inl (fun j => mI (N j)))), (qu, .inl (cI, 12, .inl fu)), (hh, .inr (3, [.int tn, .ref qu, .ref qo, .ref qx, .ref qy, .ref qr, .ref qw])), (qo, .inl (cI, 12, .inl (fun j => nI (upN Oo a (2 : Nat) j)))), (qx, .inl (cI, 12, .inl (fun j => nI (upN X a x j)))), (qy, .inl (cI, 12, .inl (fun j => nI (upN Y a y j))))] H := hP
        have hD : va_D A [(h0, .inr (5, [.ref hm, .ref hh, .ref he, .ref ha, .ref hp, .int 1])), (hm, .inr (4, [.int (nI n), .int (mI S), .int (mI Ce), .ref qh, .ref qn])), (qn, .inl (cI, 12, .inl (fun j => mI (N j)))), (qu, .inl (cI, 12, .inl fu)), (hh, .inr (3, [.int tn, .ref qu, .ref qo, .ref qx, .ref qy, .ref qr, .ref qw])), (qo, .inl (cI, 12, .inl (fun j => nI (upN Oo a (2 : Nat) j)))), (qx, .inl (cI, 12, .inl (fun j => nI (upN X a x j)))), (qy, .inl (cI, 12, .inl (fun j => nI (upN Y a y j))))] := hD
        refine lv_iconst (v := 0) hx hb d_Sw_order_172 (by decide) ?_
        have hP9 := hP.sub (ws' := [(h0, .inr (5, [.ref hm, .ref hh, .ref he, .ref ha, .ref hp, .int 1])), (hm, .inr (4, [.int (nI n), .int (mI S), .int (mI Ce), .ref qh, .ref qn])), (qn, .inl (cI, 12, .inl (fun j => mI (N j)))), (hh, .inr (3, [.int tn, .ref qu, .ref qo, .ref qx, .ref qy, .ref qr, .ref qw])), (qu, .inl (cI, 12, .inl fu)), (qo, .inl (cI, 12, .inl (fun j => nI (upN Oo a (2 : Nat) j)))), (qx, .inl (cI, 12, .inl (fun j => nI (upN X a x j)))), (qy, .inl (cI, 12, .inl (fun j => nI (upN Y a y j))))]) [0, 1, 2, 4, 3, 5, 6, 7] rfl
        have hD9 := hD.sub (ws' := [(h0, .inr (5, [.ref hm, .ref hh, .ref he, .ref ha, .ref hp, .int 1])), (hm, .inr (4, [.int (nI n), .int (mI S), .int (mI Ce), .ref qh, .ref qn])), (qn, .inl (cI, 12, .inl (fun j => mI (N j)))), (hh, .inr (3, [.int tn, .ref qu, .ref qo, .ref qx, .ref qy, .ref qr, .ref qw])), (qu, .inl (cI, 12, .inl fu)), (qo, .inl (cI, 12, .inl (fun j => nI (upN Oo a (2 : Nat) j)))), (qx, .inl (cI, 12, .inl (fun j => nI (upN X a x j)))), (qy, .inl (cI, 12, .inl (fun j => nI (upN Y a y j))))]) [0, 1, 2, 4, 3, 5, 6, 7] (by decide) rfl
        have ej : odR (!decide (fu a = -1) && decide (fu a / 2 = nI p9)) (psuC N S fu a x y) = 0 := by simp only [odR, hb18, hb24] <;> simp [hb18, hc21, hb24]
        have hP9 : va_P D vwCl [(h0, .inr (5, [.ref hm, .ref hh, .ref he, .ref ha, .ref hp, .int 1])), (hm, .inr (4, [.int (nI n), .int (mI S), .int (mI Ce), .ref qh, .ref qn])), (qn, .inl (cI, 12, .inl (fun j => mI (N j)))), (hh, .inr (3, [.int tn, .ref qu, .ref qo, .ref qx, .ref qy, .ref qr, .ref qw])), (qu, .inl (cI, 12, .inl fu)), (qo, .inl (cI, 12, .inl (fun j => nI (okN (odR (!decide (fu a = -1) && decide (fu a / 2 = nI p9)) (psuC N S fu a x y)) Oo a 2 j)))), (qx, .inl (cI, 12, .inl (fun j => nI (okN (odR (!decide (fu a = -1) && decide (fu a / 2 = nI p9)) (psuC N S fu a x y)) X a x j)))), (qy, .inl (cI, 12, .inl (fun j => nI (okN (odR (!decide (fu a = -1) && decide (fu a / 2 = nI p9)) (psuC N S fu a x y)) Y a y j))))] H := by rw [ej]; exact hP9
        have hD9 : va_D A [(h0, .inr (5, [.ref hm, .ref hh, .ref he, .ref ha, .ref hp, .int 1])), (hm, .inr (4, [.int (nI n), .int (mI S), .int (mI Ce), .ref qh, .ref qn])), (qn, .inl (cI, 12, .inl (fun j => mI (N j)))), (hh, .inr (3, [.int tn, .ref qu, .ref qo, .ref qx, .ref qy, .ref qr, .ref qw])), (qu, .inl (cI, 12, .inl fu)), (qo, .inl (cI, 12, .inl (fun j => nI (okN (odR (!decide (fu a = -1) && decide (fu a / 2 = nI p9)) (psuC N S fu a x y)) Oo a 2 j)))), (qx, .inl (cI, 12, .inl (fun j => nI (okN (odR (!decide (fu a = -1) && decide (fu a / 2 = nI p9)) (psuC N S fu a x y)) X a x j)))), (qy, .inl (cI, 12, .inl (fun j => nI (okN (odR (!decide (fu a = -1) && decide (fu a / 2 = nI p9)) (psuC N S fu a x y)) Y a y j))))] := by rw [ej]; exact hD9
        exact W.iret (v := 0) hx hb hr (fun t ht hW => ⟨⟨0, (), rfl, by rw [ej]; rfl, by rw [ht]; exact hP9, hD9⟩, hS.F ht⟩) hS.2.2 d_Sw_order_173
      · refine tr_top e9 ?_
        refine lv_if_ne (tgt := 137) hx hb d_Sw_order_132 (by decide) (fun h0 => absurd (by decide) h0) (fun _ => ?_)
        refine lv_iconst (v := 2) hx hb d_Sw_order_135 (by decide) ?_
        have hP9 := hP.sub (ws' := [(h0, .inr (5, [.ref hm, .ref hh, .ref he, .ref ha, .ref hp, .int 1])), (hm, .inr (4, [.int (nI n), .int (mI S), .int (mI Ce), .ref qh, .ref qn])), (qn, .inl (cI, 12, .inl (fun j => mI (N j)))), (hh, .inr (3, [.int tn, .ref qu, .ref qo, .ref qx, .ref qy, .ref qr, .ref qw])), (qu, .inl (cI, 12, .inl fu)), (qo, .inl (cI, 12, .inl (fun j => nI (Oo j)))), (qx, .inl (cI, 12, .inl (fun j => nI (X j)))), (qy, .inl (cI, 12, .inl (fun j => nI (Y j))))]) [0, 1, 2, 3, 4, 5, 6, 7] rfl
        have hD9 := hD.sub (ws' := [(h0, .inr (5, [.ref hm, .ref hh, .ref he, .ref ha, .ref hp, .int 1])), (hm, .inr (4, [.int (nI n), .int (mI S), .int (mI Ce), .ref qh, .ref qn])), (qn, .inl (cI, 12, .inl (fun j => mI (N j)))), (hh, .inr (3, [.int tn, .ref qu, .ref qo, .ref qx, .ref qy, .ref qr, .ref qw])), (qu, .inl (cI, 12, .inl fu)), (qo, .inl (cI, 12, .inl (fun j => nI (Oo j)))), (qx, .inl (cI, 12, .inl (fun j => nI (X j)))), (qy, .inl (cI, 12, .inl (fun j => nI (Y j))))]) [0, 1, 2, 3, 4, 5, 6, 7] (by decide) rfl
        have ej : odR (!decide (fu a = -1) && decide (fu a / 2 = nI p9)) (psuC N S fu a x y) = 2 := by simp only [odR, hb18, hb24] <;> simp [hb18, hc21, hb24]
        have hP9 : va_P D vwCl [(h0, .inr (5, [.ref hm, .ref hh, .ref he, .ref ha, .ref hp, .int 1])), (hm, .inr (4, [.int (nI n), .int (mI S), .int (mI Ce), .ref qh, .ref qn])), (qn, .inl (cI, 12, .inl (fun j => mI (N j)))), (hh, .inr (3, [.int tn, .ref qu, .ref qo, .ref qx, .ref qy, .ref qr, .ref qw])), (qu, .inl (cI, 12, .inl fu)), (qo, .inl (cI, 12, .inl (fun j => nI (okN (odR (!decide (fu a = -1) && decide (fu a / 2 = nI p9)) (psuC N S fu a x y)) Oo a 2 j)))), (qx, .inl (cI, 12, .inl (fun j => nI (okN (odR (!decide (fu a = -1) && decide (fu a / 2 = nI p9)) (psuC N S fu a x y)) X a x j)))), (qy, .inl (cI, 12, .inl (fun j => nI (okN (odR (!decide (fu a = -1) && decide (fu a / 2 = nI p9)) (psuC N S fu a x y)) Y a y j))))] s.heap := by rw [ej]; exact hP9
        have hD9 : va_D A [(h0, .inr (5, [.ref hm, .ref hh, .ref he, .ref ha, .ref hp, .int 1])), (hm, .inr (4, [.int (nI n), .int (mI S), .int (mI Ce), .ref qh, .ref qn])), (qn, .inl (cI, 12, .inl (fun j => mI (N j)))), (hh, .inr (3, [.int tn, .ref qu, .ref qo, .ref qx, .ref qy, .ref qr, .ref qw])), (qu, .inl (cI, 12, .inl fu)), (qo, .inl (cI, 12, .inl (fun j => nI (okN (odR (!decide (fu a = -1) && decide (fu a / 2 = nI p9)) (psuC N S fu a x y)) Oo a 2 j)))), (qx, .inl (cI, 12, .inl (fun j => nI (okN (odR (!decide (fu a = -1) && decide (fu a / 2 = nI p9)) (psuC N S fu a x y)) X a x j)))), (qy, .inl (cI, 12, .inl (fun j => nI (okN (odR (!decide (fu a = -1) && decide (fu a / 2 = nI p9)) (psuC N S fu a x y)) Y a y j))))] := by rw [ej]; exact hD9
        exact W.iret (v := 2) hx hb hr (fun t ht hW => ⟨⟨2, (), rfl, by rw [ej]; rfl, by rw [ht]; exact hP9, hD9⟩, hS.F ht⟩) hS.2.2 d_Sw_order_136
    · -- 117 not taken
      refine lv_iconst (v := 1) hx hb d_Sw_order_120 (by decide) ?_
      have hP9 := hP.sub (ws' := [(h0, .inr (5, [.ref hm, .ref hh, .ref he, .ref ha, .ref hp, .int 1])), (hm, .inr (4, [.int (nI n), .int (mI S), .int (mI Ce), .ref qh, .ref qn])), (qn, .inl (cI, 12, .inl (fun j => mI (N j)))), (hh, .inr (3, [.int tn, .ref qu, .ref qo, .ref qx, .ref qy, .ref qr, .ref qw])), (qu, .inl (cI, 12, .inl fu)), (qo, .inl (cI, 12, .inl (fun j => nI (Oo j)))), (qx, .inl (cI, 12, .inl (fun j => nI (X j)))), (qy, .inl (cI, 12, .inl (fun j => nI (Y j))))]) [0, 1, 2, 3, 4, 5, 6, 7] rfl
      have hD9 := hD.sub (ws' := [(h0, .inr (5, [.ref hm, .ref hh, .ref he, .ref ha, .ref hp, .int 1])), (hm, .inr (4, [.int (nI n), .int (mI S), .int (mI Ce), .ref qh, .ref qn])), (qn, .inl (cI, 12, .inl (fun j => mI (N j)))), (hh, .inr (3, [.int tn, .ref qu, .ref qo, .ref qx, .ref qy, .ref qr, .ref qw])), (qu, .inl (cI, 12, .inl fu)), (qo, .inl (cI, 12, .inl (fun j => nI (Oo j)))), (qx, .inl (cI, 12, .inl (fun j => nI (X j)))), (qy, .inl (cI, 12, .inl (fun j => nI (Y j))))]) [0, 1, 2, 3, 4, 5, 6, 7] (by decide) rfl
      have ej : odR (!decide (fu a = -1) && decide (fu a / 2 = nI p9)) (psuC N S fu a x y) = 1 := by simp only [odR, hb18] <;> simp [hb18, hc21]
      have hP9 : va_P D vwCl [(h0, .inr (5, [.ref hm, .ref hh, .ref he, .ref ha, .ref hp, .int 1])), (hm, .inr (4, [.int (nI n), .int (mI S), .int (mI Ce), .ref qh, .ref qn])), (qn, .inl (cI, 12, .inl (fun j => mI (N j)))), (hh, .inr (3, [.int tn, .ref qu, .ref qo, .ref qx, .ref qy, .ref qr, .ref qw])), (qu, .inl (cI, 12, .inl fu)), (qo, .inl (cI, 12, .inl (fun j => nI (okN (odR (!decide (fu a = -1) && decide (fu a / 2 = nI p9)) (psuC N S fu a x y)) Oo a 2 j)))), (qx, .inl (cI, 12, .inl (fun j => nI (okN (odR (!decide (fu a = -1) && decide (fu a / 2 = nI p9)) (psuC N S fu a x y)) X a x j)))), (qy, .inl (cI, 12, .inl (fun j => nI (okN (odR (!decide (fu a = -1) && decide (fu a / 2 = nI p9)) (psuC N S fu a x y)) Y a y j))))] s.heap := by rw [ej]; exact hP9
      have hD9 : va_D A [(h0, .inr (5, [.ref hm, .ref hh, .ref he, .ref ha, .ref hp, .int 1])), (hm, .inr (4, [.int (nI n), .int (mI S), .int (mI Ce), .ref qh, .ref qn])), (qn, .inl (cI, 12, .inl (fun j => mI (N j)))), (hh, .inr (3, [.int tn, .ref qu, .ref qo, .ref qx, .ref qy, .ref qr, .ref qw])), (qu, .inl (cI, 12, .inl fu)), (qo, .inl (cI, 12, .inl (fun j => nI (okN (odR (!decide (fu a = -1) && decide (fu a / 2 = nI p9)) (psuC N S fu a x y)) Oo a 2 j)))), (qx, .inl (cI, 12, .inl (fun j => nI (okN (odR (!decide (fu a = -1) && decide (fu a / 2 = nI p9)) (psuC N S fu a x y)) X a x j)))), (qy, .inl (cI, 12, .inl (fun j => nI (okN (odR (!decide (fu a = -1) && decide (fu a / 2 = nI p9)) (psuC N S fu a x y)) Y a y j))))] := by rw [ej]; exact hD9
      exact W.iret (v := 1) hx hb hr (fun t ht hW => ⟨⟨1, (), rfl, by rw [ej]; rfl, by rw [ht]; exact hP9, hD9⟩, hS.F ht⟩) hS.2.2 d_Sw_order_121
  · refine tr_top e9 ?_
    refine lv_if_eq (tgt := 120) hx hb d_Sw_order_105 (by decide) (fun _ => ?_) (fun h0 => absurd (by decide) h0)
    refine lv_iconst (v := 1) hx hb d_Sw_order_120 (by decide) ?_
    have hP9 := hP.sub (ws' := [(h0, .inr (5, [.ref hm, .ref hh, .ref he, .ref ha, .ref hp, .int 1])), (hm, .inr (4, [.int (nI n), .int (mI S), .int (mI Ce), .ref qh, .ref qn])), (qn, .inl (cI, 12, .inl (fun j => mI (N j)))), (hh, .inr (3, [.int tn, .ref qu, .ref qo, .ref qx, .ref qy, .ref qr, .ref qw])), (qu, .inl (cI, 12, .inl fu)), (qo, .inl (cI, 12, .inl (fun j => nI (Oo j)))), (qx, .inl (cI, 12, .inl (fun j => nI (X j)))), (qy, .inl (cI, 12, .inl (fun j => nI (Y j))))]) [0, 1, 2, 3, 4, 5, 6, 7] rfl
    have hD9 := hD.sub (ws' := [(h0, .inr (5, [.ref hm, .ref hh, .ref he, .ref ha, .ref hp, .int 1])), (hm, .inr (4, [.int (nI n), .int (mI S), .int (mI Ce), .ref qh, .ref qn])), (qn, .inl (cI, 12, .inl (fun j => mI (N j)))), (hh, .inr (3, [.int tn, .ref qu, .ref qo, .ref qx, .ref qy, .ref qr, .ref qw])), (qu, .inl (cI, 12, .inl fu)), (qo, .inl (cI, 12, .inl (fun j => nI (Oo j)))), (qx, .inl (cI, 12, .inl (fun j => nI (X j)))), (qy, .inl (cI, 12, .inl (fun j => nI (Y j))))]) [0, 1, 2, 3, 4, 5, 6, 7] (by decide) rfl
    have ej : odR (!decide (fu a = -1) && decide (fu a / 2 = nI p9)) (psuC N S fu a x y) = 1 := by simp only [odR, hb18] <;> simp [hb18]
    have hP9 : va_P D vwCl [(h0, .inr (5, [.ref hm, .ref hh, .ref he, .ref ha, .ref hp, .int 1])), (hm, .inr (4, [.int (nI n), .int (mI S), .int (mI Ce), .ref qh, .ref qn])), (qn, .inl (cI, 12, .inl (fun j => mI (N j)))), (hh, .inr (3, [.int tn, .ref qu, .ref qo, .ref qx, .ref qy, .ref qr, .ref qw])), (qu, .inl (cI, 12, .inl fu)), (qo, .inl (cI, 12, .inl (fun j => nI (okN (odR (!decide (fu a = -1) && decide (fu a / 2 = nI p9)) (psuC N S fu a x y)) Oo a 2 j)))), (qx, .inl (cI, 12, .inl (fun j => nI (okN (odR (!decide (fu a = -1) && decide (fu a / 2 = nI p9)) (psuC N S fu a x y)) X a x j)))), (qy, .inl (cI, 12, .inl (fun j => nI (okN (odR (!decide (fu a = -1) && decide (fu a / 2 = nI p9)) (psuC N S fu a x y)) Y a y j))))] s.heap := by rw [ej]; exact hP9
    have hD9 : va_D A [(h0, .inr (5, [.ref hm, .ref hh, .ref he, .ref ha, .ref hp, .int 1])), (hm, .inr (4, [.int (nI n), .int (mI S), .int (mI Ce), .ref qh, .ref qn])), (qn, .inl (cI, 12, .inl (fun j => mI (N j)))), (hh, .inr (3, [.int tn, .ref qu, .ref qo, .ref qx, .ref qy, .ref qr, .ref qw])), (qu, .inl (cI, 12, .inl fu)), (qo, .inl (cI, 12, .inl (fun j => nI (okN (odR (!decide (fu a = -1) && decide (fu a / 2 = nI p9)) (psuC N S fu a x y)) Oo a 2 j)))), (qx, .inl (cI, 12, .inl (fun j => nI (okN (odR (!decide (fu a = -1) && decide (fu a / 2 = nI p9)) (psuC N S fu a x y)) X a x j)))), (qy, .inl (cI, 12, .inl (fun j => nI (okN (odR (!decide (fu a = -1) && decide (fu a / 2 = nI p9)) (psuC N S fu a x y)) Y a y j))))] := by rw [ej]; exact hD9
    exact W.iret (v := 1) hx hb hr (fun t ht hW => ⟨⟨1, (), rfl, by rw [ej]; rfl, by rw [ht]; exact hP9, hD9⟩, hS.F ht⟩) hS.2.2 d_Sw_order_121


set_option maxHeartbeats 4000000 in
set_option maxRecDepth 100000 in
theorem c_Sw_order3 (l : Launch) (D : va_G) (cI cZ cJ cS : ClassId) (aT : Nat) (ceT : Cell) (sz : Nat) (h0 hm hh he ha hp : Nat) (qh qn n : Nat) (S Ce : Nat → Bool) (N : Nat → Nat → Bool) (tn : Int32) (qu qo qx qy qr qw : Nat) (fu : Nat → Int32) (Oo X Y : Nat → Nat) (p9 a x y : Nat) (hn : n ≤ 12) (h_a : a < n) (h_p : p9 < 4) (h_x : x < n) (h_y : y < n) : Met l y_Sw_order w_Sw_order ({ frames := 5, cells := 0, slots := 0, locals := 113 }) (tH D cI cZ cJ cS aT ceT [.ref h0, .int (nI p9), .int (nI a), .int 3, .int (nI x), .int (nI y)] sz [(h0, .inr (5, [.ref hm, .ref hh, .ref he, .ref ha, .ref hp, .int 1])), (hm, .inr (4, [.int (nI n), .int (mI S), .int (mI Ce), .ref qh, .ref qn])), (qn, .inl (cI, 12, .inl (fun j => mI (N j)))), (hh, .inr (3, [.int tn, .ref qu, .ref qo, .ref qx, .ref qy, .ref qr, .ref qw])), (qu, .inl (cI, 12, .inl fu)), (qo, .inl (cI, 12, .inl (fun j => nI (Oo j)))), (qx, .inl (cI, 12, .inl (fun j => nI (X j)))), (qy, .inl (cI, 12, .inl (fun j => nI (Y j))))]) (va_Qi (fun (r : Int32) (_ : Unit) => r = nI (odR (!decide (fu a = -1) && decide (fu a / 2 = nI p9)) (pvC S fu a x y))) (fun _ t => tB D (va_A [(h0, .inr (5, [.ref hm, .ref hh, .ref he, .ref ha, .ref hp, .int 1])), (hm, .inr (4, [.int (nI n), .int (mI S), .int (mI Ce), .ref qh, .ref qn])), (qn, .inl (cI, 12, .inl (fun j => mI (N j)))), (hh, .inr (3, [.int tn, .ref qu, .ref qo, .ref qx, .ref qy, .ref qr, .ref qw])), (qu, .inl (cI, 12, .inl fu)), (qo, .inl (cI, 12, .inl (fun j => nI (Oo j)))), (qx, .inl (cI, 12, .inl (fun j => nI (X j)))), (qy, .inl (cI, 12, .inl (fun j => nI (Y j))))] sz) [(h0, .inr (5, [.ref hm, .ref hh, .ref he, .ref ha, .ref hp, .int 1])), (hm, .inr (4, [.int (nI n), .int (mI S), .int (mI Ce), .ref qh, .ref qn])), (qn, .inl (cI, 12, .inl (fun j => mI (N j)))), (hh, .inr (3, [.int tn, .ref qu, .ref qo, .ref qx, .ref qy, .ref qr, .ref qw])), (qu, .inl (cI, 12, .inl fu)), (qo, .inl (cI, 12, .inl (fun j => nI (okN (odR (!decide (fu a = -1) && decide (fu a / 2 = nI p9)) (pvC S fu a x y)) Oo a 3 j)))), (qx, .inl (cI, 12, .inl (fun j => nI (okN (odR (!decide (fu a = -1) && decide (fu a / 2 = nI p9)) (pvC S fu a x y)) X a x j)))), (qy, .inl (cI, 12, .inl (fun j => nI (okN (odR (!decide (fu a = -1) && decide (fu a / 2 = nI p9)) (pvC S fu a x y)) Y a y j))))] t) (va_A [(h0, .inr (5, [.ref hm, .ref hh, .ref he, .ref ha, .ref hp, .int 1])), (hm, .inr (4, [.int (nI n), .int (mI S), .int (mI Ce), .ref qh, .ref qn])), (qn, .inl (cI, 12, .inl (fun j => mI (N j)))), (hh, .inr (3, [.int tn, .ref qu, .ref qo, .ref qx, .ref qy, .ref qr, .ref qw])), (qu, .inl (cI, 12, .inl fu)), (qo, .inl (cI, 12, .inl (fun j => nI (Oo j)))), (qx, .inl (cI, 12, .inl (fun j => nI (X j)))), (qy, .inl (cI, 12, .inl (fun j => nI (Y j))))] sz)) 0 0 (va_A [(h0, .inr (5, [.ref hm, .ref hh, .ref he, .ref ha, .ref hp, .int 1])), (hm, .inr (4, [.int (nI n), .int (mI S), .int (mI Ce), .ref qh, .ref qn])), (qn, .inl (cI, 12, .inl (fun j => mI (N j)))), (hh, .inr (3, [.int tn, .ref qu, .ref qo, .ref qx, .ref qy, .ref qr, .ref qw])), (qu, .inl (cI, 12, .inl fu)), (qo, .inl (cI, 12, .inl (fun j => nI (Oo j)))), (qx, .inl (cI, 12, .inl (fun j => nI (X j)))), (qy, .inl (cI, 12, .inl (fun j => nI (Y j))))] sz) := by
  refine Met.ofW (cc := b_Sw_order) (maxL := 6) (ret := (some .int)) (by decide) rfl ?_
  intro p e s m args below meth c s₁ B hml hv
  obtain ⟨rfl, hsz, hP, hK, hD0, hX⟩ := hv
  have hx := B.exec
  have hb := B.bytes
  have hr := B.returns
  have hts0 := atoms_spec (ws := w_Sw_order) B.pre
  have hts : ∀ w ∈ TB, w.before _ s = true := fun w h => hts0 w (List.mem_cons_of_mem _ h)
  have hown : s.vm.findClass R_Sw = some m.cls := findClass_of_methodNamed B.named
  have hlocks := B.notSynchronized
  subst hsz
  have hXl := tx_lt hX
  have hXn := tx_far hP hX
  have hD := hD0.self (sz := s.heap.size)
  generalize hAe : va_A [(h0, .inr (5, [.ref hm, .ref hh, .ref he, .ref ha, .ref hp, .int 1])), (hm, .inr (4, [.int (nI n), .int (mI S), .int (mI Ce), .ref qh, .ref qn])), (qn, .inl (cI, 12, .inl (fun j => mI (N j)))), (hh, .inr (3, [.int tn, .ref qu, .ref qo, .ref qx, .ref qy, .ref qr, .ref qw])), (qu, .inl (cI, 12, .inl fu)), (qo, .inl (cI, 12, .inl (fun j => nI (Oo j)))), (qx, .inl (cI, 12, .inl (fun j => nI (X j)))), (qy, .inl (cI, 12, .inl (fun j => nI (Y j))))] s.heap.size = A at hD hXn ⊢
  have hA : ∀ q : Nat, s.heap.size ≤ q → A q := fun q h => by rw [← hAe]; exact Or.inr h
  have hS : va_S A s.heap s.heap [] := va_S.rf
  have hXH : s.heap[aT]? = s.heap[aT]? := rfl
  have hl := lv_entry ([.ref h0, .int (nI p9), .int (nI a), .int 3, .int (nI x), .int (nI y)]) (n := 6) (Nat.le_of_ble_eq_true rfl)
  rw [lg_entry_eq]
  generalize (lg_sl ([.ref h0, .int (nI p9), .int (nI a), .int 3, .int (nI x), .int (nI y)]) ++ List.replicate (6 - (lg_sl ([.ref h0, .int (nI p9), .int (nI a), .int 3, .int (nI x), .int (nI y)])).length) Slot.unset).toArray = ls at hl ⊢
  have hl : lv_has ls 6 [(0, .ref h0), (1, .int (nI p9)), (2, .int (nI a)), (3, .int 3), (4, .int (nI x)), (5, .int (nI y))] := hl
  refine lv_iload_n hx hb d_Sw_order_0 rfl (lv_at hl 1 rfl) ?_
  have hPc := hP.sub (ws' := []) [] rfl
  refine vp_callSi (va_Run.run (va_runS (As := [.int (nI p9)]) (rest := []) ⟨hx, hb, hml, hown, hts⟩ (c_Sw_isPlayerY l D cI cZ cJ cS aT ceT  p9 h_p) (va_cwS 1 hts (tb_3 wd_299 wd_300 wd_1 (tb_c wd_301)) rfl rfl rfl ⟨by decide, by decide, by decide +kernel⟩ ⟨Nat.le_of_ble_eq_true rfl, Nat.le_of_ble_eq_true rfl⟩) (tP_S hK hX (hS.2.1 aT hXl hXn) hPc) rfl rfl hl.1 rfl (lv_room (Nat.le_of_ble_eq_true rfl)) d_Sw_order_1 ⟨Nat.le_of_ble_eq_true rfl, Nat.le_of_ble_eq_true rfl⟩)) (fun r1 hr9 => ?_)
  rw [hr9]
  refine lv_if_eq (tgt := 27) hx hb d_Sw_order_4 (by decide) (fun h0 => absurd h0 (by decide)) (fun _ => ?_)
  refine lv_aload_n hx hb d_Sw_order_7 rfl (lv_at hl 0 rfl) ?_
  refine va_get (D := D) (ci := 5) (v := .ref hm) (C := R_Sw) (T := T_Sw) (N := 6) hx hb hts hin_Sw hown hK hP 0 rfl rfl 0 (by decide) (hts _ wd_201) (fun _ h9 => h9) rfl d_Sw_order_8 ?_
  refine lv_iload_n hx hb d_Sw_order_11 rfl (lv_at hl 2 rfl) ?_
  have hPc := hP.sub (ws' := [(hm, .inr (4, [.int (nI n), .int (mI S), .int (mI Ce), .ref qh, .ref qn]))]) [1] rfl
  refine vp_callSi (va_Run.run (va_runV (As := [.int (nI a)]) (rest := []) ⟨hx, hb, hml, hown, hts⟩ (c_Wm_hasY l D cI cZ cJ cS aT ceT  hm qh qn n S Ce a hn h_a) (cwV 1 hts (tb_4 wd_224 wd_225 wd_226 wd_2 (tb_c wd_227)) rfl rfl rfl ⟨rfl, by decide, by decide, by decide +kernel⟩ ⟨Nat.le_of_ble_eq_true rfl, Nat.le_of_ble_eq_true rfl⟩) (tP_V hK hX (hS.2.1 aT hXl hXn) hPc (q := 0) rfl rfl) rfl rfl hl.1 rfl (lv_room (Nat.le_of_ble_eq_true rfl)) d_Sw_order_12 ⟨Nat.le_of_ble_eq_true rfl, Nat.le_of_ble_eq_true rfl⟩)) (fun r3 hr9 => ?_)
  rw [hr9]
  refine lv_if_eq (tgt := 27) hx hb d_Sw_order_15 (by decide) (fun h0 => absurd h0 (by decide)) (fun _ => ?_)
  refine lv_iload_n hx hb d_Sw_order_18 rfl (lv_at hl 3 rfl) ?_
  refine lv_if_lt (tgt := 27) hx hb d_Sw_order_19 (by decide) (fun h0 => absurd h0 (by decide)) (fun _ => ?_)
  refine lv_iload_n hx hb d_Sw_order_22 rfl (lv_at hl 3 rfl) ?_
  refine lv_iconst (v := 3) hx hb d_Sw_order_23 (by decide) ?_
  refine lv_icmp_le (tgt := 35) hx hb d_Sw_order_24 (by decide) (fun _ => ?_) (fun h0 => absurd (by decide) h0)
  refine lv_iload_n hx hb d_Sw_order_35 rfl (lv_at hl 3 rfl) ?_
  have hPc := hP.sub (ws' := []) [] rfl
  refine vp_callSi (va_Run.run (va_runS (As := [.int 3]) (rest := []) ⟨hx, hb, hml, hown, hts⟩ (c_Sw_hasX3 l D cI cZ cJ cS aT ceT   ) (va_cwS 1 hts (tb_3 wd_459 wd_460 wd_1 (tb_c wd_461)) rfl rfl rfl ⟨by decide, by decide, by decide +kernel⟩ ⟨Nat.le_of_ble_eq_true rfl, Nat.le_of_ble_eq_true rfl⟩) (tP_S hK hX (hS.2.1 aT hXl hXn) hPc) rfl rfl hl.1 rfl (lv_room (Nat.le_of_ble_eq_true rfl)) d_Sw_order_36 ⟨Nat.le_of_ble_eq_true rfl, Nat.le_of_ble_eq_true rfl⟩)) (fun r7 hr9 => ?_)
  rw [hr9]
  refine lv_if_eq (tgt := 54) hx hb d_Sw_order_39 (by decide) (fun h0 => absurd h0 (by decide)) (fun _ => ?_)
  refine lv_aload_n hx hb d_Sw_order_42 rfl (lv_at hl 0 rfl) ?_
  refine va_get (D := D) (ci := 5) (v := .ref hm) (C := R_Sw) (T := T_Sw) (N := 6) hx hb hts hin_Sw hown hK hP 0 rfl rfl 0 (by decide) (hts _ wd_201) (fun _ h9 => h9) rfl d_Sw_order_43 ?_
  refine lv_iload hx hb d_Sw_order_46 (lv_at hl 4 rfl) ?_
  have hPc := hP.sub (ws' := [(hm, .inr (4, [.int (nI n), .int (mI S), .int (mI Ce), .ref qh, .ref qn]))]) [1] rfl
  refine vp_callSi (va_Run.run (va_runV (As := [.int (nI x)]) (rest := []) ⟨hx, hb, hml, hown, hts⟩ (c_Wm_hasY l D cI cZ cJ cS aT ceT  hm qh qn n S Ce x hn h_x) (cwV 1 hts (tb_4 wd_224 wd_225 wd_226 wd_2 (tb_c wd_227)) rfl rfl rfl ⟨rfl, by decide, by decide, by decide +kernel⟩ ⟨Nat.le_of_ble_eq_true rfl, Nat.le_of_ble_eq_true rfl⟩) (tP_V hK hX (hS.2.1 aT hXl hXn) hPc (q := 0) rfl rfl) rfl rfl hl.1 rfl (lv_room (Nat.le_of_ble_eq_true rfl)) d_Sw_order_48 ⟨Nat.le_of_ble_eq_true rfl, Nat.le_of_ble_eq_true rfl⟩)) (fun r9 hr9 => ?_)
  rw [hr9]
  refine lv_if_eq (tgt := 73) hx hb d_Sw_order_51 (by decide) (fun h0 => absurd h0 (by decide)) (fun _ => ?_)
  refine lv_iload_n hx hb d_Sw_order_54 rfl (lv_at hl 3 rfl) ?_
  have hPc := hP.sub (ws' := []) [] rfl
  refine vp_callSi (va_Run.run (va_runS (As := [.int 3]) (rest := []) ⟨hx, hb, hml, hown, hts⟩ (c_Sw_hasY3 l D cI cZ cJ cS aT ceT   ) (va_cwS 1 hts (tb_3 wd_462 wd_463 wd_1 (tb_c wd_464)) rfl rfl rfl ⟨by decide, by decide, by decide +kernel⟩ ⟨Nat.le_of_ble_eq_true rfl, Nat.le_of_ble_eq_true rfl⟩) (tP_S hK hX (hS.2.1 aT hXl hXn) hPc) rfl rfl hl.1 rfl (lv_room (Nat.le_of_ble_eq_true rfl)) d_Sw_order_55 ⟨Nat.le_of_ble_eq_true rfl, Nat.le_of_ble_eq_true rfl⟩)) (fun r11 hr9 => ?_)
  rw [hr9]
  refine lv_if_eq (tgt := 81) hx hb d_Sw_order_58 (by decide) (fun h0 => absurd h0 (by decide)) (fun _ => ?_)
  refine lv_aload_n hx hb d_Sw_order_61 rfl (lv_at hl 0 rfl) ?_
  refine va_get (D := D) (ci := 5) (v := .ref hm) (C := R_Sw) (T := T_Sw) (N := 6) hx hb hts hin_Sw hown hK hP 0 rfl rfl 0 (by decide) (hts _ wd_201) (fun _ h9 => h9) rfl d_Sw_order_62 ?_
  refine lv_iload hx hb d_Sw_order_65 (lv_at hl 5 rfl) ?_
  have hPc := hP.sub (ws' := [(hm, .inr (4, [.int (nI n), .int (mI S), .int (mI Ce), .ref qh, .ref qn]))]) [1] rfl
  refine vp_callSi (va_Run.run (va_runV (As := [.int (nI y)]) (rest := []) ⟨hx, hb, hml, hown, hts⟩ (c_Wm_hasY l D cI cZ cJ cS aT ceT  hm qh qn n S Ce y hn h_y) (cwV 1 hts (tb_4 wd_224 wd_225 wd_226 wd_2 (tb_c wd_227)) rfl rfl rfl ⟨rfl, by decide, by decide, by decide +kernel⟩ ⟨Nat.le_of_ble_eq_true rfl, Nat.le_of_ble_eq_true rfl⟩) (tP_V hK hX (hS.2.1 aT hXl hXn) hPc (q := 0) rfl rfl) rfl rfl hl.1 rfl (lv_room (Nat.le_of_ble_eq_true rfl)) d_Sw_order_67 ⟨Nat.le_of_ble_eq_true rfl, Nat.le_of_ble_eq_true rfl⟩)) (fun r13 hr9 => ?_)
  rw [hr9]
  refine lv_if_ne (tgt := 81) hx hb d_Sw_order_70 (by decide) (fun _ => ?_) (fun h0 => absurd h0 (by decide))
  refine lv_aload_n hx hb d_Sw_order_81 rfl (lv_at hl 0 rfl) ?_
  refine va_get (D := D) (ci := 5) (v := .int 1) (C := R_Sw) (T := T_Sw) (N := 6) hx hb hts hin_Sw hown hK hP 0 rfl rfl 5 (by decide) (hts _ wd_206) (fun _ h9 => h9) rfl d_Sw_order_82 ?_
  refine lv_iconst (v := 1) hx hb d_Sw_order_85 (by decide) ?_
  refine lv_icmp_eq (tgt := 97) hx hb d_Sw_order_86 (by decide) (fun _ => ?_) (fun h0 => absurd (by decide) h0)
  refine lv_aload_n hx hb d_Sw_order_97 rfl (lv_at hl 0 rfl) ?_
  refine va_get (D := D) (ci := 5) (v := .ref hh) (C := R_Sw) (T := T_Sw) (N := 6) hx hb hts hin_Sw hown hK hP 0 rfl rfl 1 (by decide) (hts _ wd_202) (fun _ h9 => h9) rfl d_Sw_order_98 ?_
  refine lv_iload_n hx hb d_Sw_order_101 rfl (lv_at hl 2 rfl) ?_
  have hPc := hP.sub (ws' := [(hh, .inr (3, [.int tn, .ref qu, .ref qo, .ref qx, .ref qy, .ref qr, .ref qw])), (qu, .inl (cI, 12, .inl fu))]) [3, 4] rfl
  refine vp_callSi (va_Run.run (va_runV (As := [.int (nI a)]) (rest := []) ⟨hx, hb, hml, hown, hts⟩ (c_Sh_hasUnitP l D cI cZ cJ cS aT ceT  hh tn qu qo qx qy qr qw fu a (Nat.lt_of_lt_of_le h_a hn)) (cwV 1 hts (tb_4 wd_286 wd_287 wd_288 wd_3 (tb_c wd_289)) rfl rfl rfl ⟨rfl, by decide, by decide, by decide +kernel⟩ ⟨Nat.le_of_ble_eq_true rfl, Nat.le_of_ble_eq_true rfl⟩) (tP_V hK hX (hS.2.1 aT hXl hXn) hPc (q := 0) rfl rfl) rfl rfl hl.1 rfl (lv_room (Nat.le_of_ble_eq_true rfl)) d_Sw_order_102 ⟨Nat.le_of_ble_eq_true rfl, Nat.le_of_ble_eq_true rfl⟩)) (fun r16 hr9 => ?_)
  rw [hr9]
  rcases bI_c (!decide (fu a = -1)) with ⟨hb18, e9⟩ | ⟨hb18, e9⟩
  · refine tr_top e9 ?_
    refine lv_if_eq (tgt := 120) hx hb d_Sw_order_105 (by decide) (fun h0 => absurd h0 (by decide)) (fun _ => ?_)
    refine lv_aload_n hx hb d_Sw_order_108 rfl (lv_at hl 0 rfl) ?_
    refine va_get (D := D) (ci := 5) (v := .ref hh) (C := R_Sw) (T := T_Sw) (N := 6) hx hb hts hin_Sw hown hK hP 0 rfl rfl 1 (by decide) (hts _ wd_202) (fun _ h9 => h9) rfl d_Sw_order_109 ?_
    refine lv_iload_n hx hb d_Sw_order_112 rfl (lv_at hl 2 rfl) ?_
    have hPc := hP.sub (ws' := [(hh, .inr (3, [.int tn, .ref qu, .ref qo, .ref qx, .ref qy, .ref qr, .ref qw])), (qu, .inl (cI, 12, .inl fu))]) [3, 4] rfl
    refine vp_callSi (va_Run.run (va_runV (As := [.int (nI a)]) (rest := []) ⟨hx, hb, hml, hown, hts⟩ (c_Sh_playerAtP l D cI cZ cJ cS aT ceT  hh tn qu qo qx qy qr qw fu a (Nat.lt_of_lt_of_le h_a hn)) (cwV 1 hts (tb_4 wd_465 wd_312 wd_313 wd_3 (tb_c wd_314)) rfl rfl rfl ⟨rfl, by decide, by decide, by decide +kernel⟩ ⟨Nat.le_of_ble_eq_true rfl, Nat.le_of_ble_eq_true rfl⟩) (tP_V hK hX (hS.2.1 aT hXl hXn) hPc (q := 0) rfl rfl) rfl rfl hl.1 rfl (lv_room (Nat.le_of_ble_eq_true rfl)) d_Sw_order_113 ⟨Nat.le_of_ble_eq_true rfl, Nat.le_of_ble_eq_true rfl⟩)) (fun r20 hr9 => ?_)
    rw [hr9]
    refine lv_iload_n hx hb d_Sw_order_116 rfl (lv_at hl 1 rfl) ?_
    refine lv_icmp_eq (tgt := 122) hx hb d_Sw_order_117 (by decide) (fun hc21 => ?_) (fun hc21 => ?_)
    · -- 117 taken
      refine lv_aload_n hx hb d_Sw_order_122 rfl (lv_at hl 0 rfl) ?_
      refine lv_iload_n hx hb d_Sw_order_123 rfl (lv_at hl 2 rfl) ?_
      refine lv_iload_n hx hb d_Sw_order_124 rfl (lv_at hl 3 rfl) ?_
      refine lv_iload hx hb d_Sw_order_125 (lv_at hl 4 rfl) ?_
      refine lv_iload hx hb d_Sw_order_127 (lv_at hl 5 rfl) ?_
      have hPc := hP.sub (ws' := [(h0, .inr (5, [.ref hm, .ref hh, .ref he, .ref ha, .ref hp, .int 1])), (hm, .inr (4, [.int (nI n), .int (mI S), .int (mI Ce), .ref qh, .ref qn])), (qn, .inl (cI, 12, .inl (fun j => mI (N j)))), (hh, .inr (3, [.int tn, .ref qu, .ref qo, .ref qx, .ref qy, .ref qr, .ref qw])), (qu, .inl (cI, 12, .inl fu))]) [0, 1, 2, 3, 4] rfl
      refine vp_callSi (va_Run.run (va_runV (As := [.int (nI a), .int 3, .int (nI x), .int (nI y)]) (rest := []) ⟨hx, hb, hml, hown, hts⟩ (c_Sw_poss3 l D cI cZ cJ cS aT ceT  h0 hm hh he ha hp 1 qh qn n S Ce N tn qu qo qx qy qr qw fu a x y (Nat.lt_of_lt_of_le h_a hn) (Nat.lt_of_lt_of_le h_x hn) (Nat.lt_of_lt_of_le h_y hn)) (cwV 4 hts (tb_4 wd_466 wd_468 wp_3 wd_1 (tb_c wd_469)) rfl rfl rfl ⟨rfl, by decide, by decide, by decide +kernel⟩ ⟨Nat.le_of_ble_eq_true rfl, Nat.le_of_ble_eq_true rfl⟩) (tP_V hK hX (hS.2.1 aT hXl hXn) hPc (q := 0) rfl rfl) rfl rfl hl.1 rfl (lv_room (Nat.le_of_ble_eq_true rfl)) d_Sw_order_129 ⟨Nat.le_of_ble_eq_true rfl, Nat.le_of_ble_eq_true rfl⟩)) (fun r22 hr9 => ?_)
      rw [hr9]
      rcases bI_c (pvC S fu a x y) with ⟨hb24, e9⟩ | ⟨hb24, e9⟩
      · refine tr_top e9 ?_
        refine lv_if_ne (tgt := 137) hx hb d_Sw_order_132 (by decide) (fun _ => ?_) (fun h0 => absurd h0 (by decide))
        refine lv_aload_n hx hb d_Sw_order_137 rfl (lv_at hl 0 rfl) ?_
        refine va_get (D := D) (ci := 5) (v := .ref hh) (C := R_Sw) (T := T_Sw) (N := 6) hx hb hts hin_Sw hown hK hP 0 rfl rfl 1 (by decide) (hts _ wd_202) (fun _ h9 => h9) rfl d_Sw_order_138 ?_
        refine lv_iload_n hx hb d_Sw_order_141 rfl (lv_at hl 2 rfl) ?_
        refine lv_iload_n hx hb d_Sw_order_142 rfl (lv_at hl 3 rfl) ?_
        refine lv_iload_n hx hb d_Sw_order_143 rfl (lv_at hl 3 rfl) ?_
        have hPc := hP.sub (ws' := []) [] rfl
        refine vp_callSi (va_Run.run (va_runS (As := [.int 3]) (rest := [.int 3, .int (nI a), .ref hh]) ⟨hx, hb, hml, hown, hts⟩ (c_Sw_hasX3 l D cI cZ cJ cS aT ceT   ) (va_cwS 1 hts (tb_3 wd_459 wd_460 wd_1 (tb_c wd_461)) rfl rfl rfl ⟨by decide, by decide, by decide +kernel⟩ ⟨Nat.le_of_ble_eq_true rfl, Nat.le_of_ble_eq_true rfl⟩) (tP_S hK hX (hS.2.1 aT hXl hXn) hPc) rfl rfl hl.1 rfl (lv_room (Nat.le_of_ble_eq_true rfl)) d_Sw_order_144 ⟨Nat.le_of_ble_eq_true rfl, Nat.le_of_ble_eq_true rfl⟩)) (fun r26 hr9 => ?_)
        rw [hr9]
        refine lv_if_eq (tgt := 155) hx hb d_Sw_order_147 (by decide) (fun h0 => absurd h0 (by decide)) (fun _ => ?_)
        refine lv_iload hx hb d_Sw_order_150 (lv_at hl 4 rfl) ?_
        refine lv_goto (tgt := 156) hx hb d_Sw_order_152 (by decide) ?_
        refine lv_iload_n hx hb d_Sw_order_156 rfl (lv_at hl 3 rfl) ?_
        have hPc := hP.sub (ws' := []) [] rfl
        refine vp_callSi (va_Run.run (va_runS (As := [.int 3]) (rest := [.int (nI x), .int 3, .int (nI a), .ref hh]) ⟨hx, hb, hml, hown, hts⟩ (c_Sw_hasY3 l D cI cZ cJ cS aT ceT   ) (va_cwS 1 hts (tb_3 wd_462 wd_463 wd_1 (tb_c wd_464)) rfl rfl rfl ⟨by decide, by decide, by decide +kernel⟩ ⟨Nat.le_of_ble_eq_true rfl, Nat.le_of_ble_eq_true rfl⟩) (tP_S hK hX (hS.2.1 aT hXl hXn) hPc) rfl rfl hl.1 rfl (lv_room (Nat.le_of_ble_eq_true rfl)) d_Sw_order_157 ⟨Nat.le_of_ble_eq_true rfl, Nat.le_of_ble_eq_true rfl⟩)) (fun r28 hr9 => ?_)
        rw [hr9]
        refine lv_if_eq (tgt := 168) hx hb d_Sw_order_160 (by decide) (fun h0 => absurd h0 (by decide)) (fun _ => ?_)
        refine lv_iload hx hb d_Sw_order_163 (lv_at hl 5 rfl) ?_
        refine lv_goto (tgt := 169) hx hb d_Sw_order_165 (by decide) ?_
        have hPc := hP.sub (ws' := [(hh, .inr (3, [.int tn, .ref qu, .ref qo, .ref qx, .ref qy, .ref qr, .ref qw])), (qo, .inl (cI, 12, .inl (fun j => nI (Oo j)))), (qx, .inl (cI, 12, .inl (fun j => nI (X j)))), (qy, .inl (cI, 12, .inl (fun j => nI (Y j))))]) [3, 5, 6, 7] rfl
        have hDc := hD.sub (ws' := [(hh, .inr (3, [.int tn, .ref qu, .ref qo, .ref qx, .ref qy, .ref qr, .ref qw])), (qo, .inl (cI, 12, .inl (fun j => nI (Oo j)))), (qx, .inl (cI, 12, .inl (fun j => nI (X j)))), (qy, .inl (cI, 12, .inl (fun j => nI (Y j))))]) [3, 5, 6, 7] (by decide) rfl
        have hFc := va_free (wc := [(hh, .inr (3, [.int tn, .ref qu, .ref qo, .ref qx, .ref qy, .ref qr, .ref qw])), (qo, .inl (cI, 12, .inl (fun j => nI (Oo j)))), (qx, .inl (cI, 12, .inl (fun j => nI (X j)))), (qy, .inl (cI, 12, .inl (fun j => nI (Y j))))]) hD hS hA [3, 5, 6, 7] rfl
        refine va_callv (va_runV (As := [.int (nI a), .int 3, .int (nI x), .int (nI y)]) (rest := []) ⟨hx, hb, hml, hown, hts⟩ (c_Sh_write l D cI cZ cJ cS aT ceT s.heap.size hh tn qu qo qx qy qr qw Oo X Y a (3 : Nat) x y (Nat.lt_of_lt_of_le h_a hn)) (cwV 4 hts (tb_4 wd_483 wd_484 wd_485 wd_3 (tb_c wd_486)) rfl rfl rfl ⟨rfl, by decide, by decide, by decide +kernel⟩ ⟨Nat.le_of_ble_eq_true rfl, Nat.le_of_ble_eq_true rfl⟩) (tH_V hK hX (hS.2.1 aT hXl hXn) hPc hDc (q := 0) rfl rfl) rfl rfl hl.1 rfl (lv_room (Nat.le_of_ble_eq_true rfl)) d_Sw_order_169 ⟨Nat.le_of_ble_eq_true rfl, Nat.le_of_ble_eq_true rfl⟩) hS (fun q _ h => hFc q h) hFc (fun u t H1 locs ht hvm h9 hB hz1 hk1 hS => ?_)
        obtain ⟨hP1, hD1⟩ := hB
        rw [ht] at hP1
        obtain ⟨hP, hD⟩ := va_join (wr := [(h0, .inr (5, [.ref hm, .ref hh, .ref he, .ref ha, .ref hp, .int 1])), (hm, .inr (4, [.int (nI n), .int (mI S), .int (mI Ce), .ref qh, .ref qn])), (qn, .inl (cI, 12, .inl (fun j => mI (N j)))), (qu, .inl (cI, 12, .inl fu))]) (w1 := [(hh, .inr (3, [.int tn, .ref qu, .ref qo, .ref qx, .ref qy, .ref qr, .ref qw])), (qo, .inl (cI, 12, .inl (fun j => nI (upN Oo a (3 : Nat) j)))), (qx, .inl (cI, 12, .inl (fun j => nI (upN X a x j)))), (qy, .inl (cI, 12, .inl (fun j => nI (upN Y a y j))))]) hP hD [3, 5, 6, 7] [0, 1, 2, 4] rfl rfl (by decide) (by decide) hk1 hFc hP1 hD1
        generalize H1 = H at hP hS ⊢
        have hP : va_P D vwCl [(h0, .inr (5, [.ref hm, .ref hh, .ref he, .ref ha, .ref hp, .int 1])), (hm, .inr (4, [.int (nI n), .int (mI S), .int (mI Ce), .ref qh, .ref qn])), (qn, .inl (cI, 12, .inl (fun j => mI (N j)))), (qu, .inl (cI, 12, .inl fu)), (hh, .inr (3, [.int tn, .ref qu, .ref qo, .ref qx, .ref qy, .ref qr, .ref qw])), (qo, .inl (cI, 12, .inl (fun j => nI (upN Oo a (3 : Nat) j)))), (qx, .inl (cI, 12, .inl (fun j => nI (upN X a x j)))), (qy, .inl (cI, 12, .inl (fun j => nI (upN Y a y j))))] H := hP
        have hD : va_D A [(h0, .inr (5, [.ref hm, .ref hh, .ref he, .ref ha, .ref hp, .int 1])), (hm, .inr (4, [.int (nI n), .int (mI S), .int (mI Ce), .ref qh, .ref qn])), (qn, .inl (cI, 12, .inl (fun j => mI (N j)))), (qu, .inl (cI, 12, .inl fu)), (hh, .inr (3, [.int tn, .ref qu, .ref qo, .ref qx, .ref qy, .ref qr, .ref qw])), (qo, .inl (cI, 12, .inl (fun j => nI (upN Oo a (3 : Nat) j)))), (qx, .inl (cI, 12, .inl (fun j => nI (upN X a x j)))), (qy, .inl (cI, 12, .inl (fun j => nI (upN Y a y j))))] := hD
        refine lv_iconst (v := 0) hx hb d_Sw_order_172 (by decide) ?_
        have hP9 := hP.sub (ws' := [(h0, .inr (5, [.ref hm, .ref hh, .ref he, .ref ha, .ref hp, .int 1])), (hm, .inr (4, [.int (nI n), .int (mI S), .int (mI Ce), .ref qh, .ref qn])), (qn, .inl (cI, 12, .inl (fun j => mI (N j)))), (hh, .inr (3, [.int tn, .ref qu, .ref qo, .ref qx, .ref qy, .ref qr, .ref qw])), (qu, .inl (cI, 12, .inl fu)), (qo, .inl (cI, 12, .inl (fun j => nI (upN Oo a (3 : Nat) j)))), (qx, .inl (cI, 12, .inl (fun j => nI (upN X a x j)))), (qy, .inl (cI, 12, .inl (fun j => nI (upN Y a y j))))]) [0, 1, 2, 4, 3, 5, 6, 7] rfl
        have hD9 := hD.sub (ws' := [(h0, .inr (5, [.ref hm, .ref hh, .ref he, .ref ha, .ref hp, .int 1])), (hm, .inr (4, [.int (nI n), .int (mI S), .int (mI Ce), .ref qh, .ref qn])), (qn, .inl (cI, 12, .inl (fun j => mI (N j)))), (hh, .inr (3, [.int tn, .ref qu, .ref qo, .ref qx, .ref qy, .ref qr, .ref qw])), (qu, .inl (cI, 12, .inl fu)), (qo, .inl (cI, 12, .inl (fun j => nI (upN Oo a (3 : Nat) j)))), (qx, .inl (cI, 12, .inl (fun j => nI (upN X a x j)))), (qy, .inl (cI, 12, .inl (fun j => nI (upN Y a y j))))]) [0, 1, 2, 4, 3, 5, 6, 7] (by decide) rfl
        have ej : odR (!decide (fu a = -1) && decide (fu a / 2 = nI p9)) (pvC S fu a x y) = 0 := by simp only [odR, hb18, hb24] <;> simp [hb18, hc21, hb24]
        have hP9 : va_P D vwCl [(h0, .inr (5, [.ref hm, .ref hh, .ref he, .ref ha, .ref hp, .int 1])), (hm, .inr (4, [.int (nI n), .int (mI S), .int (mI Ce), .ref qh, .ref qn])), (qn, .inl (cI, 12, .inl (fun j => mI (N j)))), (hh, .inr (3, [.int tn, .ref qu, .ref qo, .ref qx, .ref qy, .ref qr, .ref qw])), (qu, .inl (cI, 12, .inl fu)), (qo, .inl (cI, 12, .inl (fun j => nI (okN (odR (!decide (fu a = -1) && decide (fu a / 2 = nI p9)) (pvC S fu a x y)) Oo a 3 j)))), (qx, .inl (cI, 12, .inl (fun j => nI (okN (odR (!decide (fu a = -1) && decide (fu a / 2 = nI p9)) (pvC S fu a x y)) X a x j)))), (qy, .inl (cI, 12, .inl (fun j => nI (okN (odR (!decide (fu a = -1) && decide (fu a / 2 = nI p9)) (pvC S fu a x y)) Y a y j))))] H := by rw [ej]; exact hP9
        have hD9 : va_D A [(h0, .inr (5, [.ref hm, .ref hh, .ref he, .ref ha, .ref hp, .int 1])), (hm, .inr (4, [.int (nI n), .int (mI S), .int (mI Ce), .ref qh, .ref qn])), (qn, .inl (cI, 12, .inl (fun j => mI (N j)))), (hh, .inr (3, [.int tn, .ref qu, .ref qo, .ref qx, .ref qy, .ref qr, .ref qw])), (qu, .inl (cI, 12, .inl fu)), (qo, .inl (cI, 12, .inl (fun j => nI (okN (odR (!decide (fu a = -1) && decide (fu a / 2 = nI p9)) (pvC S fu a x y)) Oo a 3 j)))), (qx, .inl (cI, 12, .inl (fun j => nI (okN (odR (!decide (fu a = -1) && decide (fu a / 2 = nI p9)) (pvC S fu a x y)) X a x j)))), (qy, .inl (cI, 12, .inl (fun j => nI (okN (odR (!decide (fu a = -1) && decide (fu a / 2 = nI p9)) (pvC S fu a x y)) Y a y j))))] := by rw [ej]; exact hD9
        exact W.iret (v := 0) hx hb hr (fun t ht hW => ⟨⟨0, (), rfl, by rw [ej]; rfl, by rw [ht]; exact hP9, hD9⟩, hS.F ht⟩) hS.2.2 d_Sw_order_173
      · refine tr_top e9 ?_
        refine lv_if_ne (tgt := 137) hx hb d_Sw_order_132 (by decide) (fun h0 => absurd (by decide) h0) (fun _ => ?_)
        refine lv_iconst (v := 2) hx hb d_Sw_order_135 (by decide) ?_
        have hP9 := hP.sub (ws' := [(h0, .inr (5, [.ref hm, .ref hh, .ref he, .ref ha, .ref hp, .int 1])), (hm, .inr (4, [.int (nI n), .int (mI S), .int (mI Ce), .ref qh, .ref qn])), (qn, .inl (cI, 12, .inl (fun j => mI (N j)))), (hh, .inr (3, [.int tn, .ref qu, .ref qo, .ref qx, .ref qy, .ref qr, .ref qw])), (qu, .inl (cI, 12, .inl fu)), (qo, .inl (cI, 12, .inl (fun j => nI (Oo j)))), (qx, .inl (cI, 12, .inl (fun j => nI (X j)))), (qy, .inl (cI, 12, .inl (fun j => nI (Y j))))]) [0, 1, 2, 3, 4, 5, 6, 7] rfl
        have hD9 := hD.sub (ws' := [(h0, .inr (5, [.ref hm, .ref hh, .ref he, .ref ha, .ref hp, .int 1])), (hm, .inr (4, [.int (nI n), .int (mI S), .int (mI Ce), .ref qh, .ref qn])), (qn, .inl (cI, 12, .inl (fun j => mI (N j)))), (hh, .inr (3, [.int tn, .ref qu, .ref qo, .ref qx, .ref qy, .ref qr, .ref qw])), (qu, .inl (cI, 12, .inl fu)), (qo, .inl (cI, 12, .inl (fun j => nI (Oo j)))), (qx, .inl (cI, 12, .inl (fun j => nI (X j)))), (qy, .inl (cI, 12, .inl (fun j => nI (Y j))))]) [0, 1, 2, 3, 4, 5, 6, 7] (by decide) rfl
        have ej : odR (!decide (fu a = -1) && decide (fu a / 2 = nI p9)) (pvC S fu a x y) = 2 := by simp only [odR, hb18, hb24] <;> simp [hb18, hc21, hb24]
        have hP9 : va_P D vwCl [(h0, .inr (5, [.ref hm, .ref hh, .ref he, .ref ha, .ref hp, .int 1])), (hm, .inr (4, [.int (nI n), .int (mI S), .int (mI Ce), .ref qh, .ref qn])), (qn, .inl (cI, 12, .inl (fun j => mI (N j)))), (hh, .inr (3, [.int tn, .ref qu, .ref qo, .ref qx, .ref qy, .ref qr, .ref qw])), (qu, .inl (cI, 12, .inl fu)), (qo, .inl (cI, 12, .inl (fun j => nI (okN (odR (!decide (fu a = -1) && decide (fu a / 2 = nI p9)) (pvC S fu a x y)) Oo a 3 j)))), (qx, .inl (cI, 12, .inl (fun j => nI (okN (odR (!decide (fu a = -1) && decide (fu a / 2 = nI p9)) (pvC S fu a x y)) X a x j)))), (qy, .inl (cI, 12, .inl (fun j => nI (okN (odR (!decide (fu a = -1) && decide (fu a / 2 = nI p9)) (pvC S fu a x y)) Y a y j))))] s.heap := by rw [ej]; exact hP9
        have hD9 : va_D A [(h0, .inr (5, [.ref hm, .ref hh, .ref he, .ref ha, .ref hp, .int 1])), (hm, .inr (4, [.int (nI n), .int (mI S), .int (mI Ce), .ref qh, .ref qn])), (qn, .inl (cI, 12, .inl (fun j => mI (N j)))), (hh, .inr (3, [.int tn, .ref qu, .ref qo, .ref qx, .ref qy, .ref qr, .ref qw])), (qu, .inl (cI, 12, .inl fu)), (qo, .inl (cI, 12, .inl (fun j => nI (okN (odR (!decide (fu a = -1) && decide (fu a / 2 = nI p9)) (pvC S fu a x y)) Oo a 3 j)))), (qx, .inl (cI, 12, .inl (fun j => nI (okN (odR (!decide (fu a = -1) && decide (fu a / 2 = nI p9)) (pvC S fu a x y)) X a x j)))), (qy, .inl (cI, 12, .inl (fun j => nI (okN (odR (!decide (fu a = -1) && decide (fu a / 2 = nI p9)) (pvC S fu a x y)) Y a y j))))] := by rw [ej]; exact hD9
        exact W.iret (v := 2) hx hb hr (fun t ht hW => ⟨⟨2, (), rfl, by rw [ej]; rfl, by rw [ht]; exact hP9, hD9⟩, hS.F ht⟩) hS.2.2 d_Sw_order_136
    · -- 117 not taken
      refine lv_iconst (v := 1) hx hb d_Sw_order_120 (by decide) ?_
      have hP9 := hP.sub (ws' := [(h0, .inr (5, [.ref hm, .ref hh, .ref he, .ref ha, .ref hp, .int 1])), (hm, .inr (4, [.int (nI n), .int (mI S), .int (mI Ce), .ref qh, .ref qn])), (qn, .inl (cI, 12, .inl (fun j => mI (N j)))), (hh, .inr (3, [.int tn, .ref qu, .ref qo, .ref qx, .ref qy, .ref qr, .ref qw])), (qu, .inl (cI, 12, .inl fu)), (qo, .inl (cI, 12, .inl (fun j => nI (Oo j)))), (qx, .inl (cI, 12, .inl (fun j => nI (X j)))), (qy, .inl (cI, 12, .inl (fun j => nI (Y j))))]) [0, 1, 2, 3, 4, 5, 6, 7] rfl
      have hD9 := hD.sub (ws' := [(h0, .inr (5, [.ref hm, .ref hh, .ref he, .ref ha, .ref hp, .int 1])), (hm, .inr (4, [.int (nI n), .int (mI S), .int (mI Ce), .ref qh, .ref qn])), (qn, .inl (cI, 12, .inl (fun j => mI (N j)))), (hh, .inr (3, [.int tn, .ref qu, .ref qo, .ref qx, .ref qy, .ref qr, .ref qw])), (qu, .inl (cI, 12, .inl fu)), (qo, .inl (cI, 12, .inl (fun j => nI (Oo j)))), (qx, .inl (cI, 12, .inl (fun j => nI (X j)))), (qy, .inl (cI, 12, .inl (fun j => nI (Y j))))]) [0, 1, 2, 3, 4, 5, 6, 7] (by decide) rfl
      have ej : odR (!decide (fu a = -1) && decide (fu a / 2 = nI p9)) (pvC S fu a x y) = 1 := by simp only [odR, hb18] <;> simp [hb18, hc21]
      have hP9 : va_P D vwCl [(h0, .inr (5, [.ref hm, .ref hh, .ref he, .ref ha, .ref hp, .int 1])), (hm, .inr (4, [.int (nI n), .int (mI S), .int (mI Ce), .ref qh, .ref qn])), (qn, .inl (cI, 12, .inl (fun j => mI (N j)))), (hh, .inr (3, [.int tn, .ref qu, .ref qo, .ref qx, .ref qy, .ref qr, .ref qw])), (qu, .inl (cI, 12, .inl fu)), (qo, .inl (cI, 12, .inl (fun j => nI (okN (odR (!decide (fu a = -1) && decide (fu a / 2 = nI p9)) (pvC S fu a x y)) Oo a 3 j)))), (qx, .inl (cI, 12, .inl (fun j => nI (okN (odR (!decide (fu a = -1) && decide (fu a / 2 = nI p9)) (pvC S fu a x y)) X a x j)))), (qy, .inl (cI, 12, .inl (fun j => nI (okN (odR (!decide (fu a = -1) && decide (fu a / 2 = nI p9)) (pvC S fu a x y)) Y a y j))))] s.heap := by rw [ej]; exact hP9
      have hD9 : va_D A [(h0, .inr (5, [.ref hm, .ref hh, .ref he, .ref ha, .ref hp, .int 1])), (hm, .inr (4, [.int (nI n), .int (mI S), .int (mI Ce), .ref qh, .ref qn])), (qn, .inl (cI, 12, .inl (fun j => mI (N j)))), (hh, .inr (3, [.int tn, .ref qu, .ref qo, .ref qx, .ref qy, .ref qr, .ref qw])), (qu, .inl (cI, 12, .inl fu)), (qo, .inl (cI, 12, .inl (fun j => nI (okN (odR (!decide (fu a = -1) && decide (fu a / 2 = nI p9)) (pvC S fu a x y)) Oo a 3 j)))), (qx, .inl (cI, 12, .inl (fun j => nI (okN (odR (!decide (fu a = -1) && decide (fu a / 2 = nI p9)) (pvC S fu a x y)) X a x j)))), (qy, .inl (cI, 12, .inl (fun j => nI (okN (odR (!decide (fu a = -1) && decide (fu a / 2 = nI p9)) (pvC S fu a x y)) Y a y j))))] := by rw [ej]; exact hD9
      exact W.iret (v := 1) hx hb hr (fun t ht hW => ⟨⟨1, (), rfl, by rw [ej]; rfl, by rw [ht]; exact hP9, hD9⟩, hS.F ht⟩) hS.2.2 d_Sw_order_121
  · refine tr_top e9 ?_
    refine lv_if_eq (tgt := 120) hx hb d_Sw_order_105 (by decide) (fun _ => ?_) (fun h0 => absurd (by decide) h0)
    refine lv_iconst (v := 1) hx hb d_Sw_order_120 (by decide) ?_
    have hP9 := hP.sub (ws' := [(h0, .inr (5, [.ref hm, .ref hh, .ref he, .ref ha, .ref hp, .int 1])), (hm, .inr (4, [.int (nI n), .int (mI S), .int (mI Ce), .ref qh, .ref qn])), (qn, .inl (cI, 12, .inl (fun j => mI (N j)))), (hh, .inr (3, [.int tn, .ref qu, .ref qo, .ref qx, .ref qy, .ref qr, .ref qw])), (qu, .inl (cI, 12, .inl fu)), (qo, .inl (cI, 12, .inl (fun j => nI (Oo j)))), (qx, .inl (cI, 12, .inl (fun j => nI (X j)))), (qy, .inl (cI, 12, .inl (fun j => nI (Y j))))]) [0, 1, 2, 3, 4, 5, 6, 7] rfl
    have hD9 := hD.sub (ws' := [(h0, .inr (5, [.ref hm, .ref hh, .ref he, .ref ha, .ref hp, .int 1])), (hm, .inr (4, [.int (nI n), .int (mI S), .int (mI Ce), .ref qh, .ref qn])), (qn, .inl (cI, 12, .inl (fun j => mI (N j)))), (hh, .inr (3, [.int tn, .ref qu, .ref qo, .ref qx, .ref qy, .ref qr, .ref qw])), (qu, .inl (cI, 12, .inl fu)), (qo, .inl (cI, 12, .inl (fun j => nI (Oo j)))), (qx, .inl (cI, 12, .inl (fun j => nI (X j)))), (qy, .inl (cI, 12, .inl (fun j => nI (Y j))))]) [0, 1, 2, 3, 4, 5, 6, 7] (by decide) rfl
    have ej : odR (!decide (fu a = -1) && decide (fu a / 2 = nI p9)) (pvC S fu a x y) = 1 := by simp only [odR, hb18] <;> simp [hb18]
    have hP9 : va_P D vwCl [(h0, .inr (5, [.ref hm, .ref hh, .ref he, .ref ha, .ref hp, .int 1])), (hm, .inr (4, [.int (nI n), .int (mI S), .int (mI Ce), .ref qh, .ref qn])), (qn, .inl (cI, 12, .inl (fun j => mI (N j)))), (hh, .inr (3, [.int tn, .ref qu, .ref qo, .ref qx, .ref qy, .ref qr, .ref qw])), (qu, .inl (cI, 12, .inl fu)), (qo, .inl (cI, 12, .inl (fun j => nI (okN (odR (!decide (fu a = -1) && decide (fu a / 2 = nI p9)) (pvC S fu a x y)) Oo a 3 j)))), (qx, .inl (cI, 12, .inl (fun j => nI (okN (odR (!decide (fu a = -1) && decide (fu a / 2 = nI p9)) (pvC S fu a x y)) X a x j)))), (qy, .inl (cI, 12, .inl (fun j => nI (okN (odR (!decide (fu a = -1) && decide (fu a / 2 = nI p9)) (pvC S fu a x y)) Y a y j))))] s.heap := by rw [ej]; exact hP9
    have hD9 : va_D A [(h0, .inr (5, [.ref hm, .ref hh, .ref he, .ref ha, .ref hp, .int 1])), (hm, .inr (4, [.int (nI n), .int (mI S), .int (mI Ce), .ref qh, .ref qn])), (qn, .inl (cI, 12, .inl (fun j => mI (N j)))), (hh, .inr (3, [.int tn, .ref qu, .ref qo, .ref qx, .ref qy, .ref qr, .ref qw])), (qu, .inl (cI, 12, .inl fu)), (qo, .inl (cI, 12, .inl (fun j => nI (okN (odR (!decide (fu a = -1) && decide (fu a / 2 = nI p9)) (pvC S fu a x y)) Oo a 3 j)))), (qx, .inl (cI, 12, .inl (fun j => nI (okN (odR (!decide (fu a = -1) && decide (fu a / 2 = nI p9)) (pvC S fu a x y)) X a x j)))), (qy, .inl (cI, 12, .inl (fun j => nI (okN (odR (!decide (fu a = -1) && decide (fu a / 2 = nI p9)) (pvC S fu a x y)) Y a y j))))] := by rw [ej]; exact hD9
    exact W.iret (v := 1) hx hb hr (fun t ht hW => ⟨⟨1, (), rfl, by rw [ej]; rfl, by rw [ht]; exact hP9, hD9⟩, hS.F ht⟩) hS.2.2 d_Sw_order_121
