
set_option maxHeartbeats 4000000 in
set_option maxRecDepth 100000 in
theorem c_Lw_area_2 (l : Launch) (D : va_G) (cI cZ cJ cS : ClassId) (aT : Nat) (ceT : Cell) (sz : Nat) (h0 hm hh he ha hp : Nat) (ph : Int32) (qh qn : Nat) (n seas cen : Int32) (k ce h : Int32) (oq : Nat) (hok : okA k ce h) (hph : ¬ (ph = 0 ∧ n < 12)) (hfl : l.flags = pinnedFlags ++ [noTraceFlag]) : Met l y_Lw_area w_Lw_area ({ frames := 7, cells := 1, slots := 6, locals := 105 }) (tH D cI cZ cJ cS aT ceT [.ref h0, .int k, .int ce, .int h, .ref oq] sz [(h0, .inr (5, [.ref hm, .ref hh, .ref he, .ref ha, .ref hp, .int ph])), (hm, .inr (4, [.int n, .int seas, .int cen, .ref qh, .ref qn]))]) (va_Qi (fun (r : Int32) (_ : Unit) => r = 2) (fun _ t => tB D (va_A [(h0, .inr (5, [.ref hm, .ref hh, .ref he, .ref ha, .ref hp, .int ph])), (hm, .inr (4, [.int n, .int seas, .int cen, .ref qh, .ref qn]))] sz) [(h0, .inr (5, [.ref hm, .ref hh, .ref he, .ref ha, .ref hp, .int ph])), (hm, .inr (4, [.int n, .int seas, .int cen, .ref qh, .ref qn]))] t) (va_A [(h0, .inr (5, [.ref hm, .ref hh, .ref he, .ref ha, .ref hp, .int ph])), (hm, .inr (4, [.int n, .int seas, .int cen, .ref qh, .ref qn]))] sz)) 1 6 (va_A [(h0, .inr (5, [.ref hm, .ref hh, .ref he, .ref ha, .ref hp, .int ph])), (hm, .inr (4, [.int n, .int seas, .int cen, .ref qh, .ref qn]))] sz) := by
  refine va_MetW (cc := b_Lw_area) (maxL := 6) (ret := (some .int)) (hh := [(0, 12, 15, 13), (0, 12, 19, 15)]) (by decide) rfl ?_
  intro p e s m args below meth c s₁ B hml hv
  obtain ⟨rfl, hsz, hP, hK, hD0, hX⟩ := hv
  have hx := B.exec
  have hb := B.bytes
  have hr := B.returns
  have hts0 := atoms_spec (ws := w_Lw_area) B.pre
  have hts : ∀ w ∈ TB, w.before _ s = true := fun w h => hts0 w (List.mem_cons_of_mem _ h)
  have hown : s.vm.findClass "SheetWarLaw" = some m.cls := findClass_of_methodNamed B.named
  have hlocks := B.notSynchronized
  have hTab := tx_tab B (hts0 _ (List.mem_cons_self ..))
  subst hsz
  have hXl := tx_lt hX
  have hXn := tx_far hP hX
  have hD := hD0.self (sz := s.heap.size)
  generalize hAe : va_A [(h0, .inr (5, [.ref hm, .ref hh, .ref he, .ref ha, .ref hp, .int ph])), (hm, .inr (4, [.int n, .int seas, .int cen, .ref qh, .ref qn]))] s.heap.size = A at hD hXn ⊢
  have hA : ∀ q : Nat, s.heap.size ≤ q → A q := fun q h => by rw [← hAe]; exact Or.inr h
  have hS : va_S A s.heap s.heap [] := va_S.rf
  have hXH : s.heap[aT]? = s.heap[aT]? := rfl
  have hl := lv_entry ([.ref h0, .int k, .int ce, .int h, .ref oq]) (n := 6) (Nat.le_of_ble_eq_true rfl)
  rw [lg_entry_eq]
  generalize (lg_sl ([.ref h0, .int k, .int ce, .int h, .ref oq]) ++ List.replicate (6 - (lg_sl ([.ref h0, .int k, .int ce, .int h, .ref oq])).length) Slot.unset).toArray = ls at hl ⊢
  have hl : lv_has ls 6 [(0, .ref h0), (1, .int k), (2, .int ce), (3, .int h), (4, .ref oq)] := hl
  refine lv_aload hx hb d_Lw_area_0 (lv_at hl 4 rfl) ?_
  refine lv_iconst (v := 0) hx hb d_Lw_area_2 (by decide) ?_
  refine lv_aload_n hx hb d_Lw_area_3 rfl (lv_at hl 0 rfl) ?_
  refine lv_iload_n hx hb d_Lw_area_4 rfl (lv_at hl 1 rfl) ?_
  refine lv_iload_n hx hb d_Lw_area_5 rfl (lv_at hl 2 rfl) ?_
  refine lv_iload_n hx hb d_Lw_area_6 rfl (lv_at hl 3 rfl) ?_
  have hPc := hP.sub (ws' := [(h0, .inr (5, [.ref hm, .ref hh, .ref he, .ref ha, .ref hp, .int ph])), (hm, .inr (4, [.int n, .int seas, .int cen, .ref qh, .ref qn]))]) [0, 1] rfl
  refine tx_callT (own := "SheetWarLaw") (C := "SheetWar") (As := [.int k, .int ce, .int h]) (rest := [.int 0, .ref oq]) (hpc := 19) ⟨hx, hb, hml, hown, hts⟩ (c_Sw_area_t2 l D cI cZ cJ cS aT ceT h0 hm hh he ha hp ph qh qn n seas cen k ce h hok hph hfl) (cwV 3 hts (tb_4 wd_324 wd_325 wd_326 wd_1 (tb_c wd_327)) rfl rfl rfl ⟨rfl, by decide, by decide, by decide +kernel⟩ ⟨Nat.le_of_ble_eq_true rfl, Nat.le_of_ble_eq_true rfl⟩) (tP_V hK hX (hS.2.1 aT hXl hXn) hPc (q := 0) rfl rfl) rfl rfl hl.1 (Nat.le_of_ble_eq_true rfl) d_Lw_area_7 ⟨Nat.le_of_ble_eq_true rfl, Nat.le_of_ble_eq_true rfl⟩ (tx_H2 hTab ⟨by decide, by decide, by decide⟩ (hts _ wd_322) hX.2.2.2.2.2.2.2.2.2.2 ⟨by decide, by decide, by decide⟩ (hts _ wd_323)) (fun x9 H1 hz9 hk9 => ?_)
  have hP := tx_ext hP hk9
  have hS := tx_extS hS hz9 hk9
  clear hk9 hz9
  generalize H1 = H at hP hS ⊢
  refine W.widen (k := 1) (n := 6) (by omega) (by omega) ?_
  refine lv_astore (lv' := [(5, .ref x9), (0, .ref h0), (1, .int k), (2, .int ce), (3, .int h), (4, .ref oq)]) hx hb d_Lw_area_19 hl (by decide) rfl (fun ls hl => ?_)
  refine lv_iconst (v := 2) hx hb d_Lw_area_21 (by decide) ?_
  have hP9 := hP.sub (ws' := [(h0, .inr (5, [.ref hm, .ref hh, .ref he, .ref ha, .ref hp, .int ph])), (hm, .inr (4, [.int n, .int seas, .int cen, .ref qh, .ref qn]))]) [0, 1] rfl
  have hD9 := hD.sub (ws' := [(h0, .inr (5, [.ref hm, .ref hh, .ref he, .ref ha, .ref hp, .int ph])), (hm, .inr (4, [.int n, .int seas, .int cen, .ref qh, .ref qn]))]) [0, 1] (by decide) rfl
  refine W.widen (k := 1) (n := 6) (by omega) (by omega) ?_
  exact W.iret (v := 2) hx hb hr (fun t ht hW => ⟨⟨2, (), rfl, rfl, by rw [ht]; exact hP9, hD9⟩, hS.F ht⟩) hS.2.2 d_Lw_area_22


set_option maxHeartbeats 4000000 in
set_option maxRecDepth 100000 in
theorem c_Lw_border_2 (l : Launch) (D : va_G) (cI cZ cJ cS : ClassId) (aT : Nat) (ceT : Cell) (sz : Nat) (h0 hm hh he ha hp : Nat) (ph : Int32) (qh qn : Nat) (n seas cen : Int32) (a b : Int32) (oq : Nat) (hok : ((0 ≤ a ∧ a < n) ∧ (0 ≤ b ∧ b < n) ∧ ¬ a = b)) (hph : ¬ ph = 0) (hfl : l.flags = pinnedFlags ++ [noTraceFlag]) : Met l y_Lw_border w_Lw_border ({ frames := 7, cells := 1, slots := 6, locals := 104 }) (tH D cI cZ cJ cS aT ceT [.ref h0, .int a, .int b, .ref oq] sz [(h0, .inr (5, [.ref hm, .ref hh, .ref he, .ref ha, .ref hp, .int ph])), (hm, .inr (4, [.int n, .int seas, .int cen, .ref qh, .ref qn]))]) (va_Qi (fun (r : Int32) (_ : Unit) => r = 2) (fun _ t => tB D (va_A [(h0, .inr (5, [.ref hm, .ref hh, .ref he, .ref ha, .ref hp, .int ph])), (hm, .inr (4, [.int n, .int seas, .int cen, .ref qh, .ref qn]))] sz) [(h0, .inr (5, [.ref hm, .ref hh, .ref he, .ref ha, .ref hp, .int ph])), (hm, .inr (4, [.int n, .int seas, .int cen, .ref qh, .ref qn]))] t) (va_A [(h0, .inr (5, [.ref hm, .ref hh, .ref he, .ref ha, .ref hp, .int ph])), (hm, .inr (4, [.int n, .int seas, .int cen, .ref qh, .ref qn]))] sz)) 1 6 (va_A [(h0, .inr (5, [.ref hm, .ref hh, .ref he, .ref ha, .ref hp, .int ph])), (hm, .inr (4, [.int n, .int seas, .int cen, .ref qh, .ref qn]))] sz) := by
  refine va_MetW (cc := b_Lw_border) (maxL := 5) (ret := (some .int)) (hh := [(0, 17, 20, 13), (0, 17, 24, 15)]) (by decide) rfl ?_
  intro p e s m args below meth c s₁ B hml hv
  obtain ⟨rfl, hsz, hP, hK, hD0, hX⟩ := hv
  have hx := B.exec
  have hb := B.bytes
  have hr := B.returns
  have hts0 := atoms_spec (ws := w_Lw_border) B.pre
  have hts : ∀ w ∈ TB, w.before _ s = true := fun w h => hts0 w (List.mem_cons_of_mem _ h)
  have hown : s.vm.findClass "SheetWarLaw" = some m.cls := findClass_of_methodNamed B.named
  have hlocks := B.notSynchronized
  have hTab := tx_tab B (hts0 _ (List.mem_cons_self ..))
  subst hsz
  have hXl := tx_lt hX
  have hXn := tx_far hP hX
  have hD := hD0.self (sz := s.heap.size)
  generalize hAe : va_A [(h0, .inr (5, [.ref hm, .ref hh, .ref he, .ref ha, .ref hp, .int ph])), (hm, .inr (4, [.int n, .int seas, .int cen, .ref qh, .ref qn]))] s.heap.size = A at hD hXn ⊢
  have hA : ∀ q : Nat, s.heap.size ≤ q → A q := fun q h => by rw [← hAe]; exact Or.inr h
  have hS : va_S A s.heap s.heap [] := va_S.rf
  have hXH : s.heap[aT]? = s.heap[aT]? := rfl
  have hl := lv_entry ([.ref h0, .int a, .int b, .ref oq]) (n := 5) (Nat.le_of_ble_eq_true rfl)
  rw [lg_entry_eq]
  generalize (lg_sl ([.ref h0, .int a, .int b, .ref oq]) ++ List.replicate (5 - (lg_sl ([.ref h0, .int a, .int b, .ref oq])).length) Slot.unset).toArray = ls at hl ⊢
  have hl : lv_has ls 5 [(0, .ref h0), (1, .int a), (2, .int b), (3, .ref oq)] := hl
  refine lv_aload_n hx hb d_Lw_border_0 rfl (lv_at hl 3 rfl) ?_
  refine lv_iconst (v := 0) hx hb d_Lw_border_1 (by decide) ?_
  refine lv_aload_n hx hb d_Lw_border_2 rfl (lv_at hl 0 rfl) ?_
  refine lv_iload_n hx hb d_Lw_border_3 rfl (lv_at hl 1 rfl) ?_
  refine lv_iload_n hx hb d_Lw_border_4 rfl (lv_at hl 2 rfl) ?_
  have hPc := hP.sub (ws' := [(h0, .inr (5, [.ref hm, .ref hh, .ref he, .ref ha, .ref hp, .int ph])), (hm, .inr (4, [.int n, .int seas, .int cen, .ref qh, .ref qn]))]) [0, 1] rfl
  refine tx_callT (own := "SheetWarLaw") (C := "SheetWar") (As := [.int a, .int b]) (rest := [.int 0, .ref oq]) (hpc := 24) ⟨hx, hb, hml, hown, hts⟩ (c_Sw_border_t2 l D cI cZ cJ cS aT ceT h0 hm hh he ha hp ph qh qn n seas cen a b hok hph hfl) (cwV 2 hts (tb_4 wd_415 wd_416 wd_417 wd_1 (tb_c wd_418)) rfl rfl rfl ⟨rfl, by decide, by decide, by decide +kernel⟩ ⟨Nat.le_of_ble_eq_true rfl, Nat.le_of_ble_eq_true rfl⟩) (tP_V hK hX (hS.2.1 aT hXl hXn) hPc (q := 0) rfl rfl) rfl rfl hl.1 (Nat.le_of_ble_eq_true rfl) d_Lw_border_5 ⟨Nat.le_of_ble_eq_true rfl, Nat.le_of_ble_eq_true rfl⟩ (tx_H2 hTab ⟨by decide, by decide, by decide⟩ (hts _ wd_322) hX.2.2.2.2.2.2.2.2.2.2 ⟨by decide, by decide, by decide⟩ (hts _ wd_323)) (fun x9 H1 hz9 hk9 => ?_)
  have hP := tx_ext hP hk9
  have hS := tx_extS hS hz9 hk9
  clear hk9 hz9
  generalize H1 = H at hP hS ⊢
  refine W.widen (k := 1) (n := 6) (by omega) (by omega) ?_
  refine lv_astore (lv' := [(4, .ref x9), (0, .ref h0), (1, .int a), (2, .int b), (3, .ref oq)]) hx hb d_Lw_border_24 hl (by decide) rfl (fun ls hl => ?_)
  refine lv_iconst (v := 2) hx hb d_Lw_border_26 (by decide) ?_
  have hP9 := hP.sub (ws' := [(h0, .inr (5, [.ref hm, .ref hh, .ref he, .ref ha, .ref hp, .int ph])), (hm, .inr (4, [.int n, .int seas, .int cen, .ref qh, .ref qn]))]) [0, 1] rfl
  have hD9 := hD.sub (ws' := [(h0, .inr (5, [.ref hm, .ref hh, .ref he, .ref ha, .ref hp, .int ph])), (hm, .inr (4, [.int n, .int seas, .int cen, .ref qh, .ref qn]))]) [0, 1] (by decide) rfl
  refine W.widen (k := 1) (n := 6) (by omega) (by omega) ?_
  exact W.iret (v := 2) hx hb hr (fun t ht hW => ⟨⟨2, (), rfl, rfl, by rw [ht]; exact hP9, hD9⟩, hS.F ht⟩) hS.2.2 d_Lw_border_27


set_option maxHeartbeats 4000000 in
set_option maxRecDepth 100000 in
theorem c_Lw_unit_2 (l : Launch) (D : va_G) (cI cZ cJ cS : ClassId) (aT : Nat) (ceT : Cell) (sz : Nat) (h0 hm hh he ha hp : Nat) (ph : Int32) (qh qn n : Nat) (S Ce : Nat → Bool) (N : Nat → Nat → Bool) (tn : Int32) (qu qo qx qy qr qw : Nat) (fu : Nat → Int32) (p9 a k : Nat) (hn : n ≤ 12) (h_a : a < n) (h_p : p9 < 4) (h_k : k < 2) (hbad : ¬ (ph = 0 ∧ fu a = -1 ∧ (if nI k = 0 then !S a else S a || anyB (fun j => N a j && S j) 12) = true)) (hfl : l.flags = pinnedFlags ++ [noTraceFlag]) : Met l y_Lw_unit w_Lw_unit ({ frames := 7, cells := 1, slots := 6, locals := 105 }) (tH D cI cZ cJ cS aT ceT [.ref h0, .int (nI a), .int (nI p9), .int (nI k)] sz [(h0, .inr (5, [.ref hm, .ref hh, .ref he, .ref ha, .ref hp, .int ph])), (hm, .inr (4, [.int (nI n), .int (mI S), .int (mI Ce), .ref qh, .ref qn])), (qn, .inl (cI, 12, .inl (fun j => mI (N j)))), (hh, .inr (3, [.int tn, .ref qu, .ref qo, .ref qx, .ref qy, .ref qr, .ref qw])), (qu, .inl (cI, 12, .inl fu))]) (va_Qi (fun (r : Int32) (_ : Unit) => r = 2) (fun _ t => tB D (va_A [(h0, .inr (5, [.ref hm, .ref hh, .ref he, .ref ha, .ref hp, .int ph])), (hm, .inr (4, [.int (nI n), .int (mI S), .int (mI Ce), .ref qh, .ref qn])), (qn, .inl (cI, 12, .inl (fun j => mI (N j)))), (hh, .inr (3, [.int tn, .ref qu, .ref qo, .ref qx, .ref qy, .ref qr, .ref qw])), (qu, .inl (cI, 12, .inl fu))] sz) [(h0, .inr (5, [.ref hm, .ref hh, .ref he, .ref ha, .ref hp, .int ph])), (hm, .inr (4, [.int (nI n), .int (mI S), .int (mI Ce), .ref qh, .ref qn])), (qn, .inl (cI, 12, .inl (fun j => mI (N j)))), (hh, .inr (3, [.int tn, .ref qu, .ref qo, .ref qx, .ref qy, .ref qr, .ref qw])), (qu, .inl (cI, 12, .inl fu))] t) (va_A [(h0, .inr (5, [.ref hm, .ref hh, .ref he, .ref ha, .ref hp, .int ph])), (hm, .inr (4, [.int (nI n), .int (mI S), .int (mI Ce), .ref qh, .ref qn])), (qn, .inl (cI, 12, .inl (fun j => mI (N j)))), (hh, .inr (3, [.int tn, .ref qu, .ref qo, .ref qx, .ref qy, .ref qr, .ref qw])), (qu, .inl (cI, 12, .inl fu))] sz)) 1 6 (va_A [(h0, .inr (5, [.ref hm, .ref hh, .ref he, .ref ha, .ref hp, .int ph])), (hm, .inr (4, [.int (nI n), .int (mI S), .int (mI Ce), .ref qh, .ref qn])), (qn, .inl (cI, 12, .inl (fun j => mI (N j)))), (hh, .inr (3, [.int tn, .ref qu, .ref qo, .ref qx, .ref qy, .ref qr, .ref qw])), (qu, .inl (cI, 12, .inl fu))] sz) := by
  refine va_MetW (cc := b_Lw_unit) (maxL := 5) (ret := (some .int)) (hh := [(0, 7, 10, 13), (0, 7, 14, 15)]) (by decide) rfl ?_
  intro p e s m args below meth c s₁ B hml hv
  obtain ⟨rfl, hsz, hP, hK, hD0, hX⟩ := hv
  have hx := B.exec
  have hb := B.bytes
  have hr := B.returns
  have hts0 := atoms_spec (ws := w_Lw_unit) B.pre
  have hts : ∀ w ∈ TB, w.before _ s = true := fun w h => hts0 w (List.mem_cons_of_mem _ h)
  have hown : s.vm.findClass "SheetWarLaw" = some m.cls := findClass_of_methodNamed B.named
  have hlocks := B.notSynchronized
  have hTab := tx_tab B (hts0 _ (List.mem_cons_self ..))
  subst hsz
  have hXl := tx_lt hX
  have hXn := tx_far hP hX
  have hD := hD0.self (sz := s.heap.size)
  generalize hAe : va_A [(h0, .inr (5, [.ref hm, .ref hh, .ref he, .ref ha, .ref hp, .int ph])), (hm, .inr (4, [.int (nI n), .int (mI S), .int (mI Ce), .ref qh, .ref qn])), (qn, .inl (cI, 12, .inl (fun j => mI (N j)))), (hh, .inr (3, [.int tn, .ref qu, .ref qo, .ref qx, .ref qy, .ref qr, .ref qw])), (qu, .inl (cI, 12, .inl fu))] s.heap.size = A at hD hXn ⊢
  have hA : ∀ q : Nat, s.heap.size ≤ q → A q := fun q h => by rw [← hAe]; exact Or.inr h
  have hS : va_S A s.heap s.heap [] := va_S.rf
  have hXH : s.heap[aT]? = s.heap[aT]? := rfl
  have hl := lv_entry ([.ref h0, .int (nI a), .int (nI p9), .int (nI k)]) (n := 5) (Nat.le_of_ble_eq_true rfl)
  rw [lg_entry_eq]
  generalize (lg_sl ([.ref h0, .int (nI a), .int (nI p9), .int (nI k)]) ++ List.replicate (5 - (lg_sl ([.ref h0, .int (nI a), .int (nI p9), .int (nI k)])).length) Slot.unset).toArray = ls at hl ⊢
  have hl : lv_has ls 5 [(0, .ref h0), (1, .int (nI a)), (2, .int (nI p9)), (3, .int (nI k))] := hl
  refine lv_aload_n hx hb d_Lw_unit_0 rfl (lv_at hl 0 rfl) ?_
  refine lv_iload_n hx hb d_Lw_unit_1 rfl (lv_at hl 1 rfl) ?_
  refine lv_iload_n hx hb d_Lw_unit_2 rfl (lv_at hl 2 rfl) ?_
  refine lv_iload_n hx hb d_Lw_unit_3 rfl (lv_at hl 3 rfl) ?_
  have hPc := hP.sub (ws' := [(h0, .inr (5, [.ref hm, .ref hh, .ref he, .ref ha, .ref hp, .int ph])), (hm, .inr (4, [.int (nI n), .int (mI S), .int (mI Ce), .ref qh, .ref qn])), (qn, .inl (cI, 12, .inl (fun j => mI (N j)))), (hh, .inr (3, [.int tn, .ref qu, .ref qo, .ref qx, .ref qy, .ref qr, .ref qw])), (qu, .inl (cI, 12, .inl fu))]) [0, 1, 2, 3, 4] rfl
  refine tx_callT (own := "SheetWarLaw") (C := "SheetWar") (As := [.int (nI a), .int (nI p9), .int (nI k)]) (rest := []) (hpc := 14) ⟨hx, hb, hml, hown, hts⟩ (c_Sw_unit_t2 l D cI cZ cJ cS aT ceT h0 hm hh he ha hp ph qh qn n S Ce N tn qu qo qx qy qr qw fu p9 a k hn h_a h_p h_k hbad hfl) (cwV 3 hts (tb_4 wd_426 wd_427 wd_428 wd_1 (tb_c wd_429)) rfl rfl rfl ⟨rfl, by decide, by decide, by decide +kernel⟩ ⟨Nat.le_of_ble_eq_true rfl, Nat.le_of_ble_eq_true rfl⟩) (tP_V hK hX (hS.2.1 aT hXl hXn) hPc (q := 0) rfl rfl) rfl rfl hl.1 (Nat.le_of_ble_eq_true rfl) d_Lw_unit_4 ⟨Nat.le_of_ble_eq_true rfl, Nat.le_of_ble_eq_true rfl⟩ (tx_H2 hTab ⟨by decide, by decide, by decide⟩ (hts _ wd_322) hX.2.2.2.2.2.2.2.2.2.2 ⟨by decide, by decide, by decide⟩ (hts _ wd_323)) (fun x9 H1 hz9 hk9 => ?_)
  have hP := tx_ext hP hk9
  have hS := tx_extS hS hz9 hk9
  clear hk9 hz9
  generalize H1 = H at hP hS ⊢
  refine W.widen (k := 1) (n := 6) (by omega) (by omega) ?_
  refine lv_astore (lv' := [(4, .ref x9), (0, .ref h0), (1, .int (nI a)), (2, .int (nI p9)), (3, .int (nI k))]) hx hb d_Lw_unit_14 hl (by decide) rfl (fun ls hl => ?_)
  refine lv_iconst (v := 2) hx hb d_Lw_unit_16 (by decide) ?_
  have hP9 := hP.sub (ws' := [(h0, .inr (5, [.ref hm, .ref hh, .ref he, .ref ha, .ref hp, .int ph])), (hm, .inr (4, [.int (nI n), .int (mI S), .int (mI Ce), .ref qh, .ref qn])), (qn, .inl (cI, 12, .inl (fun j => mI (N j)))), (hh, .inr (3, [.int tn, .ref qu, .ref qo, .ref qx, .ref qy, .ref qr, .ref qw])), (qu, .inl (cI, 12, .inl fu))]) [0, 1, 2, 3, 4] rfl
  have hD9 := hD.sub (ws' := [(h0, .inr (5, [.ref hm, .ref hh, .ref he, .ref ha, .ref hp, .int ph])), (hm, .inr (4, [.int (nI n), .int (mI S), .int (mI Ce), .ref qh, .ref qn])), (qn, .inl (cI, 12, .inl (fun j => mI (N j)))), (hh, .inr (3, [.int tn, .ref qu, .ref qo, .ref qx, .ref qy, .ref qr, .ref qw])), (qu, .inl (cI, 12, .inl fu))]) [0, 1, 2, 3, 4] (by decide) rfl
  refine W.widen (k := 1) (n := 6) (by omega) (by omega) ?_
  exact W.iret (v := 2) hx hb hr (fun t ht hW => ⟨⟨2, (), rfl, rfl, by rw [ht]; exact hP9, hD9⟩, hS.F ht⟩) hS.2.2 d_Lw_unit_17


set_option maxHeartbeats 4000000 in
set_option maxRecDepth 100000 in
theorem c_Lw_start_1 (l : Launch) (D : va_G) (cI cZ cJ cS : ClassId) (aT : Nat) (ceT : Cell) (sz : Nat) (h0 hm hh he ha hp : Nat) (ph : Int32) (hph : ¬ ph = 0) (hfl : l.flags = pinnedFlags ++ [noTraceFlag]) : Met l y_Lw_start w_Lw_start ({ frames := 7, cells := 1, slots := 6, locals := 102 }) (tH D cI cZ cJ cS aT ceT [.ref h0] sz [(h0, .inr (5, [.ref hm, .ref hh, .ref he, .ref ha, .ref hp, .int ph]))]) (va_Qi (fun (r : Int32) (_ : Unit) => r = 1) (fun _ t => tB D (va_A [(h0, .inr (5, [.ref hm, .ref hh, .ref he, .ref ha, .ref hp, .int ph]))] sz) [(h0, .inr (5, [.ref hm, .ref hh, .ref he, .ref ha, .ref hp, .int ph]))] t) (va_A [(h0, .inr (5, [.ref hm, .ref hh, .ref he, .ref ha, .ref hp, .int ph]))] sz)) 1 6 (va_A [(h0, .inr (5, [.ref hm, .ref hh, .ref he, .ref ha, .ref hp, .int ph]))] sz) := by
  refine va_MetW (cc := b_Lw_start) (maxL := 2) (ret := (some .int)) (hh := [(0, 4, 7, 15)]) (by decide) rfl ?_
  intro p e s m args below meth c s₁ B hml hv
  obtain ⟨rfl, hsz, hP, hK, hD0, hX⟩ := hv
  have hx := B.exec
  have hb := B.bytes
  have hr := B.returns
  have hts0 := atoms_spec (ws := w_Lw_start) B.pre
  have hts : ∀ w ∈ TB, w.before _ s = true := fun w h => hts0 w (List.mem_cons_of_mem _ h)
  have hown : s.vm.findClass "SheetWarLaw" = some m.cls := findClass_of_methodNamed B.named
  have hlocks := B.notSynchronized
  have hTab := tx_tab B (hts0 _ (List.mem_cons_self ..))
  subst hsz
  have hXl := tx_lt hX
  have hXn := tx_far hP hX
  have hD := hD0.self (sz := s.heap.size)
  generalize hAe : va_A [(h0, .inr (5, [.ref hm, .ref hh, .ref he, .ref ha, .ref hp, .int ph]))] s.heap.size = A at hD hXn ⊢
  have hA : ∀ q : Nat, s.heap.size ≤ q → A q := fun q h => by rw [← hAe]; exact Or.inr h
  have hS : va_S A s.heap s.heap [] := va_S.rf
  have hXH : s.heap[aT]? = s.heap[aT]? := rfl
  have hl := lv_entry ([.ref h0]) (n := 2) (Nat.le_of_ble_eq_true rfl)
  rw [lg_entry_eq]
  generalize (lg_sl ([.ref h0]) ++ List.replicate (2 - (lg_sl ([.ref h0])).length) Slot.unset).toArray = ls at hl ⊢
  have hl : lv_has ls 2 [(0, .ref h0)] := hl
  refine lv_aload_n hx hb d_Lw_start_0 rfl (lv_at hl 0 rfl) ?_
  have hPc := hP.sub (ws' := [(h0, .inr (5, [.ref hm, .ref hh, .ref he, .ref ha, .ref hp, .int ph]))]) [0] rfl
  refine tx_callT (own := "SheetWarLaw") (C := "SheetWar") (As := []) (rest := []) (hpc := 7) ⟨hx, hb, hml, hown, hts⟩ (c_Sw_start_t2 l D cI cZ cJ cS aT ceT h0 hm hh he ha hp ph hph hfl) (cwV 0 hts (tb_4 wd_440 wd_441 wd_442 wd_1 (tb_c wd_443)) rfl rfl rfl ⟨rfl, by decide, by decide, by decide +kernel⟩ ⟨Nat.le_of_ble_eq_true rfl, Nat.le_of_ble_eq_true rfl⟩) (tP_V hK hX (hS.2.1 aT hXl hXn) hPc (q := 0) rfl rfl) rfl rfl hl.1 (Nat.le_of_ble_eq_true rfl) d_Lw_start_1 ⟨Nat.le_of_ble_eq_true rfl, Nat.le_of_ble_eq_true rfl⟩ (tx_H1 hTab ⟨by decide, by decide, by decide⟩ (hts _ wd_323)) (fun x9 H1 hz9 hk9 => ?_)
  have hP := tx_ext hP hk9
  have hS := tx_extS hS hz9 hk9
  clear hk9 hz9
  generalize H1 = H at hP hS ⊢
  refine W.widen (k := 1) (n := 6) (by omega) (by omega) ?_
  refine lv_astore_n (lv' := [(1, .ref x9), (0, .ref h0)]) hx hb d_Lw_start_7 rfl hl (by decide) rfl (fun ls hl => ?_)
  refine lv_iconst (v := 1) hx hb d_Lw_start_8 (by decide) ?_
  have hP9 := hP.sub (ws' := [(h0, .inr (5, [.ref hm, .ref hh, .ref he, .ref ha, .ref hp, .int ph]))]) [0] rfl
  have hD9 := hD.sub (ws' := [(h0, .inr (5, [.ref hm, .ref hh, .ref he, .ref ha, .ref hp, .int ph]))]) [0] (by decide) rfl
  refine W.widen (k := 1) (n := 6) (by omega) (by omega) ?_
  exact W.iret (v := 1) hx hb hr (fun t ht hW => ⟨⟨1, (), rfl, rfl, by rw [ht]; exact hP9, hD9⟩, hS.F ht⟩) hS.2.2 d_Lw_start_9


set_option maxHeartbeats 4000000 in
set_option maxRecDepth 100000 in
theorem c_Lw_order_1 (l : Launch) (D : va_G) (cI cZ cJ cS : ClassId) (aT : Nat) (ceT : Cell) (sz : Nat) (h0 hm hh he ha hp : Nat) (ph : Int32) (qh qn : Nat) (n seas cen : Int32) (pl a k x y : Int32) (oq : Nat) (hno9 : ¬ okO pl a k x y n) (hfl : l.flags = pinnedFlags ++ [noTraceFlag]) : Met l y_Lw_order w_Lw_order ({ frames := 7, cells := 1, slots := 6, locals := 107 }) (tH D cI cZ cJ cS aT ceT [.ref h0, .int pl, .int a, .int k, .int x, .int y, .ref oq] sz [(h0, .inr (5, [.ref hm, .ref hh, .ref he, .ref ha, .ref hp, .int ph])), (hm, .inr (4, [.int n, .int seas, .int cen, .ref qh, .ref qn]))]) (va_Qi (fun (r : Int32) (_ : Unit) => r = 1) (fun _ t => tB D (va_A [(h0, .inr (5, [.ref hm, .ref hh, .ref he, .ref ha, .ref hp, .int ph])), (hm, .inr (4, [.int n, .int seas, .int cen, .ref qh, .ref qn]))] sz) [(h0, .inr (5, [.ref hm, .ref hh, .ref he, .ref ha, .ref hp, .int ph])), (hm, .inr (4, [.int n, .int seas, .int cen, .ref qh, .ref qn]))] t) (va_A [(h0, .inr (5, [.ref hm, .ref hh, .ref he, .ref ha, .ref hp, .int ph])), (hm, .inr (4, [.int n, .int seas, .int cen, .ref qh, .ref qn]))] sz)) 1 6 (va_A [(h0, .inr (5, [.ref hm, .ref hh, .ref he, .ref ha, .ref hp, .int ph])), (hm, .inr (4, [.int n, .int seas, .int cen, .ref qh, .ref qn]))] sz) := by
  refine va_MetW (cc := b_Lw_order) (maxL := 8) (ret := (some .int)) (hh := [(0, 16, 19, 13), (0, 16, 23, 15)]) (by decide) rfl ?_
  intro p e s m args below meth c s₁ B hml hv
  obtain ⟨rfl, hsz, hP, hK, hD0, hX⟩ := hv
  have hx := B.exec
  have hb := B.bytes
  have hr := B.returns
  have hts0 := atoms_spec (ws := w_Lw_order) B.pre
  have hts : ∀ w ∈ TB, w.before _ s = true := fun w h => hts0 w (List.mem_cons_of_mem _ h)
  have hown : s.vm.findClass "SheetWarLaw" = some m.cls := findClass_of_methodNamed B.named
  have hlocks := B.notSynchronized
  have hTab := tx_tab B (hts0 _ (List.mem_cons_self ..))
  subst hsz
  have hXl := tx_lt hX
  have hXn := tx_far hP hX
  have hD := hD0.self (sz := s.heap.size)
  generalize hAe : va_A [(h0, .inr (5, [.ref hm, .ref hh, .ref he, .ref ha, .ref hp, .int ph])), (hm, .inr (4, [.int n, .int seas, .int cen, .ref qh, .ref qn]))] s.heap.size = A at hD hXn ⊢
  have hA : ∀ q : Nat, s.heap.size ≤ q → A q := fun q h => by rw [← hAe]; exact Or.inr h
  have hS : va_S A s.heap s.heap [] := va_S.rf
  have hXH : s.heap[aT]? = s.heap[aT]? := rfl
  have hl := lv_entry ([.ref h0, .int pl, .int a, .int k, .int x, .int y, .ref oq]) (n := 8) (Nat.le_of_ble_eq_true rfl)
  rw [lg_entry_eq]
  generalize (lg_sl ([.ref h0, .int pl, .int a, .int k, .int x, .int y, .ref oq]) ++ List.replicate (8 - (lg_sl ([.ref h0, .int pl, .int a, .int k, .int x, .int y, .ref oq])).length) Slot.unset).toArray = ls at hl ⊢
  have hl : lv_has ls 8 [(0, .ref h0), (1, .int pl), (2, .int a), (3, .int k), (4, .int x), (5, .int y), (6, .ref oq)] := hl
  refine lv_aload hx hb d_Lw_order_0 (lv_at hl 6 rfl) ?_
  refine lv_iconst (v := 0) hx hb d_Lw_order_2 (by decide) ?_
  refine lv_aload_n hx hb d_Lw_order_3 rfl (lv_at hl 0 rfl) ?_
  refine lv_iload_n hx hb d_Lw_order_4 rfl (lv_at hl 1 rfl) ?_
  refine lv_iload_n hx hb d_Lw_order_5 rfl (lv_at hl 2 rfl) ?_
  refine lv_iload_n hx hb d_Lw_order_6 rfl (lv_at hl 3 rfl) ?_
  refine lv_iload hx hb d_Lw_order_7 (lv_at hl 4 rfl) ?_
  refine lv_iload hx hb d_Lw_order_9 (lv_at hl 5 rfl) ?_
  have hPc := hP.sub (ws' := [(h0, .inr (5, [.ref hm, .ref hh, .ref he, .ref ha, .ref hp, .int ph])), (hm, .inr (4, [.int n, .int seas, .int cen, .ref qh, .ref qn]))]) [0, 1] rfl
  refine tx_callT (own := "SheetWarLaw") (C := "SheetWar") (As := [.int pl, .int a, .int k, .int x, .int y]) (rest := [.int 0, .ref oq]) (hpc := 19) ⟨hx, hb, hml, hown, hts⟩ (c_Sw_order_t1 l D cI cZ cJ cS aT ceT h0 hm hh he ha hp ph qh qn n seas cen pl a k x y hno9 hfl) (cwV 5 hts (tb_4 wd_455 wd_456 wd_457 wd_1 (tb_c wd_458)) rfl rfl rfl ⟨rfl, by decide, by decide, by decide +kernel⟩ ⟨Nat.le_of_ble_eq_true rfl, Nat.le_of_ble_eq_true rfl⟩) (tP_V hK hX (hS.2.1 aT hXl hXn) hPc (q := 0) rfl rfl) rfl rfl hl.1 (Nat.le_of_ble_eq_true rfl) d_Lw_order_11 ⟨Nat.le_of_ble_eq_true rfl, Nat.le_of_ble_eq_true rfl⟩ (tx_H1 hTab ⟨by decide, by decide, by decide⟩ (hts _ wd_322)) (fun x9 H1 hz9 hk9 => ?_)
  have hP := tx_ext hP hk9
  have hS := tx_extS hS hz9 hk9
  clear hk9 hz9
  generalize H1 = H at hP hS ⊢
  refine W.widen (k := 1) (n := 6) (by omega) (by omega) ?_
  refine lv_astore (lv' := [(7, .ref x9), (0, .ref h0), (1, .int pl), (2, .int a), (3, .int k), (4, .int x), (5, .int y), (6, .ref oq)]) hx hb d_Lw_order_19 hl (by decide) rfl (fun ls hl => ?_)
  refine lv_iconst (v := 1) hx hb d_Lw_order_21 (by decide) ?_
  have hP9 := hP.sub (ws' := [(h0, .inr (5, [.ref hm, .ref hh, .ref he, .ref ha, .ref hp, .int ph])), (hm, .inr (4, [.int n, .int seas, .int cen, .ref qh, .ref qn]))]) [0, 1] rfl
  have hD9 := hD.sub (ws' := [(h0, .inr (5, [.ref hm, .ref hh, .ref he, .ref ha, .ref hp, .int ph])), (hm, .inr (4, [.int n, .int seas, .int cen, .ref qh, .ref qn]))]) [0, 1] (by decide) rfl
  refine W.widen (k := 1) (n := 6) (by omega) (by omega) ?_
  exact W.iret (v := 1) hx hb hr (fun t ht hW => ⟨⟨1, (), rfl, rfl, by rw [ht]; exact hP9, hD9⟩, hS.F ht⟩) hS.2.2 d_Lw_order_22


set_option maxHeartbeats 4000000 in
set_option maxRecDepth 100000 in
theorem c_Lw_order_2 (l : Launch) (D : va_G) (cI cZ cJ cS : ClassId) (aT : Nat) (ceT : Cell) (sz : Nat) (h0 hm hh he ha hp : Nat) (ph : Int32) (qh qn : Nat) (n seas cen : Int32) (pl a k x y : Int32) (oq : Nat) (hok : okO pl a k x y n) (hph : ¬ ph = 1) (hfl : l.flags = pinnedFlags ++ [noTraceFlag]) : Met l y_Lw_order w_Lw_order ({ frames := 7, cells := 1, slots := 6, locals := 107 }) (tH D cI cZ cJ cS aT ceT [.ref h0, .int pl, .int a, .int k, .int x, .int y, .ref oq] sz [(h0, .inr (5, [.ref hm, .ref hh, .ref he, .ref ha, .ref hp, .int ph])), (hm, .inr (4, [.int n, .int seas, .int cen, .ref qh, .ref qn]))]) (va_Qi (fun (r : Int32) (_ : Unit) => r = 2) (fun _ t => tB D (va_A [(h0, .inr (5, [.ref hm, .ref hh, .ref he, .ref ha, .ref hp, .int ph])), (hm, .inr (4, [.int n, .int seas, .int cen, .ref qh, .ref qn]))] sz) [(h0, .inr (5, [.ref hm, .ref hh, .ref he, .ref ha, .ref hp, .int ph])), (hm, .inr (4, [.int n, .int seas, .int cen, .ref qh, .ref qn]))] t) (va_A [(h0, .inr (5, [.ref hm, .ref hh, .ref he, .ref ha, .ref hp, .int ph])), (hm, .inr (4, [.int n, .int seas, .int cen, .ref qh, .ref qn]))] sz)) 1 6 (va_A [(h0, .inr (5, [.ref hm, .ref hh, .ref he, .ref ha, .ref hp, .int ph])), (hm, .inr (4, [.int n, .int seas, .int cen, .ref qh, .ref qn]))] sz) := by
  refine va_MetW (cc := b_Lw_order) (maxL := 8) (ret := (some .int)) (hh := [(0, 16, 19, 13), (0, 16, 23, 15)]) (by decide) rfl ?_
  intro p e s m args below meth c s₁ B hml hv
  obtain ⟨rfl, hsz, hP, hK, hD0, hX⟩ := hv
  have hx := B.exec
  have hb := B.bytes
  have hr := B.returns
  have hts0 := atoms_spec (ws := w_Lw_order) B.pre
  have hts : ∀ w ∈ TB, w.before _ s = true := fun w h => hts0 w (List.mem_cons_of_mem _ h)
  have hown : s.vm.findClass "SheetWarLaw" = some m.cls := findClass_of_methodNamed B.named
  have hlocks := B.notSynchronized
  have hTab := tx_tab B (hts0 _ (List.mem_cons_self ..))
  subst hsz
  have hXl := tx_lt hX
  have hXn := tx_far hP hX
  have hD := hD0.self (sz := s.heap.size)
  generalize hAe : va_A [(h0, .inr (5, [.ref hm, .ref hh, .ref he, .ref ha, .ref hp, .int ph])), (hm, .inr (4, [.int n, .int seas, .int cen, .ref qh, .ref qn]))] s.heap.size = A at hD hXn ⊢
  have hA : ∀ q : Nat, s.heap.size ≤ q → A q := fun q h => by rw [← hAe]; exact Or.inr h
  have hS : va_S A s.heap s.heap [] := va_S.rf
  have hXH : s.heap[aT]? = s.heap[aT]? := rfl
  have hl := lv_entry ([.ref h0, .int pl, .int a, .int k, .int x, .int y, .ref oq]) (n := 8) (Nat.le_of_ble_eq_true rfl)
  rw [lg_entry_eq]
  generalize (lg_sl ([.ref h0, .int pl, .int a, .int k, .int x, .int y, .ref oq]) ++ List.replicate (8 - (lg_sl ([.ref h0, .int pl, .int a, .int k, .int x, .int y, .ref oq])).length) Slot.unset).toArray = ls at hl ⊢
  have hl : lv_has ls 8 [(0, .ref h0), (1, .int pl), (2, .int a), (3, .int k), (4, .int x), (5, .int y), (6, .ref oq)] := hl
  refine lv_aload hx hb d_Lw_order_0 (lv_at hl 6 rfl) ?_
  refine lv_iconst (v := 0) hx hb d_Lw_order_2 (by decide) ?_
  refine lv_aload_n hx hb d_Lw_order_3 rfl (lv_at hl 0 rfl) ?_
  refine lv_iload_n hx hb d_Lw_order_4 rfl (lv_at hl 1 rfl) ?_
  refine lv_iload_n hx hb d_Lw_order_5 rfl (lv_at hl 2 rfl) ?_
  refine lv_iload_n hx hb d_Lw_order_6 rfl (lv_at hl 3 rfl) ?_
  refine lv_iload hx hb d_Lw_order_7 (lv_at hl 4 rfl) ?_
  refine lv_iload hx hb d_Lw_order_9 (lv_at hl 5 rfl) ?_
  have hPc := hP.sub (ws' := [(h0, .inr (5, [.ref hm, .ref hh, .ref he, .ref ha, .ref hp, .int ph])), (hm, .inr (4, [.int n, .int seas, .int cen, .ref qh, .ref qn]))]) [0, 1] rfl
  refine tx_callT (own := "SheetWarLaw") (C := "SheetWar") (As := [.int pl, .int a, .int k, .int x, .int y]) (rest := [.int 0, .ref oq]) (hpc := 23) ⟨hx, hb, hml, hown, hts⟩ (c_Sw_order_t2 l D cI cZ cJ cS aT ceT h0 hm hh he ha hp ph qh qn n seas cen pl a k x y hok hph hfl) (cwV 5 hts (tb_4 wd_455 wd_456 wd_457 wd_1 (tb_c wd_458)) rfl rfl rfl ⟨rfl, by decide, by decide, by decide +kernel⟩ ⟨Nat.le_of_ble_eq_true rfl, Nat.le_of_ble_eq_true rfl⟩) (tP_V hK hX (hS.2.1 aT hXl hXn) hPc (q := 0) rfl rfl) rfl rfl hl.1 (Nat.le_of_ble_eq_true rfl) d_Lw_order_11 ⟨Nat.le_of_ble_eq_true rfl, Nat.le_of_ble_eq_true rfl⟩ (tx_H2 hTab ⟨by decide, by decide, by decide⟩ (hts _ wd_322) hX.2.2.2.2.2.2.2.2.2.2 ⟨by decide, by decide, by decide⟩ (hts _ wd_323)) (fun x9 H1 hz9 hk9 => ?_)
  have hP := tx_ext hP hk9
  have hS := tx_extS hS hz9 hk9
  clear hk9 hz9
  generalize H1 = H at hP hS ⊢
  refine W.widen (k := 1) (n := 6) (by omega) (by omega) ?_
  refine lv_astore (lv' := [(7, .ref x9), (0, .ref h0), (1, .int pl), (2, .int a), (3, .int k), (4, .int x), (5, .int y), (6, .ref oq)]) hx hb d_Lw_order_23 hl (by decide) rfl (fun ls hl => ?_)
  refine lv_iconst (v := 2) hx hb d_Lw_order_25 (by decide) ?_
  have hP9 := hP.sub (ws' := [(h0, .inr (5, [.ref hm, .ref hh, .ref he, .ref ha, .ref hp, .int ph])), (hm, .inr (4, [.int n, .int seas, .int cen, .ref qh, .ref qn]))]) [0, 1] rfl
  have hD9 := hD.sub (ws' := [(h0, .inr (5, [.ref hm, .ref hh, .ref he, .ref ha, .ref hp, .int ph])), (hm, .inr (4, [.int n, .int seas, .int cen, .ref qh, .ref qn]))]) [0, 1] (by decide) rfl
  refine W.widen (k := 1) (n := 6) (by omega) (by omega) ?_
  exact W.iret (v := 2) hx hb hr (fun t ht hW => ⟨⟨2, (), rfl, rfl, by rw [ht]; exact hP9, hD9⟩, hS.F ht⟩) hS.2.2 d_Lw_order_26


set_option maxHeartbeats 4000000 in
set_option maxRecDepth 100000 in
theorem c_Lw_retreat_1 (l : Launch) (D : va_G) (cI cZ cJ cS : ClassId) (aT : Nat) (ceT : Cell) (sz : Nat) (h0 hm hh he ha hp : Nat) (ph : Int32) (qh qn : Nat) (n seas cen : Int32) (pl a b : Int32) (oq : Nat) (hno9 : ¬ okT pl a b n) (hfl : l.flags = pinnedFlags ++ [noTraceFlag]) : Met l y_Lw_retreat w_Lw_retreat ({ frames := 7, cells := 1, slots := 6, locals := 105 }) (tH D cI cZ cJ cS aT ceT [.ref h0, .int pl, .int a, .int b, .ref oq] sz [(h0, .inr (5, [.ref hm, .ref hh, .ref he, .ref ha, .ref hp, .int ph])), (hm, .inr (4, [.int n, .int seas, .int cen, .ref qh, .ref qn]))]) (va_Qi (fun (r : Int32) (_ : Unit) => r = 1) (fun _ t => tB D (va_A [(h0, .inr (5, [.ref hm, .ref hh, .ref he, .ref ha, .ref hp, .int ph])), (hm, .inr (4, [.int n, .int seas, .int cen, .ref qh, .ref qn]))] sz) [(h0, .inr (5, [.ref hm, .ref hh, .ref he, .ref ha, .ref hp, .int ph])), (hm, .inr (4, [.int n, .int seas, .int cen, .ref qh, .ref qn]))] t) (va_A [(h0, .inr (5, [.ref hm, .ref hh, .ref he, .ref ha, .ref hp, .int ph])), (hm, .inr (4, [.int n, .int seas, .int cen, .ref qh, .ref qn]))] sz)) 1 6 (va_A [(h0, .inr (5, [.ref hm, .ref hh, .ref he, .ref ha, .ref hp, .int ph])), (hm, .inr (4, [.int n, .int seas, .int cen, .ref qh, .ref qn]))] sz) := by
  refine va_MetW (cc := b_Lw_retreat) (maxL := 6) (ret := (some .int)) (hh := [(0, 12, 15, 13), (0, 12, 19, 15)]) (by decide) rfl ?_
  intro p e s m args below meth c s₁ B hml hv
  obtain ⟨rfl, hsz, hP, hK, hD0, hX⟩ := hv
  have hx := B.exec
  have hb := B.bytes
  have hr := B.returns
  have hts0 := atoms_spec (ws := w_Lw_retreat) B.pre
  have hts : ∀ w ∈ TB, w.before _ s = true := fun w h => hts0 w (List.mem_cons_of_mem _ h)
  have hown : s.vm.findClass "SheetWarLaw" = some m.cls := findClass_of_methodNamed B.named
  have hlocks := B.notSynchronized
  have hTab := tx_tab B (hts0 _ (List.mem_cons_self ..))
  subst hsz
  have hXl := tx_lt hX
  have hXn := tx_far hP hX
  have hD := hD0.self (sz := s.heap.size)
  generalize hAe : va_A [(h0, .inr (5, [.ref hm, .ref hh, .ref he, .ref ha, .ref hp, .int ph])), (hm, .inr (4, [.int n, .int seas, .int cen, .ref qh, .ref qn]))] s.heap.size = A at hD hXn ⊢
  have hA : ∀ q : Nat, s.heap.size ≤ q → A q := fun q h => by rw [← hAe]; exact Or.inr h
  have hS : va_S A s.heap s.heap [] := va_S.rf
  have hXH : s.heap[aT]? = s.heap[aT]? := rfl
  have hl := lv_entry ([.ref h0, .int pl, .int a, .int b, .ref oq]) (n := 6) (Nat.le_of_ble_eq_true rfl)
  rw [lg_entry_eq]
  generalize (lg_sl ([.ref h0, .int pl, .int a, .int b, .ref oq]) ++ List.replicate (6 - (lg_sl ([.ref h0, .int pl, .int a, .int b, .ref oq])).length) Slot.unset).toArray = ls at hl ⊢
  have hl : lv_has ls 6 [(0, .ref h0), (1, .int pl), (2, .int a), (3, .int b), (4, .ref oq)] := hl
  refine lv_aload hx hb d_Lw_retreat_0 (lv_at hl 4 rfl) ?_
  refine lv_iconst (v := 0) hx hb d_Lw_retreat_2 (by decide) ?_
  refine lv_aload_n hx hb d_Lw_retreat_3 rfl (lv_at hl 0 rfl) ?_
  refine lv_iload_n hx hb d_Lw_retreat_4 rfl (lv_at hl 1 rfl) ?_
  refine lv_iload_n hx hb d_Lw_retreat_5 rfl (lv_at hl 2 rfl) ?_
  refine lv_iload_n hx hb d_Lw_retreat_6 rfl (lv_at hl 3 rfl) ?_
  have hPc := hP.sub (ws' := [(h0, .inr (5, [.ref hm, .ref hh, .ref he, .ref ha, .ref hp, .int ph])), (hm, .inr (4, [.int n, .int seas, .int cen, .ref qh, .ref qn]))]) [0, 1] rfl
  refine tx_callT (own := "SheetWarLaw") (C := "SheetWar") (As := [.int pl, .int a, .int b]) (rest := [.int 0, .ref oq]) (hpc := 15) ⟨hx, hb, hml, hown, hts⟩ (c_Sw_retreat_t1 l D cI cZ cJ cS aT ceT h0 hm hh he ha hp ph qh qn n seas cen pl a b hno9 hfl) (cwV 3 hts (tb_4 wd_659 wd_660 wd_661 wd_1 (tb_c wd_662)) rfl rfl rfl ⟨rfl, by decide, by decide, by decide +kernel⟩ ⟨Nat.le_of_ble_eq_true rfl, Nat.le_of_ble_eq_true rfl⟩) (tP_V hK hX (hS.2.1 aT hXl hXn) hPc (q := 0) rfl rfl) rfl rfl hl.1 (Nat.le_of_ble_eq_true rfl) d_Lw_retreat_7 ⟨Nat.le_of_ble_eq_true rfl, Nat.le_of_ble_eq_true rfl⟩ (tx_H1 hTab ⟨by decide, by decide, by decide⟩ (hts _ wd_322)) (fun x9 H1 hz9 hk9 => ?_)
  have hP := tx_ext hP hk9
  have hS := tx_extS hS hz9 hk9
  clear hk9 hz9
  generalize H1 = H at hP hS ⊢
  refine W.widen (k := 1) (n := 6) (by omega) (by omega) ?_
  refine lv_astore (lv' := [(5, .ref x9), (0, .ref h0), (1, .int pl), (2, .int a), (3, .int b), (4, .ref oq)]) hx hb d_Lw_retreat_15 hl (by decide) rfl (fun ls hl => ?_)
  refine lv_iconst (v := 1) hx hb d_Lw_retreat_17 (by decide) ?_
  have hP9 := hP.sub (ws' := [(h0, .inr (5, [.ref hm, .ref hh, .ref he, .ref ha, .ref hp, .int ph])), (hm, .inr (4, [.int n, .int seas, .int cen, .ref qh, .ref qn]))]) [0, 1] rfl
  have hD9 := hD.sub (ws' := [(h0, .inr (5, [.ref hm, .ref hh, .ref he, .ref ha, .ref hp, .int ph])), (hm, .inr (4, [.int n, .int seas, .int cen, .ref qh, .ref qn]))]) [0, 1] (by decide) rfl
  refine W.widen (k := 1) (n := 6) (by omega) (by omega) ?_
  exact W.iret (v := 1) hx hb hr (fun t ht hW => ⟨⟨1, (), rfl, rfl, by rw [ht]; exact hP9, hD9⟩, hS.F ht⟩) hS.2.2 d_Lw_retreat_18


set_option maxHeartbeats 4000000 in
set_option maxRecDepth 100000 in
theorem c_Lw_retreat_2 (l : Launch) (D : va_G) (cI cZ cJ cS : ClassId) (aT : Nat) (ceT : Cell) (sz : Nat) (h0 hm hh he ha hp : Nat) (ph : Int32) (qh qn : Nat) (n seas cen : Int32) (pl a b : Int32) (oq : Nat) (hok : okT pl a b n) (hph : ¬ ph = 2) (hfl : l.flags = pinnedFlags ++ [noTraceFlag]) : Met l y_Lw_retreat w_Lw_retreat ({ frames := 7, cells := 1, slots := 6, locals := 105 }) (tH D cI cZ cJ cS aT ceT [.ref h0, .int pl, .int a, .int b, .ref oq] sz [(h0, .inr (5, [.ref hm, .ref hh, .ref he, .ref ha, .ref hp, .int ph])), (hm, .inr (4, [.int n, .int seas, .int cen, .ref qh, .ref qn]))]) (va_Qi (fun (r : Int32) (_ : Unit) => r = 2) (fun _ t => tB D (va_A [(h0, .inr (5, [.ref hm, .ref hh, .ref he, .ref ha, .ref hp, .int ph])), (hm, .inr (4, [.int n, .int seas, .int cen, .ref qh, .ref qn]))] sz) [(h0, .inr (5, [.ref hm, .ref hh, .ref he, .ref ha, .ref hp, .int ph])), (hm, .inr (4, [.int n, .int seas, .int cen, .ref qh, .ref qn]))] t) (va_A [(h0, .inr (5, [.ref hm, .ref hh, .ref he, .ref ha, .ref hp, .int ph])), (hm, .inr (4, [.int n, .int seas, .int cen, .ref qh, .ref qn]))] sz)) 1 6 (va_A [(h0, .inr (5, [.ref hm, .ref hh, .ref he, .ref ha, .ref hp, .int ph])), (hm, .inr (4, [.int n, .int seas, .int cen, .ref qh, .ref qn]))] sz) := by
  refine va_MetW (cc := b_Lw_retreat) (maxL := 6) (ret := (some .int)) (hh := [(0, 12, 15, 13), (0, 12, 19, 15)]) (by decide) rfl ?_
  intro p e s m args below meth c s₁ B hml hv
  obtain ⟨rfl, hsz, hP, hK, hD0, hX⟩ := hv
  have hx := B.exec
  have hb := B.bytes
  have hr := B.returns
  have hts0 := atoms_spec (ws := w_Lw_retreat) B.pre
  have hts : ∀ w ∈ TB, w.before _ s = true := fun w h => hts0 w (List.mem_cons_of_mem _ h)
  have hown : s.vm.findClass "SheetWarLaw" = some m.cls := findClass_of_methodNamed B.named
  have hlocks := B.notSynchronized
  have hTab := tx_tab B (hts0 _ (List.mem_cons_self ..))
  subst hsz
  have hXl := tx_lt hX
  have hXn := tx_far hP hX
  have hD := hD0.self (sz := s.heap.size)
  generalize hAe : va_A [(h0, .inr (5, [.ref hm, .ref hh, .ref he, .ref ha, .ref hp, .int ph])), (hm, .inr (4, [.int n, .int seas, .int cen, .ref qh, .ref qn]))] s.heap.size = A at hD hXn ⊢
  have hA : ∀ q : Nat, s.heap.size ≤ q → A q := fun q h => by rw [← hAe]; exact Or.inr h
  have hS : va_S A s.heap s.heap [] := va_S.rf
  have hXH : s.heap[aT]? = s.heap[aT]? := rfl
  have hl := lv_entry ([.ref h0, .int pl, .int a, .int b, .ref oq]) (n := 6) (Nat.le_of_ble_eq_true rfl)
  rw [lg_entry_eq]
  generalize (lg_sl ([.ref h0, .int pl, .int a, .int b, .ref oq]) ++ List.replicate (6 - (lg_sl ([.ref h0, .int pl, .int a, .int b, .ref oq])).length) Slot.unset).toArray = ls at hl ⊢
  have hl : lv_has ls 6 [(0, .ref h0), (1, .int pl), (2, .int a), (3, .int b), (4, .ref oq)] := hl
  refine lv_aload hx hb d_Lw_retreat_0 (lv_at hl 4 rfl) ?_
  refine lv_iconst (v := 0) hx hb d_Lw_retreat_2 (by decide) ?_
  refine lv_aload_n hx hb d_Lw_retreat_3 rfl (lv_at hl 0 rfl) ?_
  refine lv_iload_n hx hb d_Lw_retreat_4 rfl (lv_at hl 1 rfl) ?_
  refine lv_iload_n hx hb d_Lw_retreat_5 rfl (lv_at hl 2 rfl) ?_
  refine lv_iload_n hx hb d_Lw_retreat_6 rfl (lv_at hl 3 rfl) ?_
  have hPc := hP.sub (ws' := [(h0, .inr (5, [.ref hm, .ref hh, .ref he, .ref ha, .ref hp, .int ph])), (hm, .inr (4, [.int n, .int seas, .int cen, .ref qh, .ref qn]))]) [0, 1] rfl
  refine tx_callT (own := "SheetWarLaw") (C := "SheetWar") (As := [.int pl, .int a, .int b]) (rest := [.int 0, .ref oq]) (hpc := 19) ⟨hx, hb, hml, hown, hts⟩ (c_Sw_retreat_t2 l D cI cZ cJ cS aT ceT h0 hm hh he ha hp ph qh qn n seas cen pl a b hok hph hfl) (cwV 3 hts (tb_4 wd_659 wd_660 wd_661 wd_1 (tb_c wd_662)) rfl rfl rfl ⟨rfl, by decide, by decide, by decide +kernel⟩ ⟨Nat.le_of_ble_eq_true rfl, Nat.le_of_ble_eq_true rfl⟩) (tP_V hK hX (hS.2.1 aT hXl hXn) hPc (q := 0) rfl rfl) rfl rfl hl.1 (Nat.le_of_ble_eq_true rfl) d_Lw_retreat_7 ⟨Nat.le_of_ble_eq_true rfl, Nat.le_of_ble_eq_true rfl⟩ (tx_H2 hTab ⟨by decide, by decide, by decide⟩ (hts _ wd_322) hX.2.2.2.2.2.2.2.2.2.2 ⟨by decide, by decide, by decide⟩ (hts _ wd_323)) (fun x9 H1 hz9 hk9 => ?_)
  have hP := tx_ext hP hk9
  have hS := tx_extS hS hz9 hk9
  clear hk9 hz9
  generalize H1 = H at hP hS ⊢
  refine W.widen (k := 1) (n := 6) (by omega) (by omega) ?_
  refine lv_astore (lv' := [(5, .ref x9), (0, .ref h0), (1, .int pl), (2, .int a), (3, .int b), (4, .ref oq)]) hx hb d_Lw_retreat_19 hl (by decide) rfl (fun ls hl => ?_)
  refine lv_iconst (v := 2) hx hb d_Lw_retreat_21 (by decide) ?_
  have hP9 := hP.sub (ws' := [(h0, .inr (5, [.ref hm, .ref hh, .ref he, .ref ha, .ref hp, .int ph])), (hm, .inr (4, [.int n, .int seas, .int cen, .ref qh, .ref qn]))]) [0, 1] rfl
  have hD9 := hD.sub (ws' := [(h0, .inr (5, [.ref hm, .ref hh, .ref he, .ref ha, .ref hp, .int ph])), (hm, .inr (4, [.int n, .int seas, .int cen, .ref qh, .ref qn]))]) [0, 1] (by decide) rfl
  refine W.widen (k := 1) (n := 6) (by omega) (by omega) ?_
  exact W.iret (v := 2) hx hb hr (fun t ht hW => ⟨⟨2, (), rfl, rfl, by rw [ht]; exact hP9, hD9⟩, hS.F ht⟩) hS.2.2 d_Lw_retreat_22


set_option maxHeartbeats 4000000 in
set_option maxRecDepth 100000 in
theorem c_Lw_build_1 (l : Launch) (D : va_G) (cI cZ cJ cS : ClassId) (aT : Nat) (ceT : Cell) (sz : Nat) (h0 hm hh he ha hp : Nat) (ph : Int32) (qh qn : Nat) (n seas cen : Int32) (pl a k : Int32) (oq : Nat) (hno9 : ¬ okB pl a k n) (hfl : l.flags = pinnedFlags ++ [noTraceFlag]) : Met l y_Lw_build w_Lw_build ({ frames := 7, cells := 1, slots := 6, locals := 105 }) (tH D cI cZ cJ cS aT ceT [.ref h0, .int pl, .int a, .int k, .ref oq] sz [(h0, .inr (5, [.ref hm, .ref hh, .ref he, .ref ha, .ref hp, .int ph])), (hm, .inr (4, [.int n, .int seas, .int cen, .ref qh, .ref qn]))]) (va_Qi (fun (r : Int32) (_ : Unit) => r = 1) (fun _ t => tB D (va_A [(h0, .inr (5, [.ref hm, .ref hh, .ref he, .ref ha, .ref hp, .int ph])), (hm, .inr (4, [.int n, .int seas, .int cen, .ref qh, .ref qn]))] sz) [(h0, .inr (5, [.ref hm, .ref hh, .ref he, .ref ha, .ref hp, .int ph])), (hm, .inr (4, [.int n, .int seas, .int cen, .ref qh, .ref qn]))] t) (va_A [(h0, .inr (5, [.ref hm, .ref hh, .ref he, .ref ha, .ref hp, .int ph])), (hm, .inr (4, [.int n, .int seas, .int cen, .ref qh, .ref qn]))] sz)) 1 6 (va_A [(h0, .inr (5, [.ref hm, .ref hh, .ref he, .ref ha, .ref hp, .int ph])), (hm, .inr (4, [.int n, .int seas, .int cen, .ref qh, .ref qn]))] sz) := by
  refine va_MetW (cc := b_Lw_build) (maxL := 6) (ret := (some .int)) (hh := [(0, 12, 15, 13), (0, 12, 19, 15)]) (by decide) rfl ?_
  intro p e s m args below meth c s₁ B hml hv
  obtain ⟨rfl, hsz, hP, hK, hD0, hX⟩ := hv
  have hx := B.exec
  have hb := B.bytes
  have hr := B.returns
  have hts0 := atoms_spec (ws := w_Lw_build) B.pre
  have hts : ∀ w ∈ TB, w.before _ s = true := fun w h => hts0 w (List.mem_cons_of_mem _ h)
  have hown : s.vm.findClass "SheetWarLaw" = some m.cls := findClass_of_methodNamed B.named
  have hlocks := B.notSynchronized
  have hTab := tx_tab B (hts0 _ (List.mem_cons_self ..))
  subst hsz
  have hXl := tx_lt hX
  have hXn := tx_far hP hX
  have hD := hD0.self (sz := s.heap.size)
  generalize hAe : va_A [(h0, .inr (5, [.ref hm, .ref hh, .ref he, .ref ha, .ref hp, .int ph])), (hm, .inr (4, [.int n, .int seas, .int cen, .ref qh, .ref qn]))] s.heap.size = A at hD hXn ⊢
  have hA : ∀ q : Nat, s.heap.size ≤ q → A q := fun q h => by rw [← hAe]; exact Or.inr h
  have hS : va_S A s.heap s.heap [] := va_S.rf
  have hXH : s.heap[aT]? = s.heap[aT]? := rfl
  have hl := lv_entry ([.ref h0, .int pl, .int a, .int k, .ref oq]) (n := 6) (Nat.le_of_ble_eq_true rfl)
  rw [lg_entry_eq]
  generalize (lg_sl ([.ref h0, .int pl, .int a, .int k, .ref oq]) ++ List.replicate (6 - (lg_sl ([.ref h0, .int pl, .int a, .int k, .ref oq])).length) Slot.unset).toArray = ls at hl ⊢
  have hl : lv_has ls 6 [(0, .ref h0), (1, .int pl), (2, .int a), (3, .int k), (4, .ref oq)] := hl
  refine lv_aload hx hb d_Lw_build_0 (lv_at hl 4 rfl) ?_
  refine lv_iconst (v := 0) hx hb d_Lw_build_2 (by decide) ?_
  refine lv_aload_n hx hb d_Lw_build_3 rfl (lv_at hl 0 rfl) ?_
  refine lv_iload_n hx hb d_Lw_build_4 rfl (lv_at hl 1 rfl) ?_
  refine lv_iload_n hx hb d_Lw_build_5 rfl (lv_at hl 2 rfl) ?_
  refine lv_iload_n hx hb d_Lw_build_6 rfl (lv_at hl 3 rfl) ?_
  have hPc := hP.sub (ws' := [(h0, .inr (5, [.ref hm, .ref hh, .ref he, .ref ha, .ref hp, .int ph])), (hm, .inr (4, [.int n, .int seas, .int cen, .ref qh, .ref qn]))]) [0, 1] rfl
  refine tx_callT (own := "SheetWarLaw") (C := "SheetWar") (As := [.int pl, .int a, .int k]) (rest := [.int 0, .ref oq]) (hpc := 15) ⟨hx, hb, hml, hown, hts⟩ (c_Sw_build_t1 l D cI cZ cJ cS aT ceT h0 hm hh he ha hp ph qh qn n seas cen pl a k hno9 hfl) (cwV 3 hts (tb_4 wd_666 wd_667 wd_668 wd_1 (tb_c wd_669)) rfl rfl rfl ⟨rfl, by decide, by decide, by decide +kernel⟩ ⟨Nat.le_of_ble_eq_true rfl, Nat.le_of_ble_eq_true rfl⟩) (tP_V hK hX (hS.2.1 aT hXl hXn) hPc (q := 0) rfl rfl) rfl rfl hl.1 (Nat.le_of_ble_eq_true rfl) d_Lw_build_7 ⟨Nat.le_of_ble_eq_true rfl, Nat.le_of_ble_eq_true rfl⟩ (tx_H1 hTab ⟨by decide, by decide, by decide⟩ (hts _ wd_322)) (fun x9 H1 hz9 hk9 => ?_)
  have hP := tx_ext hP hk9
  have hS := tx_extS hS hz9 hk9
  clear hk9 hz9
  generalize H1 = H at hP hS ⊢
  refine W.widen (k := 1) (n := 6) (by omega) (by omega) ?_
  refine lv_astore (lv' := [(5, .ref x9), (0, .ref h0), (1, .int pl), (2, .int a), (3, .int k), (4, .ref oq)]) hx hb d_Lw_build_15 hl (by decide) rfl (fun ls hl => ?_)
  refine lv_iconst (v := 1) hx hb d_Lw_build_17 (by decide) ?_
  have hP9 := hP.sub (ws' := [(h0, .inr (5, [.ref hm, .ref hh, .ref he, .ref ha, .ref hp, .int ph])), (hm, .inr (4, [.int n, .int seas, .int cen, .ref qh, .ref qn]))]) [0, 1] rfl
  have hD9 := hD.sub (ws' := [(h0, .inr (5, [.ref hm, .ref hh, .ref he, .ref ha, .ref hp, .int ph])), (hm, .inr (4, [.int n, .int seas, .int cen, .ref qh, .ref qn]))]) [0, 1] (by decide) rfl
  refine W.widen (k := 1) (n := 6) (by omega) (by omega) ?_
  exact W.iret (v := 1) hx hb hr (fun t ht hW => ⟨⟨1, (), rfl, rfl, by rw [ht]; exact hP9, hD9⟩, hS.F ht⟩) hS.2.2 d_Lw_build_18


set_option maxHeartbeats 4000000 in
set_option maxRecDepth 100000 in
theorem c_Lw_build_2 (l : Launch) (D : va_G) (cI cZ cJ cS : ClassId) (aT : Nat) (ceT : Cell) (sz : Nat) (h0 hm hh he ha hp : Nat) (ph : Int32) (qh qn : Nat) (n seas cen : Int32) (pl a k : Int32) (oq : Nat) (hok : okB pl a k n) (hph : ¬ ph = 3) (hfl : l.flags = pinnedFlags ++ [noTraceFlag]) : Met l y_Lw_build w_Lw_build ({ frames := 7, cells := 1, slots := 6, locals := 105 }) (tH D cI cZ cJ cS aT ceT [.ref h0, .int pl, .int a, .int k, .ref oq] sz [(h0, .inr (5, [.ref hm, .ref hh, .ref he, .ref ha, .ref hp, .int ph])), (hm, .inr (4, [.int n, .int seas, .int cen, .ref qh, .ref qn]))]) (va_Qi (fun (r : Int32) (_ : Unit) => r = 2) (fun _ t => tB D (va_A [(h0, .inr (5, [.ref hm, .ref hh, .ref he, .ref ha, .ref hp, .int ph])), (hm, .inr (4, [.int n, .int seas, .int cen, .ref qh, .ref qn]))] sz) [(h0, .inr (5, [.ref hm, .ref hh, .ref he, .ref ha, .ref hp, .int ph])), (hm, .inr (4, [.int n, .int seas, .int cen, .ref qh, .ref qn]))] t) (va_A [(h0, .inr (5, [.ref hm, .ref hh, .ref he, .ref ha, .ref hp, .int ph])), (hm, .inr (4, [.int n, .int seas, .int cen, .ref qh, .ref qn]))] sz)) 1 6 (va_A [(h0, .inr (5, [.ref hm, .ref hh, .ref he, .ref ha, .ref hp, .int ph])), (hm, .inr (4, [.int n, .int seas, .int cen, .ref qh, .ref qn]))] sz) := by
  refine va_MetW (cc := b_Lw_build) (maxL := 6) (ret := (some .int)) (hh := [(0, 12, 15, 13), (0, 12, 19, 15)]) (by decide) rfl ?_
  intro p e s m args below meth c s₁ B hml hv
  obtain ⟨rfl, hsz, hP, hK, hD0, hX⟩ := hv
  have hx := B.exec
  have hb := B.bytes
  have hr := B.returns
  have hts0 := atoms_spec (ws := w_Lw_build) B.pre
  have hts : ∀ w ∈ TB, w.before _ s = true := fun w h => hts0 w (List.mem_cons_of_mem _ h)
  have hown : s.vm.findClass "SheetWarLaw" = some m.cls := findClass_of_methodNamed B.named
  have hlocks := B.notSynchronized
  have hTab := tx_tab B (hts0 _ (List.mem_cons_self ..))
  subst hsz
  have hXl := tx_lt hX
  have hXn := tx_far hP hX
  have hD := hD0.self (sz := s.heap.size)
  generalize hAe : va_A [(h0, .inr (5, [.ref hm, .ref hh, .ref he, .ref ha, .ref hp, .int ph])), (hm, .inr (4, [.int n, .int seas, .int cen, .ref qh, .ref qn]))] s.heap.size = A at hD hXn ⊢
  have hA : ∀ q : Nat, s.heap.size ≤ q → A q := fun q h => by rw [← hAe]; exact Or.inr h
  have hS : va_S A s.heap s.heap [] := va_S.rf
  have hXH : s.heap[aT]? = s.heap[aT]? := rfl
  have hl := lv_entry ([.ref h0, .int pl, .int a, .int k, .ref oq]) (n := 6) (Nat.le_of_ble_eq_true rfl)
  rw [lg_entry_eq]
  generalize (lg_sl ([.ref h0, .int pl, .int a, .int k, .ref oq]) ++ List.replicate (6 - (lg_sl ([.ref h0, .int pl, .int a, .int k, .ref oq])).length) Slot.unset).toArray = ls at hl ⊢
  have hl : lv_has ls 6 [(0, .ref h0), (1, .int pl), (2, .int a), (3, .int k), (4, .ref oq)] := hl
  refine lv_aload hx hb d_Lw_build_0 (lv_at hl 4 rfl) ?_
  refine lv_iconst (v := 0) hx hb d_Lw_build_2 (by decide) ?_
  refine lv_aload_n hx hb d_Lw_build_3 rfl (lv_at hl 0 rfl) ?_
  refine lv_iload_n hx hb d_Lw_build_4 rfl (lv_at hl 1 rfl) ?_
  refine lv_iload_n hx hb d_Lw_build_5 rfl (lv_at hl 2 rfl) ?_
  refine lv_iload_n hx hb d_Lw_build_6 rfl (lv_at hl 3 rfl) ?_
  have hPc := hP.sub (ws' := [(h0, .inr (5, [.ref hm, .ref hh, .ref he, .ref ha, .ref hp, .int ph])), (hm, .inr (4, [.int n, .int seas, .int cen, .ref qh, .ref qn]))]) [0, 1] rfl
  refine tx_callT (own := "SheetWarLaw") (C := "SheetWar") (As := [.int pl, .int a, .int k]) (rest := [.int 0, .ref oq]) (hpc := 19) ⟨hx, hb, hml, hown, hts⟩ (c_Sw_build_t2 l D cI cZ cJ cS aT ceT h0 hm hh he ha hp ph qh qn n seas cen pl a k hok hph hfl) (cwV 3 hts (tb_4 wd_666 wd_667 wd_668 wd_1 (tb_c wd_669)) rfl rfl rfl ⟨rfl, by decide, by decide, by decide +kernel⟩ ⟨Nat.le_of_ble_eq_true rfl, Nat.le_of_ble_eq_true rfl⟩) (tP_V hK hX (hS.2.1 aT hXl hXn) hPc (q := 0) rfl rfl) rfl rfl hl.1 (Nat.le_of_ble_eq_true rfl) d_Lw_build_7 ⟨Nat.le_of_ble_eq_true rfl, Nat.le_of_ble_eq_true rfl⟩ (tx_H2 hTab ⟨by decide, by decide, by decide⟩ (hts _ wd_322) hX.2.2.2.2.2.2.2.2.2.2 ⟨by decide, by decide, by decide⟩ (hts _ wd_323)) (fun x9 H1 hz9 hk9 => ?_)
  have hP := tx_ext hP hk9
  have hS := tx_extS hS hz9 hk9
  clear hk9 hz9
  generalize H1 = H at hP hS ⊢
  refine W.widen (k := 1) (n := 6) (by omega) (by omega) ?_
  refine lv_astore (lv' := [(5, .ref x9), (0, .ref h0), (1, .int pl), (2, .int a), (3, .int k), (4, .ref oq)]) hx hb d_Lw_build_19 hl (by decide) rfl (fun ls hl => ?_)
  refine lv_iconst (v := 2) hx hb d_Lw_build_21 (by decide) ?_
  have hP9 := hP.sub (ws' := [(h0, .inr (5, [.ref hm, .ref hh, .ref he, .ref ha, .ref hp, .int ph])), (hm, .inr (4, [.int n, .int seas, .int cen, .ref qh, .ref qn]))]) [0, 1] rfl
  have hD9 := hD.sub (ws' := [(h0, .inr (5, [.ref hm, .ref hh, .ref he, .ref ha, .ref hp, .int ph])), (hm, .inr (4, [.int n, .int seas, .int cen, .ref qh, .ref qn]))]) [0, 1] (by decide) rfl
  refine W.widen (k := 1) (n := 6) (by omega) (by omega) ?_
  exact W.iret (v := 2) hx hb hr (fun t ht hW => ⟨⟨2, (), rfl, rfl, by rw [ht]; exact hP9, hD9⟩, hS.F ht⟩) hS.2.2 d_Lw_build_22


set_option maxHeartbeats 4000000 in
set_option maxRecDepth 100000 in
theorem c_Lw_border0 (l : Launch) (D : va_G) (cI cZ cJ cS : ClassId) (aT : Nat) (ceT : Cell) (sz : Nat) (h0 hm hh he ha hp : Nat) (qh qn n : Nat) (S Ce : Nat → Bool) (N : Nat → Nat → Bool) (a b : Nat) (oq : Nat) (fo9 : Nat → Int64) (hn : n ≤ 12) (h_a : a < n) (h_b : b < n) (hab : ¬ a = b) (hnb : N a b = true) : Met l y_Lw_border w_Lw_border ({ frames := 3, cells := 0, slots := 0, locals := 65 }) (tH D cI cZ cJ cS aT ceT [.ref h0, .int (nI a), .int (nI b), .ref oq] sz [(h0, .inr (5, [.ref hm, .ref hh, .ref he, .ref ha, .ref hp, .int 0])), (hm, .inr (4, [.int (nI n), .int (mI S), .int (mI Ce), .ref qh, .ref qn])), (qn, .inl (cI, 12, .inl (fun j => mI (N j)))), (oq, .inl (cJ, 1, .inr (.inl fo9)))]) (va_Qi (fun (r : Int32) (_ : Unit) => r = 0) (fun _ t => tB D (va_A [(h0, .inr (5, [.ref hm, .ref hh, .ref he, .ref ha, .ref hp, .int 0])), (hm, .inr (4, [.int (nI n), .int (mI S), .int (mI Ce), .ref qh, .ref qn])), (qn, .inl (cI, 12, .inl (fun j => mI (N j)))), (oq, .inl (cJ, 1, .inr (.inl fo9)))] sz) [(h0, .inr (5, [.ref hm, .ref hh, .ref he, .ref ha, .ref hp, .int 0])), (hm, .inr (4, [.int (nI n), .int (mI S), .int (mI Ce), .ref qh, .ref qn])), (qn, .inl (cI, 12, .inl (fun j => mI (N j)))), (oq, .inl (cJ, 1, .inr (.inl (vp_updL fo9 (0 : Int32).toNatClampNeg 0))))] t) (va_A [(h0, .inr (5, [.ref hm, .ref hh, .ref he, .ref ha, .ref hp, .int 0])), (hm, .inr (4, [.int (nI n), .int (mI S), .int (mI Ce), .ref qh, .ref qn])), (qn, .inl (cI, 12, .inl (fun j => mI (N j)))), (oq, .inl (cJ, 1, .inr (.inl fo9)))] sz)) 0 0 (va_A [(h0, .inr (5, [.ref hm, .ref hh, .ref he, .ref ha, .ref hp, .int 0])), (hm, .inr (4, [.int (nI n), .int (mI S), .int (mI Ce), .ref qh, .ref qn])), (qn, .inl (cI, 12, .inl (fun j => mI (N j)))), (oq, .inl (cJ, 1, .inr (.inl fo9)))] sz) := by
  refine va_MetW (cc := b_Lw_border) (maxL := 5) (ret := (some .int)) (hh := [(0, 17, 20, 13), (0, 17, 24, 15)]) (by decide) rfl ?_
  intro p e s m args below meth c s₁ B hml hv
  obtain ⟨rfl, hsz, hP, hK, hD0, hX⟩ := hv
  have hx := B.exec
  have hb := B.bytes
  have hr := B.returns
  have hts0 := atoms_spec (ws := w_Lw_border) B.pre
  have hts : ∀ w ∈ TB, w.before _ s = true := fun w h => hts0 w (List.mem_cons_of_mem _ h)
  have hown : s.vm.findClass "SheetWarLaw" = some m.cls := findClass_of_methodNamed B.named
  have hlocks := B.notSynchronized
  have hTab := tx_tab B (hts0 _ (List.mem_cons_self ..))
  subst hsz
  have hXl := tx_lt hX
  have hXn := tx_far hP hX
  have hD := hD0.self (sz := s.heap.size)
  generalize hAe : va_A [(h0, .inr (5, [.ref hm, .ref hh, .ref he, .ref ha, .ref hp, .int 0])), (hm, .inr (4, [.int (nI n), .int (mI S), .int (mI Ce), .ref qh, .ref qn])), (qn, .inl (cI, 12, .inl (fun j => mI (N j)))), (oq, .inl (cJ, 1, .inr (.inl fo9)))] s.heap.size = A at hD hXn ⊢
  have hA : ∀ q : Nat, s.heap.size ≤ q → A q := fun q h => by rw [← hAe]; exact Or.inr h
  have hS : va_S A s.heap s.heap [] := va_S.rf
  have hXH : s.heap[aT]? = s.heap[aT]? := rfl
  have hl := lv_entry ([.ref h0, .int (nI a), .int (nI b), .ref oq]) (n := 5) (Nat.le_of_ble_eq_true rfl)
  rw [lg_entry_eq]
  generalize (lg_sl ([.ref h0, .int (nI a), .int (nI b), .ref oq]) ++ List.replicate (5 - (lg_sl ([.ref h0, .int (nI a), .int (nI b), .ref oq])).length) Slot.unset).toArray = ls at hl ⊢
  have hl : lv_has ls 5 [(0, .ref h0), (1, .int (nI a)), (2, .int (nI b)), (3, .ref oq)] := hl
  refine lv_aload_n hx hb d_Lw_border_0 rfl (lv_at hl 3 rfl) ?_
  refine lv_iconst (v := 0) hx hb d_Lw_border_1 (by decide) ?_
  refine lv_aload_n hx hb d_Lw_border_2 rfl (lv_at hl 0 rfl) ?_
  refine lv_iload_n hx hb d_Lw_border_3 rfl (lv_at hl 1 rfl) ?_
  refine lv_iload_n hx hb d_Lw_border_4 rfl (lv_at hl 2 rfl) ?_
  have hPc := hP.sub (ws' := [(h0, .inr (5, [.ref hm, .ref hh, .ref he, .ref ha, .ref hp, .int 0])), (hm, .inr (4, [.int (nI n), .int (mI S), .int (mI Ce), .ref qh, .ref qn])), (qn, .inl (cI, 12, .inl (fun j => mI (N j))))]) [0, 1, 2] rfl
  have hDc := hD.sub (ws' := [(h0, .inr (5, [.ref hm, .ref hh, .ref he, .ref ha, .ref hp, .int 0])), (hm, .inr (4, [.int (nI n), .int (mI S), .int (mI Ce), .ref qh, .ref qn])), (qn, .inl (cI, 12, .inl (fun j => mI (N j))))]) [0, 1, 2] (by decide) rfl
  have hFc := va_free (wc := [(h0, .inr (5, [.ref hm, .ref hh, .ref he, .ref ha, .ref hp, .int 0])), (hm, .inr (4, [.int (nI n), .int (mI S), .int (mI Ce), .ref qh, .ref qn])), (qn, .inl (cI, 12, .inl (fun j => mI (N j))))]) hD hS hA [0, 1, 2] rfl
  refine va_calli (va_runV (As := [.int (nI a), .int (nI b)]) (rest := [.int 0, .ref oq]) ⟨hx, hb, hml, hown, hts⟩ (c_Sw_border0 l D cI cZ cJ cS aT ceT s.heap.size h0 hm hh he ha hp qh qn n S Ce N a b hn h_a h_b hab hnb) (cwV 2 hts (tb_4 wd_415 wd_416 wd_417 wd_1 (tb_c wd_418)) rfl rfl rfl ⟨rfl, by decide, by decide, by decide +kernel⟩ ⟨Nat.le_of_ble_eq_true rfl, Nat.le_of_ble_eq_true rfl⟩) (tH_V hK hX (hS.2.1 aT hXl hXn) hPc hDc (q := 0) rfl rfl) rfl rfl hl.1 rfl (lv_room (Nat.le_of_ble_eq_true rfl)) d_Lw_border_5 ⟨Nat.le_of_ble_eq_true rfl, Nat.le_of_ble_eq_true rfl⟩) hS (fun q _ h => hFc q h) hFc (fun r9 u t H1 locs ht hvm h9 hB hz1 hk1 hS => ?_)
  rw [h9]
  obtain ⟨hP1, hD1⟩ := hB
  rw [ht] at hP1
  obtain ⟨hP, hD⟩ := va_join (wr := [(oq, .inl (cJ, 1, .inr (.inl fo9)))]) (w1 := [(h0, .inr (5, [.ref hm, .ref hh, .ref he, .ref ha, .ref hp, .int 0])), (hm, .inr (4, [.int (nI n), .int (mI S), .int (mI Ce), .ref qh, .ref qn])), (qn, .inl (cI, 12, .inl (fun j => mI (N j))))]) hP hD [0, 1, 2] [3] rfl rfl (by decide) (by decide) hk1 hFc hP1 hD1
  generalize H1 = H at hP hS ⊢
  have hP : va_P D vwCl [(oq, .inl (cJ, 1, .inr (.inl fo9))), (h0, .inr (5, [.ref hm, .ref hh, .ref he, .ref ha, .ref hp, .int 0])), (hm, .inr (4, [.int (nI n), .int (mI S), .int (mI Ce), .ref qh, .ref qn])), (qn, .inl (cI, 12, .inl (fun j => mI (N j))))] H := hP
  have hD : va_D A [(oq, .inl (cJ, 1, .inr (.inl fo9))), (h0, .inr (5, [.ref hm, .ref hh, .ref he, .ref ha, .ref hp, .int 0])), (hm, .inr (4, [.int (nI n), .int (mI S), .int (mI Ce), .ref qh, .ref qn])), (qn, .inl (cI, 12, .inl (fun j => mI (N j))))] := hD
  refine lv_if_eq (tgt := 15) hx hb d_Lw_border_8 (by decide) (fun _ => ?_) (fun h0 => absurd (by decide) h0)
  refine lv_lconst (v := 0) hx hb d_Lw_border_15 (by decide) ?_
  refine va_last hx hb hK hP hD hS 0 2 rfl rfl (by unfold vp_in; decide) d_Lw_border_16 (fun H locs hP hD hS => ?_)
  have hP : va_P D vwCl [(oq, .inl (cJ, 1, .inr (.inl (vp_updL fo9 (0 : Int32).toNatClampNeg 0)))), (h0, .inr (5, [.ref hm, .ref hh, .ref he, .ref ha, .ref hp, .int 0])), (hm, .inr (4, [.int (nI n), .int (mI S), .int (mI Ce), .ref qh, .ref qn])), (qn, .inl (cI, 12, .inl (fun j => mI (N j))))] H := hP
  have hD : va_D A [(oq, .inl (cJ, 1, .inr (.inl (vp_updL fo9 (0 : Int32).toNatClampNeg 0)))), (h0, .inr (5, [.ref hm, .ref hh, .ref he, .ref ha, .ref hp, .int 0])), (hm, .inr (4, [.int (nI n), .int (mI S), .int (mI Ce), .ref qh, .ref qn])), (qn, .inl (cI, 12, .inl (fun j => mI (N j))))] := hD
  refine lv_goto (tgt := 28) hx hb d_Lw_border_17 (by decide) ?_
  refine lv_iconst (v := 0) hx hb d_Lw_border_28 (by decide) ?_
  have hP9 := hP.sub (ws' := [(h0, .inr (5, [.ref hm, .ref hh, .ref he, .ref ha, .ref hp, .int 0])), (hm, .inr (4, [.int (nI n), .int (mI S), .int (mI Ce), .ref qh, .ref qn])), (qn, .inl (cI, 12, .inl (fun j => mI (N j)))), (oq, .inl (cJ, 1, .inr (.inl (vp_updL fo9 (0 : Int32).toNatClampNeg 0))))]) [1, 2, 3, 0] rfl
  have hD9 := hD.sub (ws' := [(h0, .inr (5, [.ref hm, .ref hh, .ref he, .ref ha, .ref hp, .int 0])), (hm, .inr (4, [.int (nI n), .int (mI S), .int (mI Ce), .ref qh, .ref qn])), (qn, .inl (cI, 12, .inl (fun j => mI (N j)))), (oq, .inl (cJ, 1, .inr (.inl (vp_updL fo9 (0 : Int32).toNatClampNeg 0))))]) [1, 2, 3, 0] (by decide) rfl
  exact W.iret (v := 0) hx hb hr (fun t ht hW => ⟨⟨0, (), rfl, rfl, by rw [ht]; exact hP9, hD9⟩, hS.F ht⟩) hS.2.2 d_Lw_border_29


set_option maxHeartbeats 4000000 in
set_option maxRecDepth 100000 in
theorem c_Lw_border1 (l : Launch) (D : va_G) (cI cZ cJ cS : ClassId) (aT : Nat) (ceT : Cell) (sz : Nat) (h0 hm hh he ha hp : Nat) (qh qn n : Nat) (S Ce : Nat → Bool) (N : Nat → Nat → Bool) (a b : Nat) (oq : Nat) (fo9 : Nat → Int64) (hn : n ≤ 12) (h_a : a < n) (h_b : b < n) (hab : ¬ a = b) (hnb : N a b = false) : Met l y_Lw_border w_Lw_border ({ frames := 3, cells := 0, slots := 0, locals := 65 }) (tH D cI cZ cJ cS aT ceT [.ref h0, .int (nI a), .int (nI b), .ref oq] sz [(h0, .inr (5, [.ref hm, .ref hh, .ref he, .ref ha, .ref hp, .int 0])), (hm, .inr (4, [.int (nI n), .int (mI S), .int (mI Ce), .ref qh, .ref qn])), (qn, .inl (cI, 12, .inl (fun j => mI (N j)))), (oq, .inl (cJ, 1, .inr (.inl fo9)))]) (va_Qi (fun (r : Int32) (_ : Unit) => r = 0) (fun _ t => tB D (va_A [(h0, .inr (5, [.ref hm, .ref hh, .ref he, .ref ha, .ref hp, .int 0])), (hm, .inr (4, [.int (nI n), .int (mI S), .int (mI Ce), .ref qh, .ref qn])), (qn, .inl (cI, 12, .inl (fun j => mI (N j)))), (oq, .inl (cJ, 1, .inr (.inl fo9)))] sz) [(h0, .inr (5, [.ref hm, .ref hh, .ref he, .ref ha, .ref hp, .int 0])), (hm, .inr (4, [.int (nI n), .int (mI S), .int (mI Ce), .ref qh, .ref qn])), (qn, .inl (cI, 12, .inl (fun j => mI (jnN N a b j)))), (oq, .inl (cJ, 1, .inr (.inl (vp_updL fo9 (0 : Int32).toNatClampNeg 1))))] t) (va_A [(h0, .inr (5, [.ref hm, .ref hh, .ref he, .ref ha, .ref hp, .int 0])), (hm, .inr (4, [.int (nI n), .int (mI S), .int (mI Ce), .ref qh, .ref qn])), (qn, .inl (cI, 12, .inl (fun j => mI (N j)))), (oq, .inl (cJ, 1, .inr (.inl fo9)))] sz)) 0 0 (va_A [(h0, .inr (5, [.ref hm, .ref hh, .ref he, .ref ha, .ref hp, .int 0])), (hm, .inr (4, [.int (nI n), .int (mI S), .int (mI Ce), .ref qh, .ref qn])), (qn, .inl (cI, 12, .inl (fun j => mI (N j)))), (oq, .inl (cJ, 1, .inr (.inl fo9)))] sz) := by
  refine va_MetW (cc := b_Lw_border) (maxL := 5) (ret := (some .int)) (hh := [(0, 17, 20, 13), (0, 17, 24, 15)]) (by decide) rfl ?_
  intro p e s m args below meth c s₁ B hml hv
  obtain ⟨rfl, hsz, hP, hK, hD0, hX⟩ := hv
  have hx := B.exec
  have hb := B.bytes
  have hr := B.returns
  have hts0 := atoms_spec (ws := w_Lw_border) B.pre
  have hts : ∀ w ∈ TB, w.before _ s = true := fun w h => hts0 w (List.mem_cons_of_mem _ h)
  have hown : s.vm.findClass "SheetWarLaw" = some m.cls := findClass_of_methodNamed B.named
  have hlocks := B.notSynchronized
  have hTab := tx_tab B (hts0 _ (List.mem_cons_self ..))
  subst hsz
  have hXl := tx_lt hX
  have hXn := tx_far hP hX
  have hD := hD0.self (sz := s.heap.size)
  generalize hAe : va_A [(h0, .inr (5, [.ref hm, .ref hh, .ref he, .ref ha, .ref hp, .int 0])), (hm, .inr (4, [.int (nI n), .int (mI S), .int (mI Ce), .ref qh, .ref qn])), (qn, .inl (cI, 12, .inl (fun j => mI (N j)))), (oq, .inl (cJ, 1, .inr (.inl fo9)))] s.heap.size = A at hD hXn ⊢
  have hA : ∀ q : Nat, s.heap.size ≤ q → A q := fun q h => by rw [← hAe]; exact Or.inr h
  have hS : va_S A s.heap s.heap [] := va_S.rf
  have hXH : s.heap[aT]? = s.heap[aT]? := rfl
  have hl := lv_entry ([.ref h0, .int (nI a), .int (nI b), .ref oq]) (n := 5) (Nat.le_of_ble_eq_true rfl)
  rw [lg_entry_eq]
  generalize (lg_sl ([.ref h0, .int (nI a), .int (nI b), .ref oq]) ++ List.replicate (5 - (lg_sl ([.ref h0, .int (nI a), .int (nI b), .ref oq])).length) Slot.unset).toArray = ls at hl ⊢
  have hl : lv_has ls 5 [(0, .ref h0), (1, .int (nI a)), (2, .int (nI b)), (3, .ref oq)] := hl
  refine lv_aload_n hx hb d_Lw_border_0 rfl (lv_at hl 3 rfl) ?_
  refine lv_iconst (v := 0) hx hb d_Lw_border_1 (by decide) ?_
  refine lv_aload_n hx hb d_Lw_border_2 rfl (lv_at hl 0 rfl) ?_
  refine lv_iload_n hx hb d_Lw_border_3 rfl (lv_at hl 1 rfl) ?_
  refine lv_iload_n hx hb d_Lw_border_4 rfl (lv_at hl 2 rfl) ?_
  have hPc := hP.sub (ws' := [(h0, .inr (5, [.ref hm, .ref hh, .ref he, .ref ha, .ref hp, .int 0])), (hm, .inr (4, [.int (nI n), .int (mI S), .int (mI Ce), .ref qh, .ref qn])), (qn, .inl (cI, 12, .inl (fun j => mI (N j))))]) [0, 1, 2] rfl
  have hDc := hD.sub (ws' := [(h0, .inr (5, [.ref hm, .ref hh, .ref he, .ref ha, .ref hp, .int 0])), (hm, .inr (4, [.int (nI n), .int (mI S), .int (mI Ce), .ref qh, .ref qn])), (qn, .inl (cI, 12, .inl (fun j => mI (N j))))]) [0, 1, 2] (by decide) rfl
  have hFc := va_free (wc := [(h0, .inr (5, [.ref hm, .ref hh, .ref he, .ref ha, .ref hp, .int 0])), (hm, .inr (4, [.int (nI n), .int (mI S), .int (mI Ce), .ref qh, .ref qn])), (qn, .inl (cI, 12, .inl (fun j => mI (N j))))]) hD hS hA [0, 1, 2] rfl
  refine va_calli (va_runV (As := [.int (nI a), .int (nI b)]) (rest := [.int 0, .ref oq]) ⟨hx, hb, hml, hown, hts⟩ (c_Sw_border1 l D cI cZ cJ cS aT ceT s.heap.size h0 hm hh he ha hp qh qn n S Ce N a b hn h_a h_b hab hnb) (cwV 2 hts (tb_4 wd_415 wd_416 wd_417 wd_1 (tb_c wd_418)) rfl rfl rfl ⟨rfl, by decide, by decide, by decide +kernel⟩ ⟨Nat.le_of_ble_eq_true rfl, Nat.le_of_ble_eq_true rfl⟩) (tH_V hK hX (hS.2.1 aT hXl hXn) hPc hDc (q := 0) rfl rfl) rfl rfl hl.1 rfl (lv_room (Nat.le_of_ble_eq_true rfl)) d_Lw_border_5 ⟨Nat.le_of_ble_eq_true rfl, Nat.le_of_ble_eq_true rfl⟩) hS (fun q _ h => hFc q h) hFc (fun r9 u t H1 locs ht hvm h9 hB hz1 hk1 hS => ?_)
  rw [h9]
  obtain ⟨hP1, hD1⟩ := hB
  rw [ht] at hP1
  obtain ⟨hP, hD⟩ := va_join (wr := [(oq, .inl (cJ, 1, .inr (.inl fo9)))]) (w1 := [(h0, .inr (5, [.ref hm, .ref hh, .ref he, .ref ha, .ref hp, .int 0])), (hm, .inr (4, [.int (nI n), .int (mI S), .int (mI Ce), .ref qh, .ref qn])), (qn, .inl (cI, 12, .inl (fun j => mI (jnN N a b j))))]) hP hD [0, 1, 2] [3] rfl rfl (by decide) (by decide) hk1 hFc hP1 hD1
  generalize H1 = H at hP hS ⊢
  have hP : va_P D vwCl [(oq, .inl (cJ, 1, .inr (.inl fo9))), (h0, .inr (5, [.ref hm, .ref hh, .ref he, .ref ha, .ref hp, .int 0])), (hm, .inr (4, [.int (nI n), .int (mI S), .int (mI Ce), .ref qh, .ref qn])), (qn, .inl (cI, 12, .inl (fun j => mI (jnN N a b j))))] H := hP
  have hD : va_D A [(oq, .inl (cJ, 1, .inr (.inl fo9))), (h0, .inr (5, [.ref hm, .ref hh, .ref he, .ref ha, .ref hp, .int 0])), (hm, .inr (4, [.int (nI n), .int (mI S), .int (mI Ce), .ref qh, .ref qn])), (qn, .inl (cI, 12, .inl (fun j => mI (jnN N a b j))))] := hD
  refine lv_if_eq (tgt := 15) hx hb d_Lw_border_8 (by decide) (fun h0 => absurd h0 (by decide)) (fun _ => ?_)
  refine lv_lconst (v := 1) hx hb d_Lw_border_11 (by decide) ?_
  refine lv_goto (tgt := 16) hx hb d_Lw_border_12 (by decide) ?_
  refine va_last hx hb hK hP hD hS 0 2 rfl rfl (by unfold vp_in; decide) d_Lw_border_16 (fun H locs hP hD hS => ?_)
  have hP : va_P D vwCl [(oq, .inl (cJ, 1, .inr (.inl (vp_updL fo9 (0 : Int32).toNatClampNeg 1)))), (h0, .inr (5, [.ref hm, .ref hh, .ref he, .ref ha, .ref hp, .int 0])), (hm, .inr (4, [.int (nI n), .int (mI S), .int (mI Ce), .ref qh, .ref qn])), (qn, .inl (cI, 12, .inl (fun j => mI (jnN N a b j))))] H := hP
  have hD : va_D A [(oq, .inl (cJ, 1, .inr (.inl (vp_updL fo9 (0 : Int32).toNatClampNeg 1)))), (h0, .inr (5, [.ref hm, .ref hh, .ref he, .ref ha, .ref hp, .int 0])), (hm, .inr (4, [.int (nI n), .int (mI S), .int (mI Ce), .ref qh, .ref qn])), (qn, .inl (cI, 12, .inl (fun j => mI (jnN N a b j))))] := hD
  refine lv_goto (tgt := 28) hx hb d_Lw_border_17 (by decide) ?_
  refine lv_iconst (v := 0) hx hb d_Lw_border_28 (by decide) ?_
  have hP9 := hP.sub (ws' := [(h0, .inr (5, [.ref hm, .ref hh, .ref he, .ref ha, .ref hp, .int 0])), (hm, .inr (4, [.int (nI n), .int (mI S), .int (mI Ce), .ref qh, .ref qn])), (qn, .inl (cI, 12, .inl (fun j => mI (jnN N a b j)))), (oq, .inl (cJ, 1, .inr (.inl (vp_updL fo9 (0 : Int32).toNatClampNeg 1))))]) [1, 2, 3, 0] rfl
  have hD9 := hD.sub (ws' := [(h0, .inr (5, [.ref hm, .ref hh, .ref he, .ref ha, .ref hp, .int 0])), (hm, .inr (4, [.int (nI n), .int (mI S), .int (mI Ce), .ref qh, .ref qn])), (qn, .inl (cI, 12, .inl (fun j => mI (jnN N a b j)))), (oq, .inl (cJ, 1, .inr (.inl (vp_updL fo9 (0 : Int32).toNatClampNeg 1))))]) [1, 2, 3, 0] (by decide) rfl
  exact W.iret (v := 0) hx hb hr (fun t ht hW => ⟨⟨0, (), rfl, rfl, by rw [ht]; exact hP9, hD9⟩, hS.F ht⟩) hS.2.2 d_Lw_border_29


set_option maxHeartbeats 4000000 in
set_option maxRecDepth 100000 in
theorem c_Lw_unit0 (l : Launch) (D : va_G) (cI cZ cJ cS : ClassId) (aT : Nat) (ceT : Cell) (sz : Nat) (h0 hm hh he ha hp : Nat) (qh qn n : Nat) (S Ce : Nat → Bool) (N : Nat → Nat → Bool) (tn : Int32) (qu qo qx qy qr qw : Nat) (fu : Nat → Int32) (p9 a k : Nat) (hn : n ≤ 12) (h_a : a < n) (h_p : p9 < 4) (h_k : k < 2) (hfr : fu a = -1) (hcs : (if nI k = 0 then !S a else S a || anyB (fun j => N a j && S j) 12) = true) : Met l y_Lw_unit w_Lw_unit ({ frames := 4, cells := 0, slots := 0, locals := 87 }) (tH D cI cZ cJ cS aT ceT [.ref h0, .int (nI a), .int (nI p9), .int (nI k)] sz [(h0, .inr (5, [.ref hm, .ref hh, .ref he, .ref ha, .ref hp, .int 0])), (hm, .inr (4, [.int (nI n), .int (mI S), .int (mI Ce), .ref qh, .ref qn])), (qn, .inl (cI, 12, .inl (fun j => mI (N j)))), (hh, .inr (3, [.int tn, .ref qu, .ref qo, .ref qx, .ref qy, .ref qr, .ref qw])), (qu, .inl (cI, 12, .inl fu))]) (va_Qi (fun (r : Int32) (_ : Unit) => r = 0) (fun _ t => tB D (va_A [(h0, .inr (5, [.ref hm, .ref hh, .ref he, .ref ha, .ref hp, .int 0])), (hm, .inr (4, [.int (nI n), .int (mI S), .int (mI Ce), .ref qh, .ref qn])), (qn, .inl (cI, 12, .inl (fun j => mI (N j)))), (hh, .inr (3, [.int tn, .ref qu, .ref qo, .ref qx, .ref qy, .ref qr, .ref qw])), (qu, .inl (cI, 12, .inl fu))] sz) [(h0, .inr (5, [.ref hm, .ref hh, .ref he, .ref ha, .ref hp, .int 0])), (hm, .inr (4, [.int (nI n), .int (mI S), .int (mI Ce), .ref qh, .ref qn])), (qn, .inl (cI, 12, .inl (fun j => mI (N j)))), (hh, .inr (3, [.int tn, .ref qu, .ref qo, .ref qx, .ref qy, .ref qr, .ref qw])), (qu, .inl (cI, 12, .inl (upd fu a (nI (2 * p9 + k)))))] t) (va_A [(h0, .inr (5, [.ref hm, .ref hh, .ref he, .ref ha, .ref hp, .int 0])), (hm, .inr (4, [.int (nI n), .int (mI S), .int (mI Ce), .ref qh, .ref qn])), (qn, .inl (cI, 12, .inl (fun j => mI (N j)))), (hh, .inr (3, [.int tn, .ref qu, .ref qo, .ref qx, .ref qy, .ref qr, .ref qw])), (qu, .inl (cI, 12, .inl fu))] sz)) 0 0 (va_A [(h0, .inr (5, [.ref hm, .ref hh, .ref he, .ref ha, .ref hp, .int 0])), (hm, .inr (4, [.int (nI n), .int (mI S), .int (mI Ce), .ref qh, .ref qn])), (qn, .inl (cI, 12, .inl (fun j => mI (N j)))), (hh, .inr (3, [.int tn, .ref qu, .ref qo, .ref qx, .ref qy, .ref qr, .ref qw])), (qu, .inl (cI, 12, .inl fu))] sz) := by
  refine va_MetW (cc := b_Lw_unit) (maxL := 5) (ret := (some .int)) (hh := [(0, 7, 10, 13), (0, 7, 14, 15)]) (by decide) rfl ?_
  intro p e s m args below meth c s₁ B hml hv
  obtain ⟨rfl, hsz, hP, hK, hD0, hX⟩ := hv
  have hx := B.exec
  have hb := B.bytes
  have hr := B.returns
  have hts0 := atoms_spec (ws := w_Lw_unit) B.pre
  have hts : ∀ w ∈ TB, w.before _ s = true := fun w h => hts0 w (List.mem_cons_of_mem _ h)
  have hown : s.vm.findClass "SheetWarLaw" = some m.cls := findClass_of_methodNamed B.named
  have hlocks := B.notSynchronized
  have hTab := tx_tab B (hts0 _ (List.mem_cons_self ..))
  subst hsz
  have hXl := tx_lt hX
  have hXn := tx_far hP hX
  have hD := hD0.self (sz := s.heap.size)
  generalize hAe : va_A [(h0, .inr (5, [.ref hm, .ref hh, .ref he, .ref ha, .ref hp, .int 0])), (hm, .inr (4, [.int (nI n), .int (mI S), .int (mI Ce), .ref qh, .ref qn])), (qn, .inl (cI, 12, .inl (fun j => mI (N j)))), (hh, .inr (3, [.int tn, .ref qu, .ref qo, .ref qx, .ref qy, .ref qr, .ref qw])), (qu, .inl (cI, 12, .inl fu))] s.heap.size = A at hD hXn ⊢
  have hA : ∀ q : Nat, s.heap.size ≤ q → A q := fun q h => by rw [← hAe]; exact Or.inr h
  have hS : va_S A s.heap s.heap [] := va_S.rf
  have hXH : s.heap[aT]? = s.heap[aT]? := rfl
  have hl := lv_entry ([.ref h0, .int (nI a), .int (nI p9), .int (nI k)]) (n := 5) (Nat.le_of_ble_eq_true rfl)
  rw [lg_entry_eq]
  generalize (lg_sl ([.ref h0, .int (nI a), .int (nI p9), .int (nI k)]) ++ List.replicate (5 - (lg_sl ([.ref h0, .int (nI a), .int (nI p9), .int (nI k)])).length) Slot.unset).toArray = ls at hl ⊢
  have hl : lv_has ls 5 [(0, .ref h0), (1, .int (nI a)), (2, .int (nI p9)), (3, .int (nI k))] := hl
  refine lv_aload_n hx hb d_Lw_unit_0 rfl (lv_at hl 0 rfl) ?_
  refine lv_iload_n hx hb d_Lw_unit_1 rfl (lv_at hl 1 rfl) ?_
  refine lv_iload_n hx hb d_Lw_unit_2 rfl (lv_at hl 2 rfl) ?_
  refine lv_iload_n hx hb d_Lw_unit_3 rfl (lv_at hl 3 rfl) ?_
  have hPc := hP.sub (ws' := [(h0, .inr (5, [.ref hm, .ref hh, .ref he, .ref ha, .ref hp, .int 0])), (hm, .inr (4, [.int (nI n), .int (mI S), .int (mI Ce), .ref qh, .ref qn])), (qn, .inl (cI, 12, .inl (fun j => mI (N j)))), (hh, .inr (3, [.int tn, .ref qu, .ref qo, .ref qx, .ref qy, .ref qr, .ref qw])), (qu, .inl (cI, 12, .inl fu))]) [0, 1, 2, 3, 4] rfl
  have hDc := hD.sub (ws' := [(h0, .inr (5, [.ref hm, .ref hh, .ref he, .ref ha, .ref hp, .int 0])), (hm, .inr (4, [.int (nI n), .int (mI S), .int (mI Ce), .ref qh, .ref qn])), (qn, .inl (cI, 12, .inl (fun j => mI (N j)))), (hh, .inr (3, [.int tn, .ref qu, .ref qo, .ref qx, .ref qy, .ref qr, .ref qw])), (qu, .inl (cI, 12, .inl fu))]) [0, 1, 2, 3, 4] (by decide) rfl
  have hFc := va_free (wc := [(h0, .inr (5, [.ref hm, .ref hh, .ref he, .ref ha, .ref hp, .int 0])), (hm, .inr (4, [.int (nI n), .int (mI S), .int (mI Ce), .ref qh, .ref qn])), (qn, .inl (cI, 12, .inl (fun j => mI (N j)))), (hh, .inr (3, [.int tn, .ref qu, .ref qo, .ref qx, .ref qy, .ref qr, .ref qw])), (qu, .inl (cI, 12, .inl fu))]) hD hS hA [0, 1, 2, 3, 4] rfl
  refine va_callv (va_runV (As := [.int (nI a), .int (nI p9), .int (nI k)]) (rest := []) ⟨hx, hb, hml, hown, hts⟩ (c_Sw_unit_0 l D cI cZ cJ cS aT ceT s.heap.size h0 hm hh he ha hp qh qn n S Ce N tn qu qo qx qy qr qw fu p9 a k hn h_a h_p h_k hfr hcs) (cwV 3 hts (tb_4 wd_426 wd_427 wd_428 wd_1 (tb_c wd_429)) rfl rfl rfl ⟨rfl, by decide, by decide, by decide +kernel⟩ ⟨Nat.le_of_ble_eq_true rfl, Nat.le_of_ble_eq_true rfl⟩) (tH_V hK hX (hS.2.1 aT hXl hXn) hPc hDc (q := 0) rfl rfl) rfl rfl hl.1 rfl (lv_room (Nat.le_of_ble_eq_true rfl)) d_Lw_unit_4 ⟨Nat.le_of_ble_eq_true rfl, Nat.le_of_ble_eq_true rfl⟩) hS (fun q _ h => hFc q h) hFc (fun u t H1 locs ht hvm h9 hB hz1 hk1 hS => ?_)
  obtain ⟨hP1, hD1⟩ := hB
  rw [ht] at hP1
  obtain ⟨hP, hD⟩ := va_join (wr := []) (w1 := [(h0, .inr (5, [.ref hm, .ref hh, .ref he, .ref ha, .ref hp, .int 0])), (hm, .inr (4, [.int (nI n), .int (mI S), .int (mI Ce), .ref qh, .ref qn])), (qn, .inl (cI, 12, .inl (fun j => mI (N j)))), (hh, .inr (3, [.int tn, .ref qu, .ref qo, .ref qx, .ref qy, .ref qr, .ref qw])), (qu, .inl (cI, 12, .inl (upd fu a (nI (2 * p9 + k)))))]) hP hD [0, 1, 2, 3, 4] [] rfl rfl (by decide) (by decide) hk1 hFc hP1 hD1
  generalize H1 = H at hP hS ⊢
  have hP : va_P D vwCl [(h0, .inr (5, [.ref hm, .ref hh, .ref he, .ref ha, .ref hp, .int 0])), (hm, .inr (4, [.int (nI n), .int (mI S), .int (mI Ce), .ref qh, .ref qn])), (qn, .inl (cI, 12, .inl (fun j => mI (N j)))), (hh, .inr (3, [.int tn, .ref qu, .ref qo, .ref qx, .ref qy, .ref qr, .ref qw])), (qu, .inl (cI, 12, .inl (upd fu a (nI (2 * p9 + k)))))] H := hP
  have hD : va_D A [(h0, .inr (5, [.ref hm, .ref hh, .ref he, .ref ha, .ref hp, .int 0])), (hm, .inr (4, [.int (nI n), .int (mI S), .int (mI Ce), .ref qh, .ref qn])), (qn, .inl (cI, 12, .inl (fun j => mI (N j)))), (hh, .inr (3, [.int tn, .ref qu, .ref qo, .ref qx, .ref qy, .ref qr, .ref qw])), (qu, .inl (cI, 12, .inl (upd fu a (nI (2 * p9 + k)))))] := hD
  refine lv_goto (tgt := 18) hx hb d_Lw_unit_7 (by decide) ?_
  refine lv_iconst (v := 0) hx hb d_Lw_unit_18 (by decide) ?_
  have hP9 := hP.sub (ws' := [(h0, .inr (5, [.ref hm, .ref hh, .ref he, .ref ha, .ref hp, .int 0])), (hm, .inr (4, [.int (nI n), .int (mI S), .int (mI Ce), .ref qh, .ref qn])), (qn, .inl (cI, 12, .inl (fun j => mI (N j)))), (hh, .inr (3, [.int tn, .ref qu, .ref qo, .ref qx, .ref qy, .ref qr, .ref qw])), (qu, .inl (cI, 12, .inl (upd fu a (nI (2 * p9 + k)))))]) [0, 1, 2, 3, 4] rfl
  have hD9 := hD.sub (ws' := [(h0, .inr (5, [.ref hm, .ref hh, .ref he, .ref ha, .ref hp, .int 0])), (hm, .inr (4, [.int (nI n), .int (mI S), .int (mI Ce), .ref qh, .ref qn])), (qn, .inl (cI, 12, .inl (fun j => mI (N j)))), (hh, .inr (3, [.int tn, .ref qu, .ref qo, .ref qx, .ref qy, .ref qr, .ref qw])), (qu, .inl (cI, 12, .inl (upd fu a (nI (2 * p9 + k)))))]) [0, 1, 2, 3, 4] (by decide) rfl
  exact W.iret (v := 0) hx hb hr (fun t ht hW => ⟨⟨0, (), rfl, rfl, by rw [ht]; exact hP9, hD9⟩, hS.F ht⟩) hS.2.2 d_Lw_unit_19


set_option maxHeartbeats 4000000 in
set_option maxRecDepth 100000 in
theorem c_Lw_order0 (l : Launch) (D : va_G) (cI cZ cJ cS : ClassId) (aT : Nat) (ceT : Cell) (sz : Nat) (h0 hm hh he ha hp : Nat) (qh qn n : Nat) (S Ce : Nat → Bool) (N : Nat → Nat → Bool) (tn : Int32) (qu qo qx qy qr qw : Nat) (fu : Nat → Int32) (Oo X Y : Nat → Nat) (p9 a : Nat) (x y : Int32) (oq : Nat) (fo9 : Nat → Int64) (hn : n ≤ 12) (h_a : a < n) (h_p : p9 < 4) : Met l y_Lw_order w_Lw_order ({ frames := 6, cells := 0, slots := 0, locals := 138 }) (tH D cI cZ cJ cS aT ceT [.ref h0, .int (nI p9), .int (nI a), .int 0, .int x, .int y, .ref oq] sz [(h0, .inr (5, [.ref hm, .ref hh, .ref he, .ref ha, .ref hp, .int 1])), (hm, .inr (4, [.int (nI n), .int (mI S), .int (mI Ce), .ref qh, .ref qn])), (qn, .inl (cI, 12, .inl (fun j => mI (N j)))), (hh, .inr (3, [.int tn, .ref qu, .ref qo, .ref qx, .ref qy, .ref qr, .ref qw])), (qu, .inl (cI, 12, .inl fu)), (qo, .inl (cI, 12, .inl (fun j => nI (Oo j)))), (qx, .inl (cI, 12, .inl (fun j => nI (X j)))), (qy, .inl (cI, 12, .inl (fun j => nI (Y j)))), (oq, .inl (cJ, 1, .inr (.inl fo9)))]) (va_Qi (fun (r : Int32) (_ : Unit) => r = 0) (fun _ t => tB D (va_A [(h0, .inr (5, [.ref hm, .ref hh, .ref he, .ref ha, .ref hp, .int 1])), (hm, .inr (4, [.int (nI n), .int (mI S), .int (mI Ce), .ref qh, .ref qn])), (qn, .inl (cI, 12, .inl (fun j => mI (N j)))), (hh, .inr (3, [.int tn, .ref qu, .ref qo, .ref qx, .ref qy, .ref qr, .ref qw])), (qu, .inl (cI, 12, .inl fu)), (qo, .inl (cI, 12, .inl (fun j => nI (Oo j)))), (qx, .inl (cI, 12, .inl (fun j => nI (X j)))), (qy, .inl (cI, 12, .inl (fun j => nI (Y j)))), (oq, .inl (cJ, 1, .inr (.inl fo9)))] sz) [(h0, .inr (5, [.ref hm, .ref hh, .ref he, .ref ha, .ref hp, .int 1])), (hm, .inr (4, [.int (nI n), .int (mI S), .int (mI Ce), .ref qh, .ref qn])), (qn, .inl (cI, 12, .inl (fun j => mI (N j)))), (hh, .inr (3, [.int tn, .ref qu, .ref qo, .ref qx, .ref qy, .ref qr, .ref qw])), (qu, .inl (cI, 12, .inl fu)), (qo, .inl (cI, 12, .inl (fun j => nI (okN (odR (!decide (fu a = -1) && decide (fu a / 2 = nI p9)) (true)) Oo a 0 j)))), (qx, .inl (cI, 12, .inl (fun j => nI (okN (odR (!decide (fu a = -1) && decide (fu a / 2 = nI p9)) (true)) X a 0 j)))), (qy, .inl (cI, 12, .inl (fun j => nI (okN (odR (!decide (fu a = -1) && decide (fu a / 2 = nI p9)) (true)) Y a 0 j)))), (oq, .inl (cJ, 1, .inr (.inl (vp_updL fo9 (0 : Int32).toNatClampNeg (nI (odR (!decide (fu a = -1) && decide (fu a / 2 = nI p9)) (true))).toInt64))))] t) (va_A [(h0, .inr (5, [.ref hm, .ref hh, .ref he, .ref ha, .ref hp, .int 1])), (hm, .inr (4, [.int (nI n), .int (mI S), .int (mI Ce), .ref qh, .ref qn])), (qn, .inl (cI, 12, .inl (fun j => mI (N j)))), (hh, .inr (3, [.int tn, .ref qu, .ref qo, .ref qx, .ref qy, .ref qr, .ref qw])), (qu, .inl (cI, 12, .inl fu)), (qo, .inl (cI, 12, .inl (fun j => nI (Oo j)))), (qx, .inl (cI, 12, .inl (fun j => nI (X j)))), (qy, .inl (cI, 12, .inl (fun j => nI (Y j)))), (oq, .inl (cJ, 1, .inr (.inl fo9)))] sz)) 0 0 (va_A [(h0, .inr (5, [.ref hm, .ref hh, .ref he, .ref ha, .ref hp, .int 1])), (hm, .inr (4, [.int (nI n), .int (mI S), .int (mI Ce), .ref qh, .ref qn])), (qn, .inl (cI, 12, .inl (fun j => mI (N j)))), (hh, .inr (3, [.int tn, .ref qu, .ref qo, .ref qx, .ref qy, .ref qr, .ref qw])), (qu, .inl (cI, 12, .inl fu)), (qo, .inl (cI, 12, .inl (fun j => nI (Oo j)))), (qx, .inl (cI, 12, .inl (fun j => nI (X j)))), (qy, .inl (cI, 12, .inl (fun j => nI (Y j)))), (oq, .inl (cJ, 1, .inr (.inl fo9)))] sz) := by
  refine va_MetW (cc := b_Lw_order) (maxL := 8) (ret := (some .int)) (hh := [(0, 16, 19, 13), (0, 16, 23, 15)]) (by decide) rfl ?_
  intro p e s m args below meth c s₁ B hml hv
  obtain ⟨rfl, hsz, hP, hK, hD0, hX⟩ := hv
  have hx := B.exec
  have hb := B.bytes
  have hr := B.returns
  have hts0 := atoms_spec (ws := w_Lw_order) B.pre
  have hts : ∀ w ∈ TB, w.before _ s = true := fun w h => hts0 w (List.mem_cons_of_mem _ h)
  have hown : s.vm.findClass "SheetWarLaw" = some m.cls := findClass_of_methodNamed B.named
  have hlocks := B.notSynchronized
  have hTab := tx_tab B (hts0 _ (List.mem_cons_self ..))
  subst hsz
  have hXl := tx_lt hX
  have hXn := tx_far hP hX
  have hD := hD0.self (sz := s.heap.size)
  generalize hAe : va_A [(h0, .inr (5, [.ref hm, .ref hh, .ref he, .ref ha, .ref hp, .int 1])), (hm, .inr (4, [.int (nI n), .int (mI S), .int (mI Ce), .ref qh, .ref qn])), (qn, .inl (cI, 12, .inl (fun j => mI (N j)))), (hh, .inr (3, [.int tn, .ref qu, .ref qo, .ref qx, .ref qy, .ref qr, .ref qw])), (qu, .inl (cI, 12, .inl fu)), (qo, .inl (cI, 12, .inl (fun j => nI (Oo j)))), (qx, .inl (cI, 12, .inl (fun j => nI (X j)))), (qy, .inl (cI, 12, .inl (fun j => nI (Y j)))), (oq, .inl (cJ, 1, .inr (.inl fo9)))] s.heap.size = A at hD hXn ⊢
  have hA : ∀ q : Nat, s.heap.size ≤ q → A q := fun q h => by rw [← hAe]; exact Or.inr h
  have hS : va_S A s.heap s.heap [] := va_S.rf
  have hXH : s.heap[aT]? = s.heap[aT]? := rfl
  have hl := lv_entry ([.ref h0, .int (nI p9), .int (nI a), .int 0, .int x, .int y, .ref oq]) (n := 8) (Nat.le_of_ble_eq_true rfl)
  rw [lg_entry_eq]
  generalize (lg_sl ([.ref h0, .int (nI p9), .int (nI a), .int 0, .int x, .int y, .ref oq]) ++ List.replicate (8 - (lg_sl ([.ref h0, .int (nI p9), .int (nI a), .int 0, .int x, .int y, .ref oq])).length) Slot.unset).toArray = ls at hl ⊢
  have hl : lv_has ls 8 [(0, .ref h0), (1, .int (nI p9)), (2, .int (nI a)), (3, .int 0), (4, .int x), (5, .int y), (6, .ref oq)] := hl
  refine lv_aload hx hb d_Lw_order_0 (lv_at hl 6 rfl) ?_
  refine lv_iconst (v := 0) hx hb d_Lw_order_2 (by decide) ?_
  refine lv_aload_n hx hb d_Lw_order_3 rfl (lv_at hl 0 rfl) ?_
  refine lv_iload_n hx hb d_Lw_order_4 rfl (lv_at hl 1 rfl) ?_
  refine lv_iload_n hx hb d_Lw_order_5 rfl (lv_at hl 2 rfl) ?_
  refine lv_iload_n hx hb d_Lw_order_6 rfl (lv_at hl 3 rfl) ?_
  refine lv_iload hx hb d_Lw_order_7 (lv_at hl 4 rfl) ?_
  refine lv_iload hx hb d_Lw_order_9 (lv_at hl 5 rfl) ?_
  have hPc := hP.sub (ws' := [(h0, .inr (5, [.ref hm, .ref hh, .ref he, .ref ha, .ref hp, .int 1])), (hm, .inr (4, [.int (nI n), .int (mI S), .int (mI Ce), .ref qh, .ref qn])), (qn, .inl (cI, 12, .inl (fun j => mI (N j)))), (hh, .inr (3, [.int tn, .ref qu, .ref qo, .ref qx, .ref qy, .ref qr, .ref qw])), (qu, .inl (cI, 12, .inl fu)), (qo, .inl (cI, 12, .inl (fun j => nI (Oo j)))), (qx, .inl (cI, 12, .inl (fun j => nI (X j)))), (qy, .inl (cI, 12, .inl (fun j => nI (Y j))))]) [0, 1, 2, 3, 4, 5, 6, 7] rfl
  have hDc := hD.sub (ws' := [(h0, .inr (5, [.ref hm, .ref hh, .ref he, .ref ha, .ref hp, .int 1])), (hm, .inr (4, [.int (nI n), .int (mI S), .int (mI Ce), .ref qh, .ref qn])), (qn, .inl (cI, 12, .inl (fun j => mI (N j)))), (hh, .inr (3, [.int tn, .ref qu, .ref qo, .ref qx, .ref qy, .ref qr, .ref qw])), (qu, .inl (cI, 12, .inl fu)), (qo, .inl (cI, 12, .inl (fun j => nI (Oo j)))), (qx, .inl (cI, 12, .inl (fun j => nI (X j)))), (qy, .inl (cI, 12, .inl (fun j => nI (Y j))))]) [0, 1, 2, 3, 4, 5, 6, 7] (by decide) rfl
  have hFc := va_free (wc := [(h0, .inr (5, [.ref hm, .ref hh, .ref he, .ref ha, .ref hp, .int 1])), (hm, .inr (4, [.int (nI n), .int (mI S), .int (mI Ce), .ref qh, .ref qn])), (qn, .inl (cI, 12, .inl (fun j => mI (N j)))), (hh, .inr (3, [.int tn, .ref qu, .ref qo, .ref qx, .ref qy, .ref qr, .ref qw])), (qu, .inl (cI, 12, .inl fu)), (qo, .inl (cI, 12, .inl (fun j => nI (Oo j)))), (qx, .inl (cI, 12, .inl (fun j => nI (X j)))), (qy, .inl (cI, 12, .inl (fun j => nI (Y j))))]) hD hS hA [0, 1, 2, 3, 4, 5, 6, 7] rfl
  refine va_calli (va_runV (As := [.int (nI p9), .int (nI a), .int 0, .int x, .int y]) (rest := [.int 0, .ref oq]) ⟨hx, hb, hml, hown, hts⟩ (c_Sw_order0 l D cI cZ cJ cS aT ceT s.heap.size h0 hm hh he ha hp qh qn n S Ce N tn qu qo qx qy qr qw fu Oo X Y p9 a x y hn h_a h_p) (cwV 5 hts (tb_4 wd_455 wd_456 wd_457 wd_1 (tb_c wd_458)) rfl rfl rfl ⟨rfl, by decide, by decide, by decide +kernel⟩ ⟨Nat.le_of_ble_eq_true rfl, Nat.le_of_ble_eq_true rfl⟩) (tH_V hK hX (hS.2.1 aT hXl hXn) hPc hDc (q := 0) rfl rfl) rfl rfl hl.1 rfl (lv_room (Nat.le_of_ble_eq_true rfl)) d_Lw_order_11 ⟨Nat.le_of_ble_eq_true rfl, Nat.le_of_ble_eq_true rfl⟩) hS (fun q _ h => hFc q h) hFc (fun r9 u t H1 locs ht hvm h9 hB hz1 hk1 hS => ?_)
  rw [h9]
  obtain ⟨hP1, hD1⟩ := hB
  rw [ht] at hP1
  obtain ⟨hP, hD⟩ := va_join (wr := [(oq, .inl (cJ, 1, .inr (.inl fo9)))]) (w1 := [(h0, .inr (5, [.ref hm, .ref hh, .ref he, .ref ha, .ref hp, .int 1])), (hm, .inr (4, [.int (nI n), .int (mI S), .int (mI Ce), .ref qh, .ref qn])), (qn, .inl (cI, 12, .inl (fun j => mI (N j)))), (hh, .inr (3, [.int tn, .ref qu, .ref qo, .ref qx, .ref qy, .ref qr, .ref qw])), (qu, .inl (cI, 12, .inl fu)), (qo, .inl (cI, 12, .inl (fun j => nI (okN (odR (!decide (fu a = -1) && decide (fu a / 2 = nI p9)) (true)) Oo a 0 j)))), (qx, .inl (cI, 12, .inl (fun j => nI (okN (odR (!decide (fu a = -1) && decide (fu a / 2 = nI p9)) (true)) X a 0 j)))), (qy, .inl (cI, 12, .inl (fun j => nI (okN (odR (!decide (fu a = -1) && decide (fu a / 2 = nI p9)) (true)) Y a 0 j))))]) hP hD [0, 1, 2, 3, 4, 5, 6, 7] [8] rfl rfl (by decide) (by decide) hk1 hFc hP1 hD1
  generalize H1 = H at hP hS ⊢
  have hP : va_P D vwCl [(oq, .inl (cJ, 1, .inr (.inl fo9))), (h0, .inr (5, [.ref hm, .ref hh, .ref he, .ref ha, .ref hp, .int 1])), (hm, .inr (4, [.int (nI n), .int (mI S), .int (mI Ce), .ref qh, .ref qn])), (qn, .inl (cI, 12, .inl (fun j => mI (N j)))), (hh, .inr (3, [.int tn, .ref qu, .ref qo, .ref qx, .ref qy, .ref qr, .ref qw])), (qu, .inl (cI, 12, .inl fu)), (qo, .inl (cI, 12, .inl (fun j => nI (okN (odR (!decide (fu a = -1) && decide (fu a / 2 = nI p9)) (true)) Oo a 0 j)))), (qx, .inl (cI, 12, .inl (fun j => nI (okN (odR (!decide (fu a = -1) && decide (fu a / 2 = nI p9)) (true)) X a 0 j)))), (qy, .inl (cI, 12, .inl (fun j => nI (okN (odR (!decide (fu a = -1) && decide (fu a / 2 = nI p9)) (true)) Y a 0 j))))] H := hP
  have hD : va_D A [(oq, .inl (cJ, 1, .inr (.inl fo9))), (h0, .inr (5, [.ref hm, .ref hh, .ref he, .ref ha, .ref hp, .int 1])), (hm, .inr (4, [.int (nI n), .int (mI S), .int (mI Ce), .ref qh, .ref qn])), (qn, .inl (cI, 12, .inl (fun j => mI (N j)))), (hh, .inr (3, [.int tn, .ref qu, .ref qo, .ref qx, .ref qy, .ref qr, .ref qw])), (qu, .inl (cI, 12, .inl fu)), (qo, .inl (cI, 12, .inl (fun j => nI (okN (odR (!decide (fu a = -1) && decide (fu a / 2 = nI p9)) (true)) Oo a 0 j)))), (qx, .inl (cI, 12, .inl (fun j => nI (okN (odR (!decide (fu a = -1) && decide (fu a / 2 = nI p9)) (true)) X a 0 j)))), (qy, .inl (cI, 12, .inl (fun j => nI (okN (odR (!decide (fu a = -1) && decide (fu a / 2 = nI p9)) (true)) Y a 0 j))))] := hD
  refine lv_i2l hx hb d_Lw_order_14 rfl ?_
  refine va_last hx hb hK hP hD hS 0 2 rfl rfl (by unfold vp_in; decide) d_Lw_order_15 (fun H locs hP hD hS => ?_)
  have hP : va_P D vwCl [(oq, .inl (cJ, 1, .inr (.inl (vp_updL fo9 (0 : Int32).toNatClampNeg ((nI (odR (!decide (fu a = -1) && decide (fu a / 2 = nI p9)) (true))).toInt64))))), (h0, .inr (5, [.ref hm, .ref hh, .ref he, .ref ha, .ref hp, .int 1])), (hm, .inr (4, [.int (nI n), .int (mI S), .int (mI Ce), .ref qh, .ref qn])), (qn, .inl (cI, 12, .inl (fun j => mI (N j)))), (hh, .inr (3, [.int tn, .ref qu, .ref qo, .ref qx, .ref qy, .ref qr, .ref qw])), (qu, .inl (cI, 12, .inl fu)), (qo, .inl (cI, 12, .inl (fun j => nI (okN (odR (!decide (fu a = -1) && decide (fu a / 2 = nI p9)) (true)) Oo a 0 j)))), (qx, .inl (cI, 12, .inl (fun j => nI (okN (odR (!decide (fu a = -1) && decide (fu a / 2 = nI p9)) (true)) X a 0 j)))), (qy, .inl (cI, 12, .inl (fun j => nI (okN (odR (!decide (fu a = -1) && decide (fu a / 2 = nI p9)) (true)) Y a 0 j))))] H := hP
  have hD : va_D A [(oq, .inl (cJ, 1, .inr (.inl (vp_updL fo9 (0 : Int32).toNatClampNeg ((nI (odR (!decide (fu a = -1) && decide (fu a / 2 = nI p9)) (true))).toInt64))))), (h0, .inr (5, [.ref hm, .ref hh, .ref he, .ref ha, .ref hp, .int 1])), (hm, .inr (4, [.int (nI n), .int (mI S), .int (mI Ce), .ref qh, .ref qn])), (qn, .inl (cI, 12, .inl (fun j => mI (N j)))), (hh, .inr (3, [.int tn, .ref qu, .ref qo, .ref qx, .ref qy, .ref qr, .ref qw])), (qu, .inl (cI, 12, .inl fu)), (qo, .inl (cI, 12, .inl (fun j => nI (okN (odR (!decide (fu a = -1) && decide (fu a / 2 = nI p9)) (true)) Oo a 0 j)))), (qx, .inl (cI, 12, .inl (fun j => nI (okN (odR (!decide (fu a = -1) && decide (fu a / 2 = nI p9)) (true)) X a 0 j)))), (qy, .inl (cI, 12, .inl (fun j => nI (okN (odR (!decide (fu a = -1) && decide (fu a / 2 = nI p9)) (true)) Y a 0 j))))] := hD
  refine lv_goto (tgt := 27) hx hb d_Lw_order_16 (by decide) ?_
  refine lv_iconst (v := 0) hx hb d_Lw_order_27 (by decide) ?_
  have hP9 := hP.sub (ws' := [(h0, .inr (5, [.ref hm, .ref hh, .ref he, .ref ha, .ref hp, .int 1])), (hm, .inr (4, [.int (nI n), .int (mI S), .int (mI Ce), .ref qh, .ref qn])), (qn, .inl (cI, 12, .inl (fun j => mI (N j)))), (hh, .inr (3, [.int tn, .ref qu, .ref qo, .ref qx, .ref qy, .ref qr, .ref qw])), (qu, .inl (cI, 12, .inl fu)), (qo, .inl (cI, 12, .inl (fun j => nI (okN (odR (!decide (fu a = -1) && decide (fu a / 2 = nI p9)) (true)) Oo a 0 j)))), (qx, .inl (cI, 12, .inl (fun j => nI (okN (odR (!decide (fu a = -1) && decide (fu a / 2 = nI p9)) (true)) X a 0 j)))), (qy, .inl (cI, 12, .inl (fun j => nI (okN (odR (!decide (fu a = -1) && decide (fu a / 2 = nI p9)) (true)) Y a 0 j)))), (oq, .inl (cJ, 1, .inr (.inl (vp_updL fo9 (0 : Int32).toNatClampNeg ((nI (odR (!decide (fu a = -1) && decide (fu a / 2 = nI p9)) (true))).toInt64)))))]) [1, 2, 3, 4, 5, 6, 7, 8, 0] rfl
  have hD9 := hD.sub (ws' := [(h0, .inr (5, [.ref hm, .ref hh, .ref he, .ref ha, .ref hp, .int 1])), (hm, .inr (4, [.int (nI n), .int (mI S), .int (mI Ce), .ref qh, .ref qn])), (qn, .inl (cI, 12, .inl (fun j => mI (N j)))), (hh, .inr (3, [.int tn, .ref qu, .ref qo, .ref qx, .ref qy, .ref qr, .ref qw])), (qu, .inl (cI, 12, .inl fu)), (qo, .inl (cI, 12, .inl (fun j => nI (okN (odR (!decide (fu a = -1) && decide (fu a / 2 = nI p9)) (true)) Oo a 0 j)))), (qx, .inl (cI, 12, .inl (fun j => nI (okN (odR (!decide (fu a = -1) && decide (fu a / 2 = nI p9)) (true)) X a 0 j)))), (qy, .inl (cI, 12, .inl (fun j => nI (okN (odR (!decide (fu a = -1) && decide (fu a / 2 = nI p9)) (true)) Y a 0 j)))), (oq, .inl (cJ, 1, .inr (.inl (vp_updL fo9 (0 : Int32).toNatClampNeg ((nI (odR (!decide (fu a = -1) && decide (fu a / 2 = nI p9)) (true))).toInt64)))))]) [1, 2, 3, 4, 5, 6, 7, 8, 0] (by decide) rfl
  exact W.iret (v := 0) hx hb hr (fun t ht hW => ⟨⟨0, (), rfl, rfl, by rw [ht]; exact hP9, hD9⟩, hS.F ht⟩) hS.2.2 d_Lw_order_28


set_option maxHeartbeats 4000000 in
set_option maxRecDepth 100000 in
theorem c_Lw_order1 (l : Launch) (D : va_G) (cI cZ cJ cS : ClassId) (aT : Nat) (ceT : Cell) (sz : Nat) (h0 hm hh he ha hp : Nat) (qh qn n : Nat) (S Ce : Nat → Bool) (N : Nat → Nat → Bool) (tn : Int32) (qu qo qx qy qr qw : Nat) (fu : Nat → Int32) (Oo X Y : Nat → Nat) (p9 a x : Nat) (y : Int32) (oq : Nat) (fo9 : Nat → Int64) (hn : n ≤ 12) (h_a : a < n) (h_p : p9 < 4) (h_x : x < n) : Met l y_Lw_order w_Lw_order ({ frames := 6, cells := 0, slots := 0, locals := 138 }) (tH D cI cZ cJ cS aT ceT [.ref h0, .int (nI p9), .int (nI a), .int 1, .int (nI x), .int y, .ref oq] sz [(h0, .inr (5, [.ref hm, .ref hh, .ref he, .ref ha, .ref hp, .int 1])), (hm, .inr (4, [.int (nI n), .int (mI S), .int (mI Ce), .ref qh, .ref qn])), (qn, .inl (cI, 12, .inl (fun j => mI (N j)))), (hh, .inr (3, [.int tn, .ref qu, .ref qo, .ref qx, .ref qy, .ref qr, .ref qw])), (qu, .inl (cI, 12, .inl fu)), (qo, .inl (cI, 12, .inl (fun j => nI (Oo j)))), (qx, .inl (cI, 12, .inl (fun j => nI (X j)))), (qy, .inl (cI, 12, .inl (fun j => nI (Y j)))), (oq, .inl (cJ, 1, .inr (.inl fo9)))]) (va_Qi (fun (r : Int32) (_ : Unit) => r = 0) (fun _ t => tB D (va_A [(h0, .inr (5, [.ref hm, .ref hh, .ref he, .ref ha, .ref hp, .int 1])), (hm, .inr (4, [.int (nI n), .int (mI S), .int (mI Ce), .ref qh, .ref qn])), (qn, .inl (cI, 12, .inl (fun j => mI (N j)))), (hh, .inr (3, [.int tn, .ref qu, .ref qo, .ref qx, .ref qy, .ref qr, .ref qw])), (qu, .inl (cI, 12, .inl fu)), (qo, .inl (cI, 12, .inl (fun j => nI (Oo j)))), (qx, .inl (cI, 12, .inl (fun j => nI (X j)))), (qy, .inl (cI, 12, .inl (fun j => nI (Y j)))), (oq, .inl (cJ, 1, .inr (.inl fo9)))] sz) [(h0, .inr (5, [.ref hm, .ref hh, .ref he, .ref ha, .ref hp, .int 1])), (hm, .inr (4, [.int (nI n), .int (mI S), .int (mI Ce), .ref qh, .ref qn])), (qn, .inl (cI, 12, .inl (fun j => mI (N j)))), (hh, .inr (3, [.int tn, .ref qu, .ref qo, .ref qx, .ref qy, .ref qr, .ref qw])), (qu, .inl (cI, 12, .inl fu)), (qo, .inl (cI, 12, .inl (fun j => nI (okN (odR (!decide (fu a = -1) && decide (fu a / 2 = nI p9)) (pmC N S fu a x)) Oo a 1 j)))), (qx, .inl (cI, 12, .inl (fun j => nI (okN (odR (!decide (fu a = -1) && decide (fu a / 2 = nI p9)) (pmC N S fu a x)) X a x j)))), (qy, .inl (cI, 12, .inl (fun j => nI (okN (odR (!decide (fu a = -1) && decide (fu a / 2 = nI p9)) (pmC N S fu a x)) Y a 0 j)))), (oq, .inl (cJ, 1, .inr (.inl (vp_updL fo9 (0 : Int32).toNatClampNeg (nI (odR (!decide (fu a = -1) && decide (fu a / 2 = nI p9)) (pmC N S fu a x))).toInt64))))] t) (va_A [(h0, .inr (5, [.ref hm, .ref hh, .ref he, .ref ha, .ref hp, .int 1])), (hm, .inr (4, [.int (nI n), .int (mI S), .int (mI Ce), .ref qh, .ref qn])), (qn, .inl (cI, 12, .inl (fun j => mI (N j)))), (hh, .inr (3, [.int tn, .ref qu, .ref qo, .ref qx, .ref qy, .ref qr, .ref qw])), (qu, .inl (cI, 12, .inl fu)), (qo, .inl (cI, 12, .inl (fun j => nI (Oo j)))), (qx, .inl (cI, 12, .inl (fun j => nI (X j)))), (qy, .inl (cI, 12, .inl (fun j => nI (Y j)))), (oq, .inl (cJ, 1, .inr (.inl fo9)))] sz)) 0 0 (va_A [(h0, .inr (5, [.ref hm, .ref hh, .ref he, .ref ha, .ref hp, .int 1])), (hm, .inr (4, [.int (nI n), .int (mI S), .int (mI Ce), .ref qh, .ref qn])), (qn, .inl (cI, 12, .inl (fun j => mI (N j)))), (hh, .inr (3, [.int tn, .ref qu, .ref qo, .ref qx, .ref qy, .ref qr, .ref qw])), (qu, .inl (cI, 12, .inl fu)), (qo, .inl (cI, 12, .inl (fun j => nI (Oo j)))), (qx, .inl (cI, 12, .inl (fun j => nI (X j)))), (qy, .inl (cI, 12, .inl (fun j => nI (Y j)))), (oq, .inl (cJ, 1, .inr (.inl fo9)))] sz) := by
  refine va_MetW (cc := b_Lw_order) (maxL := 8) (ret := (some .int)) (hh := [(0, 16, 19, 13), (0, 16, 23, 15)]) (by decide) rfl ?_
  intro p e s m args below meth c s₁ B hml hv
  obtain ⟨rfl, hsz, hP, hK, hD0, hX⟩ := hv
  have hx := B.exec
  have hb := B.bytes
  have hr := B.returns
  have hts0 := atoms_spec (ws := w_Lw_order) B.pre
  have hts : ∀ w ∈ TB, w.before _ s = true := fun w h => hts0 w (List.mem_cons_of_mem _ h)
  have hown : s.vm.findClass "SheetWarLaw" = some m.cls := findClass_of_methodNamed B.named
  have hlocks := B.notSynchronized
  have hTab := tx_tab B (hts0 _ (List.mem_cons_self ..))
  subst hsz
  have hXl := tx_lt hX
  have hXn := tx_far hP hX
  have hD := hD0.self (sz := s.heap.size)
  generalize hAe : va_A [(h0, .inr (5, [.ref hm, .ref hh, .ref he, .ref ha, .ref hp, .int 1])), (hm, .inr (4, [.int (nI n), .int (mI S), .int (mI Ce), .ref qh, .ref qn])), (qn, .inl (cI, 12, .inl (fun j => mI (N j)))), (hh, .inr (3, [.int tn, .ref qu, .ref qo, .ref qx, .ref qy, .ref qr, .ref qw])), (qu, .inl (cI, 12, .inl fu)), (qo, .inl (cI, 12, .inl (fun j => nI (Oo j)))), (qx, .inl (cI, 12, .inl (fun j => nI (X j)))), (qy, .inl (cI, 12, .inl (fun j => nI (Y j)))), (oq, .inl (cJ, 1, .inr (.inl fo9)))] s.heap.size = A at hD hXn ⊢
  have hA : ∀ q : Nat, s.heap.size ≤ q → A q := fun q h => by rw [← hAe]; exact Or.inr h
  have hS : va_S A s.heap s.heap [] := va_S.rf
  have hXH : s.heap[aT]? = s.heap[aT]? := rfl
  have hl := lv_entry ([.ref h0, .int (nI p9), .int (nI a), .int 1, .int (nI x), .int y, .ref oq]) (n := 8) (Nat.le_of_ble_eq_true rfl)
  rw [lg_entry_eq]
  generalize (lg_sl ([.ref h0, .int (nI p9), .int (nI a), .int 1, .int (nI x), .int y, .ref oq]) ++ List.replicate (8 - (lg_sl ([.ref h0, .int (nI p9), .int (nI a), .int 1, .int (nI x), .int y, .ref oq])).length) Slot.unset).toArray = ls at hl ⊢
  have hl : lv_has ls 8 [(0, .ref h0), (1, .int (nI p9)), (2, .int (nI a)), (3, .int 1), (4, .int (nI x)), (5, .int y), (6, .ref oq)] := hl
  refine lv_aload hx hb d_Lw_order_0 (lv_at hl 6 rfl) ?_
  refine lv_iconst (v := 0) hx hb d_Lw_order_2 (by decide) ?_
  refine lv_aload_n hx hb d_Lw_order_3 rfl (lv_at hl 0 rfl) ?_
  refine lv_iload_n hx hb d_Lw_order_4 rfl (lv_at hl 1 rfl) ?_
  refine lv_iload_n hx hb d_Lw_order_5 rfl (lv_at hl 2 rfl) ?_
  refine lv_iload_n hx hb d_Lw_order_6 rfl (lv_at hl 3 rfl) ?_
  refine lv_iload hx hb d_Lw_order_7 (lv_at hl 4 rfl) ?_
  refine lv_iload hx hb d_Lw_order_9 (lv_at hl 5 rfl) ?_
  have hPc := hP.sub (ws' := [(h0, .inr (5, [.ref hm, .ref hh, .ref he, .ref ha, .ref hp, .int 1])), (hm, .inr (4, [.int (nI n), .int (mI S), .int (mI Ce), .ref qh, .ref qn])), (qn, .inl (cI, 12, .inl (fun j => mI (N j)))), (hh, .inr (3, [.int tn, .ref qu, .ref qo, .ref qx, .ref qy, .ref qr, .ref qw])), (qu, .inl (cI, 12, .inl fu)), (qo, .inl (cI, 12, .inl (fun j => nI (Oo j)))), (qx, .inl (cI, 12, .inl (fun j => nI (X j)))), (qy, .inl (cI, 12, .inl (fun j => nI (Y j))))]) [0, 1, 2, 3, 4, 5, 6, 7] rfl
  have hDc := hD.sub (ws' := [(h0, .inr (5, [.ref hm, .ref hh, .ref he, .ref ha, .ref hp, .int 1])), (hm, .inr (4, [.int (nI n), .int (mI S), .int (mI Ce), .ref qh, .ref qn])), (qn, .inl (cI, 12, .inl (fun j => mI (N j)))), (hh, .inr (3, [.int tn, .ref qu, .ref qo, .ref qx, .ref qy, .ref qr, .ref qw])), (qu, .inl (cI, 12, .inl fu)), (qo, .inl (cI, 12, .inl (fun j => nI (Oo j)))), (qx, .inl (cI, 12, .inl (fun j => nI (X j)))), (qy, .inl (cI, 12, .inl (fun j => nI (Y j))))]) [0, 1, 2, 3, 4, 5, 6, 7] (by decide) rfl
  have hFc := va_free (wc := [(h0, .inr (5, [.ref hm, .ref hh, .ref he, .ref ha, .ref hp, .int 1])), (hm, .inr (4, [.int (nI n), .int (mI S), .int (mI Ce), .ref qh, .ref qn])), (qn, .inl (cI, 12, .inl (fun j => mI (N j)))), (hh, .inr (3, [.int tn, .ref qu, .ref qo, .ref qx, .ref qy, .ref qr, .ref qw])), (qu, .inl (cI, 12, .inl fu)), (qo, .inl (cI, 12, .inl (fun j => nI (Oo j)))), (qx, .inl (cI, 12, .inl (fun j => nI (X j)))), (qy, .inl (cI, 12, .inl (fun j => nI (Y j))))]) hD hS hA [0, 1, 2, 3, 4, 5, 6, 7] rfl
  refine va_calli (va_runV (As := [.int (nI p9), .int (nI a), .int 1, .int (nI x), .int y]) (rest := [.int 0, .ref oq]) ⟨hx, hb, hml, hown, hts⟩ (c_Sw_order1 l D cI cZ cJ cS aT ceT s.heap.size h0 hm hh he ha hp qh qn n S Ce N tn qu qo qx qy qr qw fu Oo X Y p9 a x y hn h_a h_p h_x) (cwV 5 hts (tb_4 wd_455 wd_456 wd_457 wd_1 (tb_c wd_458)) rfl rfl rfl ⟨rfl, by decide, by decide, by decide +kernel⟩ ⟨Nat.le_of_ble_eq_true rfl, Nat.le_of_ble_eq_true rfl⟩) (tH_V hK hX (hS.2.1 aT hXl hXn) hPc hDc (q := 0) rfl rfl) rfl rfl hl.1 rfl (lv_room (Nat.le_of_ble_eq_true rfl)) d_Lw_order_11 ⟨Nat.le_of_ble_eq_true rfl, Nat.le_of_ble_eq_true rfl⟩) hS (fun q _ h => hFc q h) hFc (fun r9 u t H1 locs ht hvm h9 hB hz1 hk1 hS => ?_)
  rw [h9]
  obtain ⟨hP1, hD1⟩ := hB
  rw [ht] at hP1
  obtain ⟨hP, hD⟩ := va_join (wr := [(oq, .inl (cJ, 1, .inr (.inl fo9)))]) (w1 := [(h0, .inr (5, [.ref hm, .ref hh, .ref he, .ref ha, .ref hp, .int 1])), (hm, .inr (4, [.int (nI n), .int (mI S), .int (mI Ce), .ref qh, .ref qn])), (qn, .inl (cI, 12, .inl (fun j => mI (N j)))), (hh, .inr (3, [.int tn, .ref qu, .ref qo, .ref qx, .ref qy, .ref qr, .ref qw])), (qu, .inl (cI, 12, .inl fu)), (qo, .inl (cI, 12, .inl (fun j => nI (okN (odR (!decide (fu a = -1) && decide (fu a / 2 = nI p9)) (pmC N S fu a x)) Oo a 1 j)))), (qx, .inl (cI, 12, .inl (fun j => nI (okN (odR (!decide (fu a = -1) && decide (fu a / 2 = nI p9)) (pmC N S fu a x)) X a x j)))), (qy, .inl (cI, 12, .inl (fun j => nI (okN (odR (!decide (fu a = -1) && decide (fu a / 2 = nI p9)) (pmC N S fu a x)) Y a 0 j))))]) hP hD [0, 1, 2, 3, 4, 5, 6, 7] [8] rfl rfl (by decide) (by decide) hk1 hFc hP1 hD1
  generalize H1 = H at hP hS ⊢
  have hP : va_P D vwCl [(oq, .inl (cJ, 1, .inr (.inl fo9))), (h0, .inr (5, [.ref hm, .ref hh, .ref he, .ref ha, .ref hp, .int 1])), (hm, .inr (4, [.int (nI n), .int (mI S), .int (mI Ce), .ref qh, .ref qn])), (qn, .inl (cI, 12, .inl (fun j => mI (N j)))), (hh, .inr (3, [.int tn, .ref qu, .ref qo, .ref qx, .ref qy, .ref qr, .ref qw])), (qu, .inl (cI, 12, .inl fu)), (qo, .inl (cI, 12, .inl (fun j => nI (okN (odR (!decide (fu a = -1) && decide (fu a / 2 = nI p9)) (pmC N S fu a x)) Oo a 1 j)))), (qx, .inl (cI, 12, .inl (fun j => nI (okN (odR (!decide (fu a = -1) && decide (fu a / 2 = nI p9)) (pmC N S fu a x)) X a x j)))), (qy, .inl (cI, 12, .inl (fun j => nI (okN (odR (!decide (fu a = -1) && decide (fu a / 2 = nI p9)) (pmC N S fu a x)) Y a 0 j))))] H := hP
  have hD : va_D A [(oq, .inl (cJ, 1, .inr (.inl fo9))), (h0, .inr (5, [.ref hm, .ref hh, .ref he, .ref ha, .ref hp, .int 1])), (hm, .inr (4, [.int (nI n), .int (mI S), .int (mI Ce), .ref qh, .ref qn])), (qn, .inl (cI, 12, .inl (fun j => mI (N j)))), (hh, .inr (3, [.int tn, .ref qu, .ref qo, .ref qx, .ref qy, .ref qr, .ref qw])), (qu, .inl (cI, 12, .inl fu)), (qo, .inl (cI, 12, .inl (fun j => nI (okN (odR (!decide (fu a = -1) && decide (fu a / 2 = nI p9)) (pmC N S fu a x)) Oo a 1 j)))), (qx, .inl (cI, 12, .inl (fun j => nI (okN (odR (!decide (fu a = -1) && decide (fu a / 2 = nI p9)) (pmC N S fu a x)) X a x j)))), (qy, .inl (cI, 12, .inl (fun j => nI (okN (odR (!decide (fu a = -1) && decide (fu a / 2 = nI p9)) (pmC N S fu a x)) Y a 0 j))))] := hD
  refine lv_i2l hx hb d_Lw_order_14 rfl ?_
  refine va_last hx hb hK hP hD hS 0 2 rfl rfl (by unfold vp_in; decide) d_Lw_order_15 (fun H locs hP hD hS => ?_)
  have hP : va_P D vwCl [(oq, .inl (cJ, 1, .inr (.inl (vp_updL fo9 (0 : Int32).toNatClampNeg ((nI (odR (!decide (fu a = -1) && decide (fu a / 2 = nI p9)) (pmC N S fu a x))).toInt64))))), (h0, .inr (5, [.ref hm, .ref hh, .ref he, .ref ha, .ref hp, .int 1])), (hm, .inr (4, [.int (nI n), .int (mI S), .int (mI Ce), .ref qh, .ref qn])), (qn, .inl (cI, 12, .inl (fun j => mI (N j)))), (hh, .inr (3, [.int tn, .ref qu, .ref qo, .ref qx, .ref qy, .ref qr, .ref qw])), (qu, .inl (cI, 12, .inl fu)), (qo, .inl (cI, 12, .inl (fun j => nI (okN (odR (!decide (fu a = -1) && decide (fu a / 2 = nI p9)) (pmC N S fu a x)) Oo a 1 j)))), (qx, .inl (cI, 12, .inl (fun j => nI (okN (odR (!decide (fu a = -1) && decide (fu a / 2 = nI p9)) (pmC N S fu a x)) X a x j)))), (qy, .inl (cI, 12, .inl (fun j => nI (okN (odR (!decide (fu a = -1) && decide (fu a / 2 = nI p9)) (pmC N S fu a x)) Y a 0 j))))] H := hP
  have hD : va_D A [(oq, .inl (cJ, 1, .inr (.inl (vp_updL fo9 (0 : Int32).toNatClampNeg ((nI (odR (!decide (fu a = -1) && decide (fu a / 2 = nI p9)) (pmC N S fu a x))).toInt64))))), (h0, .inr (5, [.ref hm, .ref hh, .ref he, .ref ha, .ref hp, .int 1])), (hm, .inr (4, [.int (nI n), .int (mI S), .int (mI Ce), .ref qh, .ref qn])), (qn, .inl (cI, 12, .inl (fun j => mI (N j)))), (hh, .inr (3, [.int tn, .ref qu, .ref qo, .ref qx, .ref qy, .ref qr, .ref qw])), (qu, .inl (cI, 12, .inl fu)), (qo, .inl (cI, 12, .inl (fun j => nI (okN (odR (!decide (fu a = -1) && decide (fu a / 2 = nI p9)) (pmC N S fu a x)) Oo a 1 j)))), (qx, .inl (cI, 12, .inl (fun j => nI (okN (odR (!decide (fu a = -1) && decide (fu a / 2 = nI p9)) (pmC N S fu a x)) X a x j)))), (qy, .inl (cI, 12, .inl (fun j => nI (okN (odR (!decide (fu a = -1) && decide (fu a / 2 = nI p9)) (pmC N S fu a x)) Y a 0 j))))] := hD
  refine lv_goto (tgt := 27) hx hb d_Lw_order_16 (by decide) ?_
  refine lv_iconst (v := 0) hx hb d_Lw_order_27 (by decide) ?_
  have hP9 := hP.sub (ws' := [(h0, .inr (5, [.ref hm, .ref hh, .ref he, .ref ha, .ref hp, .int 1])), (hm, .inr (4, [.int (nI n), .int (mI S), .int (mI Ce), .ref qh, .ref qn])), (qn, .inl (cI, 12, .inl (fun j => mI (N j)))), (hh, .inr (3, [.int tn, .ref qu, .ref qo, .ref qx, .ref qy, .ref qr, .ref qw])), (qu, .inl (cI, 12, .inl fu)), (qo, .inl (cI, 12, .inl (fun j => nI (okN (odR (!decide (fu a = -1) && decide (fu a / 2 = nI p9)) (pmC N S fu a x)) Oo a 1 j)))), (qx, .inl (cI, 12, .inl (fun j => nI (okN (odR (!decide (fu a = -1) && decide (fu a / 2 = nI p9)) (pmC N S fu a x)) X a x j)))), (qy, .inl (cI, 12, .inl (fun j => nI (okN (odR (!decide (fu a = -1) && decide (fu a / 2 = nI p9)) (pmC N S fu a x)) Y a 0 j)))), (oq, .inl (cJ, 1, .inr (.inl (vp_updL fo9 (0 : Int32).toNatClampNeg ((nI (odR (!decide (fu a = -1) && decide (fu a / 2 = nI p9)) (pmC N S fu a x))).toInt64)))))]) [1, 2, 3, 4, 5, 6, 7, 8, 0] rfl
  have hD9 := hD.sub (ws' := [(h0, .inr (5, [.ref hm, .ref hh, .ref he, .ref ha, .ref hp, .int 1])), (hm, .inr (4, [.int (nI n), .int (mI S), .int (mI Ce), .ref qh, .ref qn])), (qn, .inl (cI, 12, .inl (fun j => mI (N j)))), (hh, .inr (3, [.int tn, .ref qu, .ref qo, .ref qx, .ref qy, .ref qr, .ref qw])), (qu, .inl (cI, 12, .inl fu)), (qo, .inl (cI, 12, .inl (fun j => nI (okN (odR (!decide (fu a = -1) && decide (fu a / 2 = nI p9)) (pmC N S fu a x)) Oo a 1 j)))), (qx, .inl (cI, 12, .inl (fun j => nI (okN (odR (!decide (fu a = -1) && decide (fu a / 2 = nI p9)) (pmC N S fu a x)) X a x j)))), (qy, .inl (cI, 12, .inl (fun j => nI (okN (odR (!decide (fu a = -1) && decide (fu a / 2 = nI p9)) (pmC N S fu a x)) Y a 0 j)))), (oq, .inl (cJ, 1, .inr (.inl (vp_updL fo9 (0 : Int32).toNatClampNeg ((nI (odR (!decide (fu a = -1) && decide (fu a / 2 = nI p9)) (pmC N S fu a x))).toInt64)))))]) [1, 2, 3, 4, 5, 6, 7, 8, 0] (by decide) rfl
  exact W.iret (v := 0) hx hb hr (fun t ht hW => ⟨⟨0, (), rfl, rfl, by rw [ht]; exact hP9, hD9⟩, hS.F ht⟩) hS.2.2 d_Lw_order_28


set_option maxHeartbeats 4000000 in
set_option maxRecDepth 100000 in
theorem c_Lw_order2 (l : Launch) (D : va_G) (cI cZ cJ cS : ClassId) (aT : Nat) (ceT : Cell) (sz : Nat) (h0 hm hh he ha hp : Nat) (qh qn n : Nat) (S Ce : Nat → Bool) (N : Nat → Nat → Bool) (tn : Int32) (qu qo qx qy qr qw : Nat) (fu : Nat → Int32) (Oo X Y : Nat → Nat) (p9 a x y : Nat) (oq : Nat) (fo9 : Nat → Int64) (hn : n ≤ 12) (h_a : a < n) (h_p : p9 < 4) (h_x : x < n) (h_y : y < n) : Met l y_Lw_order w_Lw_order ({ frames := 6, cells := 0, slots := 0, locals := 138 }) (tH D cI cZ cJ cS aT ceT [.ref h0, .int (nI p9), .int (nI a), .int 2, .int (nI x), .int (nI y), .ref oq] sz [(h0, .inr (5, [.ref hm, .ref hh, .ref he, .ref ha, .ref hp, .int 1])), (hm, .inr (4, [.int (nI n), .int (mI S), .int (mI Ce), .ref qh, .ref qn])), (qn, .inl (cI, 12, .inl (fun j => mI (N j)))), (hh, .inr (3, [.int tn, .ref qu, .ref qo, .ref qx, .ref qy, .ref qr, .ref qw])), (qu, .inl (cI, 12, .inl fu)), (qo, .inl (cI, 12, .inl (fun j => nI (Oo j)))), (qx, .inl (cI, 12, .inl (fun j => nI (X j)))), (qy, .inl (cI, 12, .inl (fun j => nI (Y j)))), (oq, .inl (cJ, 1, .inr (.inl fo9)))]) (va_Qi (fun (r : Int32) (_ : Unit) => r = 0) (fun _ t => tB D (va_A [(h0, .inr (5, [.ref hm, .ref hh, .ref he, .ref ha, .ref hp, .int 1])), (hm, .inr (4, [.int (nI n), .int (mI S), .int (mI Ce), .ref qh, .ref qn])), (qn, .inl (cI, 12, .inl (fun j => mI (N j)))), (hh, .inr (3, [.int tn, .ref qu, .ref qo, .ref qx, .ref qy, .ref qr, .ref qw])), (qu, .inl (cI, 12, .inl fu)), (qo, .inl (cI, 12, .inl (fun j => nI (Oo j)))), (qx, .inl (cI, 12, .inl (fun j => nI (X j)))), (qy, .inl (cI, 12, .inl (fun j => nI (Y j)))), (oq, .inl (cJ, 1, .inr (.inl fo9)))] sz) [(h0, .inr (5, [.ref hm, .ref hh, .ref he, .ref ha, .ref hp, .int 1])), (hm, .inr (4, [.int (nI n), .int (mI S), .int (mI Ce), .ref qh, .ref qn])), (qn, .inl (cI, 12, .inl (fun j => mI (N j)))), (hh, .inr (3, [.int tn, .ref qu, .ref qo, .ref qx, .ref qy, .ref qr, .ref qw])), (qu, .inl (cI, 12, .inl fu)), (qo, .inl (cI, 12, .inl (fun j => nI (okN (odR (!decide (fu a = -1) && decide (fu a / 2 = nI p9)) (psuC N S fu a x y)) Oo a 2 j)))), (qx, .inl (cI, 12, .inl (fun j => nI (okN (odR (!decide (fu a = -1) && decide (fu a / 2 = nI p9)) (psuC N S fu a x y)) X a x j)))), (qy, .inl (cI, 12, .inl (fun j => nI (okN (odR (!decide (fu a = -1) && decide (fu a / 2 = nI p9)) (psuC N S fu a x y)) Y a y j)))), (oq, .inl (cJ, 1, .inr (.inl (vp_updL fo9 (0 : Int32).toNatClampNeg (nI (odR (!decide (fu a = -1) && decide (fu a / 2 = nI p9)) (psuC N S fu a x y))).toInt64))))] t) (va_A [(h0, .inr (5, [.ref hm, .ref hh, .ref he, .ref ha, .ref hp, .int 1])), (hm, .inr (4, [.int (nI n), .int (mI S), .int (mI Ce), .ref qh, .ref qn])), (qn, .inl (cI, 12, .inl (fun j => mI (N j)))), (hh, .inr (3, [.int tn, .ref qu, .ref qo, .ref qx, .ref qy, .ref qr, .ref qw])), (qu, .inl (cI, 12, .inl fu)), (qo, .inl (cI, 12, .inl (fun j => nI (Oo j)))), (qx, .inl (cI, 12, .inl (fun j => nI (X j)))), (qy, .inl (cI, 12, .inl (fun j => nI (Y j)))), (oq, .inl (cJ, 1, .inr (.inl fo9)))] sz)) 0 0 (va_A [(h0, .inr (5, [.ref hm, .ref hh, .ref he, .ref ha, .ref hp, .int 1])), (hm, .inr (4, [.int (nI n), .int (mI S), .int (mI Ce), .ref qh, .ref qn])), (qn, .inl (cI, 12, .inl (fun j => mI (N j)))), (hh, .inr (3, [.int tn, .ref qu, .ref qo, .ref qx, .ref qy, .ref qr, .ref qw])), (qu, .inl (cI, 12, .inl fu)), (qo, .inl (cI, 12, .inl (fun j => nI (Oo j)))), (qx, .inl (cI, 12, .inl (fun j => nI (X j)))), (qy, .inl (cI, 12, .inl (fun j => nI (Y j)))), (oq, .inl (cJ, 1, .inr (.inl fo9)))] sz) := by
  refine va_MetW (cc := b_Lw_order) (maxL := 8) (ret := (some .int)) (hh := [(0, 16, 19, 13), (0, 16, 23, 15)]) (by decide) rfl ?_
  intro p e s m args below meth c s₁ B hml hv
  obtain ⟨rfl, hsz, hP, hK, hD0, hX⟩ := hv
  have hx := B.exec
  have hb := B.bytes
  have hr := B.returns
  have hts0 := atoms_spec (ws := w_Lw_order) B.pre
  have hts : ∀ w ∈ TB, w.before _ s = true := fun w h => hts0 w (List.mem_cons_of_mem _ h)
  have hown : s.vm.findClass "SheetWarLaw" = some m.cls := findClass_of_methodNamed B.named
  have hlocks := B.notSynchronized
  have hTab := tx_tab B (hts0 _ (List.mem_cons_self ..))
  subst hsz
  have hXl := tx_lt hX
  have hXn := tx_far hP hX
  have hD := hD0.self (sz := s.heap.size)
  generalize hAe : va_A [(h0, .inr (5, [.ref hm, .ref hh, .ref he, .ref ha, .ref hp, .int 1])), (hm, .inr (4, [.int (nI n), .int (mI S), .int (mI Ce), .ref qh, .ref qn])), (qn, .inl (cI, 12, .inl (fun j => mI (N j)))), (hh, .inr (3, [.int tn, .ref qu, .ref qo, .ref qx, .ref qy, .ref qr, .ref qw])), (qu, .inl (cI, 12, .inl fu)), (qo, .inl (cI, 12, .inl (fun j => nI (Oo j)))), (qx, .inl (cI, 12, .inl (fun j => nI (X j)))), (qy, .inl (cI, 12, .inl (fun j => nI (Y j)))), (oq, .inl (cJ, 1, .inr (.inl fo9)))] s.heap.size = A at hD hXn ⊢
  have hA : ∀ q : Nat, s.heap.size ≤ q → A q := fun q h => by rw [← hAe]; exact Or.inr h
  have hS : va_S A s.heap s.heap [] := va_S.rf
  have hXH : s.heap[aT]? = s.heap[aT]? := rfl
  have hl := lv_entry ([.ref h0, .int (nI p9), .int (nI a), .int 2, .int (nI x), .int (nI y), .ref oq]) (n := 8) (Nat.le_of_ble_eq_true rfl)
  rw [lg_entry_eq]
  generalize (lg_sl ([.ref h0, .int (nI p9), .int (nI a), .int 2, .int (nI x), .int (nI y), .ref oq]) ++ List.replicate (8 - (lg_sl ([.ref h0, .int (nI p9), .int (nI a), .int 2, .int (nI x), .int (nI y), .ref oq])).length) Slot.unset).toArray = ls at hl ⊢
  have hl : lv_has ls 8 [(0, .ref h0), (1, .int (nI p9)), (2, .int (nI a)), (3, .int 2), (4, .int (nI x)), (5, .int (nI y)), (6, .ref oq)] := hl
  refine lv_aload hx hb d_Lw_order_0 (lv_at hl 6 rfl) ?_
  refine lv_iconst (v := 0) hx hb d_Lw_order_2 (by decide) ?_
  refine lv_aload_n hx hb d_Lw_order_3 rfl (lv_at hl 0 rfl) ?_
  refine lv_iload_n hx hb d_Lw_order_4 rfl (lv_at hl 1 rfl) ?_
  refine lv_iload_n hx hb d_Lw_order_5 rfl (lv_at hl 2 rfl) ?_
  refine lv_iload_n hx hb d_Lw_order_6 rfl (lv_at hl 3 rfl) ?_
  refine lv_iload hx hb d_Lw_order_7 (lv_at hl 4 rfl) ?_
  refine lv_iload hx hb d_Lw_order_9 (lv_at hl 5 rfl) ?_
  have hPc := hP.sub (ws' := [(h0, .inr (5, [.ref hm, .ref hh, .ref he, .ref ha, .ref hp, .int 1])), (hm, .inr (4, [.int (nI n), .int (mI S), .int (mI Ce), .ref qh, .ref qn])), (qn, .inl (cI, 12, .inl (fun j => mI (N j)))), (hh, .inr (3, [.int tn, .ref qu, .ref qo, .ref qx, .ref qy, .ref qr, .ref qw])), (qu, .inl (cI, 12, .inl fu)), (qo, .inl (cI, 12, .inl (fun j => nI (Oo j)))), (qx, .inl (cI, 12, .inl (fun j => nI (X j)))), (qy, .inl (cI, 12, .inl (fun j => nI (Y j))))]) [0, 1, 2, 3, 4, 5, 6, 7] rfl
  have hDc := hD.sub (ws' := [(h0, .inr (5, [.ref hm, .ref hh, .ref he, .ref ha, .ref hp, .int 1])), (hm, .inr (4, [.int (nI n), .int (mI S), .int (mI Ce), .ref qh, .ref qn])), (qn, .inl (cI, 12, .inl (fun j => mI (N j)))), (hh, .inr (3, [.int tn, .ref qu, .ref qo, .ref qx, .ref qy, .ref qr, .ref qw])), (qu, .inl (cI, 12, .inl fu)), (qo, .inl (cI, 12, .inl (fun j => nI (Oo j)))), (qx, .inl (cI, 12, .inl (fun j => nI (X j)))), (qy, .inl (cI, 12, .inl (fun j => nI (Y j))))]) [0, 1, 2, 3, 4, 5, 6, 7] (by decide) rfl
  have hFc := va_free (wc := [(h0, .inr (5, [.ref hm, .ref hh, .ref he, .ref ha, .ref hp, .int 1])), (hm, .inr (4, [.int (nI n), .int (mI S), .int (mI Ce), .ref qh, .ref qn])), (qn, .inl (cI, 12, .inl (fun j => mI (N j)))), (hh, .inr (3, [.int tn, .ref qu, .ref qo, .ref qx, .ref qy, .ref qr, .ref qw])), (qu, .inl (cI, 12, .inl fu)), (qo, .inl (cI, 12, .inl (fun j => nI (Oo j)))), (qx, .inl (cI, 12, .inl (fun j => nI (X j)))), (qy, .inl (cI, 12, .inl (fun j => nI (Y j))))]) hD hS hA [0, 1, 2, 3, 4, 5, 6, 7] rfl
  refine va_calli (va_runV (As := [.int (nI p9), .int (nI a), .int 2, .int (nI x), .int (nI y)]) (rest := [.int 0, .ref oq]) ⟨hx, hb, hml, hown, hts⟩ (c_Sw_order2 l D cI cZ cJ cS aT ceT s.heap.size h0 hm hh he ha hp qh qn n S Ce N tn qu qo qx qy qr qw fu Oo X Y p9 a x y hn h_a h_p h_x h_y) (cwV 5 hts (tb_4 wd_455 wd_456 wd_457 wd_1 (tb_c wd_458)) rfl rfl rfl ⟨rfl, by decide, by decide, by decide +kernel⟩ ⟨Nat.le_of_ble_eq_true rfl, Nat.le_of_ble_eq_true rfl⟩) (tH_V hK hX (hS.2.1 aT hXl hXn) hPc hDc (q := 0) rfl rfl) rfl rfl hl.1 rfl (lv_room (Nat.le_of_ble_eq_true rfl)) d_Lw_order_11 ⟨Nat.le_of_ble_eq_true rfl, Nat.le_of_ble_eq_true rfl⟩) hS (fun q _ h => hFc q h) hFc (fun r9 u t H1 locs ht hvm h9 hB hz1 hk1 hS => ?_)
  rw [h9]
  obtain ⟨hP1, hD1⟩ := hB
  rw [ht] at hP1
  obtain ⟨hP, hD⟩ := va_join (wr := [(oq, .inl (cJ, 1, .inr (.inl fo9)))]) (w1 := [(h0, .inr (5, [.ref hm, .ref hh, .ref he, .ref ha, .ref hp, .int 1])), (hm, .inr (4, [.int (nI n), .int (mI S), .int (mI Ce), .ref qh, .ref qn])), (qn, .inl (cI, 12, .inl (fun j => mI (N j)))), (hh, .inr (3, [.int tn, .ref qu, .ref qo, .ref qx, .ref qy, .ref qr, .ref qw])), (qu, .inl (cI, 12, .inl fu)), (qo, .inl (cI, 12, .inl (fun j => nI (okN (odR (!decide (fu a = -1) && decide (fu a / 2 = nI p9)) (psuC N S fu a x y)) Oo a 2 j)))), (qx, .inl (cI, 12, .inl (fun j => nI (okN (odR (!decide (fu a = -1) && decide (fu a / 2 = nI p9)) (psuC N S fu a x y)) X a x j)))), (qy, .inl (cI, 12, .inl (fun j => nI (okN (odR (!decide (fu a = -1) && decide (fu a / 2 = nI p9)) (psuC N S fu a x y)) Y a y j))))]) hP hD [0, 1, 2, 3, 4, 5, 6, 7] [8] rfl rfl (by decide) (by decide) hk1 hFc hP1 hD1
  generalize H1 = H at hP hS ⊢
  have hP : va_P D vwCl [(oq, .inl (cJ, 1, .inr (.inl fo9))), (h0, .inr (5, [.ref hm, .ref hh, .ref he, .ref ha, .ref hp, .int 1])), (hm, .inr (4, [.int (nI n), .int (mI S), .int (mI Ce), .ref qh, .ref qn])), (qn, .inl (cI, 12, .inl (fun j => mI (N j)))), (hh, .inr (3, [.int tn, .ref qu, .ref qo, .ref qx, .ref qy, .ref qr, .ref qw])), (qu, .inl (cI, 12, .inl fu)), (qo, .inl (cI, 12, .inl (fun j => nI (okN (odR (!decide (fu a = -1) && decide (fu a / 2 = nI p9)) (psuC N S fu a x y)) Oo a 2 j)))), (qx, .inl (cI, 12, .inl (fun j => nI (okN (odR (!decide (fu a = -1) && decide (fu a / 2 = nI p9)) (psuC N S fu a x y)) X a x j)))), (qy, .inl (cI, 12, .inl (fun j => nI (okN (odR (!decide (fu a = -1) && decide (fu a / 2 = nI p9)) (psuC N S fu a x y)) Y a y j))))] H := hP
  have hD : va_D A [(oq, .inl (cJ, 1, .inr (.inl fo9))), (h0, .inr (5, [.ref hm, .ref hh, .ref he, .ref ha, .ref hp, .int 1])), (hm, .inr (4, [.int (nI n), .int (mI S), .int (mI Ce), .ref qh, .ref qn])), (qn, .inl (cI, 12, .inl (fun j => mI (N j)))), (hh, .inr (3, [.int tn, .ref qu, .ref qo, .ref qx, .ref qy, .ref qr, .ref qw])), (qu, .inl (cI, 12, .inl fu)), (qo, .inl (cI, 12, .inl (fun j => nI (okN (odR (!decide (fu a = -1) && decide (fu a / 2 = nI p9)) (psuC N S fu a x y)) Oo a 2 j)))), (qx, .inl (cI, 12, .inl (fun j => nI (okN (odR (!decide (fu a = -1) && decide (fu a / 2 = nI p9)) (psuC N S fu a x y)) X a x j)))), (qy, .inl (cI, 12, .inl (fun j => nI (okN (odR (!decide (fu a = -1) && decide (fu a / 2 = nI p9)) (psuC N S fu a x y)) Y a y j))))] := hD
  refine lv_i2l hx hb d_Lw_order_14 rfl ?_
  refine va_last hx hb hK hP hD hS 0 2 rfl rfl (by unfold vp_in; decide) d_Lw_order_15 (fun H locs hP hD hS => ?_)
  have hP : va_P D vwCl [(oq, .inl (cJ, 1, .inr (.inl (vp_updL fo9 (0 : Int32).toNatClampNeg ((nI (odR (!decide (fu a = -1) && decide (fu a / 2 = nI p9)) (psuC N S fu a x y))).toInt64))))), (h0, .inr (5, [.ref hm, .ref hh, .ref he, .ref ha, .ref hp, .int 1])), (hm, .inr (4, [.int (nI n), .int (mI S), .int (mI Ce), .ref qh, .ref qn])), (qn, .inl (cI, 12, .inl (fun j => mI (N j)))), (hh, .inr (3, [.int tn, .ref qu, .ref qo, .ref qx, .ref qy, .ref qr, .ref qw])), (qu, .inl (cI, 12, .inl fu)), (qo, .inl (cI, 12, .inl (fun j => nI (okN (odR (!decide (fu a = -1) && decide (fu a / 2 = nI p9)) (psuC N S fu a x y)) Oo a 2 j)))), (qx, .inl (cI, 12, .inl (fun j => nI (okN (odR (!decide (fu a = -1) && decide (fu a / 2 = nI p9)) (psuC N S fu a x y)) X a x j)))), (qy, .inl (cI, 12, .inl (fun j => nI (okN (odR (!decide (fu a = -1) && decide (fu a / 2 = nI p9)) (psuC N S fu a x y)) Y a y j))))] H := hP
  have hD : va_D A [(oq, .inl (cJ, 1, .inr (.inl (vp_updL fo9 (0 : Int32).toNatClampNeg ((nI (odR (!decide (fu a = -1) && decide (fu a / 2 = nI p9)) (psuC N S fu a x y))).toInt64))))), (h0, .inr (5, [.ref hm, .ref hh, .ref he, .ref ha, .ref hp, .int 1])), (hm, .inr (4, [.int (nI n), .int (mI S), .int (mI Ce), .ref qh, .ref qn])), (qn, .inl (cI, 12, .inl (fun j => mI (N j)))), (hh, .inr (3, [.int tn, .ref qu, .ref qo, .ref qx, .ref qy, .ref qr, .ref qw])), (qu, .inl (cI, 12, .inl fu)), (qo, .inl (cI, 12, .inl (fun j => nI (okN (odR (!decide (fu a = -1) && decide (fu a / 2 = nI p9)) (psuC N S fu a x y)) Oo a 2 j)))), (qx, .inl (cI, 12, .inl (fun j => nI (okN (odR (!decide (fu a = -1) && decide (fu a / 2 = nI p9)) (psuC N S fu a x y)) X a x j)))), (qy, .inl (cI, 12, .inl (fun j => nI (okN (odR (!decide (fu a = -1) && decide (fu a / 2 = nI p9)) (psuC N S fu a x y)) Y a y j))))] := hD
  refine lv_goto (tgt := 27) hx hb d_Lw_order_16 (by decide) ?_
  refine lv_iconst (v := 0) hx hb d_Lw_order_27 (by decide) ?_
  have hP9 := hP.sub (ws' := [(h0, .inr (5, [.ref hm, .ref hh, .ref he, .ref ha, .ref hp, .int 1])), (hm, .inr (4, [.int (nI n), .int (mI S), .int (mI Ce), .ref qh, .ref qn])), (qn, .inl (cI, 12, .inl (fun j => mI (N j)))), (hh, .inr (3, [.int tn, .ref qu, .ref qo, .ref qx, .ref qy, .ref qr, .ref qw])), (qu, .inl (cI, 12, .inl fu)), (qo, .inl (cI, 12, .inl (fun j => nI (okN (odR (!decide (fu a = -1) && decide (fu a / 2 = nI p9)) (psuC N S fu a x y)) Oo a 2 j)))), (qx, .inl (cI, 12, .inl (fun j => nI (okN (odR (!decide (fu a = -1) && decide (fu a / 2 = nI p9)) (psuC N S fu a x y)) X a x j)))), (qy, .inl (cI, 12, .inl (fun j => nI (okN (odR (!decide (fu a = -1) && decide (fu a / 2 = nI p9)) (psuC N S fu a x y)) Y a y j)))), (oq, .inl (cJ, 1, .inr (.inl (vp_updL fo9 (0 : Int32).toNatClampNeg ((nI (odR (!decide (fu a = -1) && decide (fu a / 2 = nI p9)) (psuC N S fu a x y))).toInt64)))))]) [1, 2, 3, 4, 5, 6, 7, 8, 0] rfl
  have hD9 := hD.sub (ws' := [(h0, .inr (5, [.ref hm, .ref hh, .ref he, .ref ha, .ref hp, .int 1])), (hm, .inr (4, [.int (nI n), .int (mI S), .int (mI Ce), .ref qh, .ref qn])), (qn, .inl (cI, 12, .inl (fun j => mI (N j)))), (hh, .inr (3, [.int tn, .ref qu, .ref qo, .ref qx, .ref qy, .ref qr, .ref qw])), (qu, .inl (cI, 12, .inl fu)), (qo, .inl (cI, 12, .inl (fun j => nI (okN (odR (!decide (fu a = -1) && decide (fu a / 2 = nI p9)) (psuC N S fu a x y)) Oo a 2 j)))), (qx, .inl (cI, 12, .inl (fun j => nI (okN (odR (!decide (fu a = -1) && decide (fu a / 2 = nI p9)) (psuC N S fu a x y)) X a x j)))), (qy, .inl (cI, 12, .inl (fun j => nI (okN (odR (!decide (fu a = -1) && decide (fu a / 2 = nI p9)) (psuC N S fu a x y)) Y a y j)))), (oq, .inl (cJ, 1, .inr (.inl (vp_updL fo9 (0 : Int32).toNatClampNeg ((nI (odR (!decide (fu a = -1) && decide (fu a / 2 = nI p9)) (psuC N S fu a x y))).toInt64)))))]) [1, 2, 3, 4, 5, 6, 7, 8, 0] (by decide) rfl
  exact W.iret (v := 0) hx hb hr (fun t ht hW => ⟨⟨0, (), rfl, rfl, by rw [ht]; exact hP9, hD9⟩, hS.F ht⟩) hS.2.2 d_Lw_order_28


set_option maxHeartbeats 4000000 in
set_option maxRecDepth 100000 in
theorem c_Lw_order3 (l : Launch) (D : va_G) (cI cZ cJ cS : ClassId) (aT : Nat) (ceT : Cell) (sz : Nat) (h0 hm hh he ha hp : Nat) (qh qn n : Nat) (S Ce : Nat → Bool) (N : Nat → Nat → Bool) (tn : Int32) (qu qo qx qy qr qw : Nat) (fu : Nat → Int32) (Oo X Y : Nat → Nat) (p9 a x y : Nat) (oq : Nat) (fo9 : Nat → Int64) (hn : n ≤ 12) (h_a : a < n) (h_p : p9 < 4) (h_x : x < n) (h_y : y < n) : Met l y_Lw_order w_Lw_order ({ frames := 6, cells := 0, slots := 0, locals := 138 }) (tH D cI cZ cJ cS aT ceT [.ref h0, .int (nI p9), .int (nI a), .int 3, .int (nI x), .int (nI y), .ref oq] sz [(h0, .inr (5, [.ref hm, .ref hh, .ref he, .ref ha, .ref hp, .int 1])), (hm, .inr (4, [.int (nI n), .int (mI S), .int (mI Ce), .ref qh, .ref qn])), (qn, .inl (cI, 12, .inl (fun j => mI (N j)))), (hh, .inr (3, [.int tn, .ref qu, .ref qo, .ref qx, .ref qy, .ref qr, .ref qw])), (qu, .inl (cI, 12, .inl fu)), (qo, .inl (cI, 12, .inl (fun j => nI (Oo j)))), (qx, .inl (cI, 12, .inl (fun j => nI (X j)))), (qy, .inl (cI, 12, .inl (fun j => nI (Y j)))), (oq, .inl (cJ, 1, .inr (.inl fo9)))]) (va_Qi (fun (r : Int32) (_ : Unit) => r = 0) (fun _ t => tB D (va_A [(h0, .inr (5, [.ref hm, .ref hh, .ref he, .ref ha, .ref hp, .int 1])), (hm, .inr (4, [.int (nI n), .int (mI S), .int (mI Ce), .ref qh, .ref qn])), (qn, .inl (cI, 12, .inl (fun j => mI (N j)))), (hh, .inr (3, [.int tn, .ref qu, .ref qo, .ref qx, .ref qy, .ref qr, .ref qw])), (qu, .inl (cI, 12, .inl fu)), (qo, .inl (cI, 12, .inl (fun j => nI (Oo j)))), (qx, .inl (cI, 12, .inl (fun j => nI (X j)))), (qy, .inl (cI, 12, .inl (fun j => nI (Y j)))), (oq, .inl (cJ, 1, .inr (.inl fo9)))] sz) [(h0, .inr (5, [.ref hm, .ref hh, .ref he, .ref ha, .ref hp, .int 1])), (hm, .inr (4, [.int (nI n), .int (mI S), .int (mI Ce), .ref qh, .ref qn])), (qn, .inl (cI, 12, .inl (fun j => mI (N j)))), (hh, .inr (3, [.int tn, .ref qu, .ref qo, .ref qx, .ref qy, .ref qr, .ref qw])), (qu, .inl (cI, 12, .inl fu)), (qo, .inl (cI, 12, .inl (fun j => nI (okN (odR (!decide (fu a = -1) && decide (fu a / 2 = nI p9)) (pvC S fu a x y)) Oo a 3 j)))), (qx, .inl (cI, 12, .inl (fun j => nI (okN (odR (!decide (fu a = -1) && decide (fu a / 2 = nI p9)) (pvC S fu a x y)) X a x j)))), (qy, .inl (cI, 12, .inl (fun j => nI (okN (odR (!decide (fu a = -1) && decide (fu a / 2 = nI p9)) (pvC S fu a x y)) Y a y j)))), (oq, .inl (cJ, 1, .inr (.inl (vp_updL fo9 (0 : Int32).toNatClampNeg (nI (odR (!decide (fu a = -1) && decide (fu a / 2 = nI p9)) (pvC S fu a x y))).toInt64))))] t) (va_A [(h0, .inr (5, [.ref hm, .ref hh, .ref he, .ref ha, .ref hp, .int 1])), (hm, .inr (4, [.int (nI n), .int (mI S), .int (mI Ce), .ref qh, .ref qn])), (qn, .inl (cI, 12, .inl (fun j => mI (N j)))), (hh, .inr (3, [.int tn, .ref qu, .ref qo, .ref qx, .ref qy, .ref qr, .ref qw])), (qu, .inl (cI, 12, .inl fu)), (qo, .inl (cI, 12, .inl (fun j => nI (Oo j)))), (qx, .inl (cI, 12, .inl (fun j => nI (X j)))), (qy, .inl (cI, 12, .inl (fun j => nI (Y j)))), (oq, .inl (cJ, 1, .inr (.inl fo9)))] sz)) 0 0 (va_A [(h0, .inr (5, [.ref hm, .ref hh, .ref he, .ref ha, .ref hp, .int 1])), (hm, .inr (4, [.int (nI n), .int (mI S), .int (mI Ce), .ref qh, .ref qn])), (qn, .inl (cI, 12, .inl (fun j => mI (N j)))), (hh, .inr (3, [.int tn, .ref qu, .ref qo, .ref qx, .ref qy, .ref qr, .ref qw])), (qu, .inl (cI, 12, .inl fu)), (qo, .inl (cI, 12, .inl (fun j => nI (Oo j)))), (qx, .inl (cI, 12, .inl (fun j => nI (X j)))), (qy, .inl (cI, 12, .inl (fun j => nI (Y j)))), (oq, .inl (cJ, 1, .inr (.inl fo9)))] sz) := by
  refine va_MetW (cc := b_Lw_order) (maxL := 8) (ret := (some .int)) (hh := [(0, 16, 19, 13), (0, 16, 23, 15)]) (by decide) rfl ?_
  intro p e s m args below meth c s₁ B hml hv
  obtain ⟨rfl, hsz, hP, hK, hD0, hX⟩ := hv
  have hx := B.exec
  have hb := B.bytes
  have hr := B.returns
  have hts0 := atoms_spec (ws := w_Lw_order) B.pre
  have hts : ∀ w ∈ TB, w.before _ s = true := fun w h => hts0 w (List.mem_cons_of_mem _ h)
  have hown : s.vm.findClass "SheetWarLaw" = some m.cls := findClass_of_methodNamed B.named
  have hlocks := B.notSynchronized
  have hTab := tx_tab B (hts0 _ (List.mem_cons_self ..))
  subst hsz
  have hXl := tx_lt hX
  have hXn := tx_far hP hX
  have hD := hD0.self (sz := s.heap.size)
  generalize hAe : va_A [(h0, .inr (5, [.ref hm, .ref hh, .ref he, .ref ha, .ref hp, .int 1])), (hm, .inr (4, [.int (nI n), .int (mI S), .int (mI Ce), .ref qh, .ref qn])), (qn, .inl (cI, 12, .inl (fun j => mI (N j)))), (hh, .inr (3, [.int tn, .ref qu, .ref qo, .ref qx, .ref qy, .ref qr, .ref qw])), (qu, .inl (cI, 12, .inl fu)), (qo, .inl (cI, 12, .inl (fun j => nI (Oo j)))), (qx, .inl (cI, 12, .inl (fun j => nI (X j)))), (qy, .inl (cI, 12, .inl (fun j => nI (Y j)))), (oq, .inl (cJ, 1, .inr (.inl fo9)))] s.heap.size = A at hD hXn ⊢
  have hA : ∀ q : Nat, s.heap.size ≤ q → A q := fun q h => by rw [← hAe]; exact Or.inr h
  have hS : va_S A s.heap s.heap [] := va_S.rf
  have hXH : s.heap[aT]? = s.heap[aT]? := rfl
  have hl := lv_entry ([.ref h0, .int (nI p9), .int (nI a), .int 3, .int (nI x), .int (nI y), .ref oq]) (n := 8) (Nat.le_of_ble_eq_true rfl)
  rw [lg_entry_eq]
  generalize (lg_sl ([.ref h0, .int (nI p9), .int (nI a), .int 3, .int (nI x), .int (nI y), .ref oq]) ++ List.replicate (8 - (lg_sl ([.ref h0, .int (nI p9), .int (nI a), .int 3, .int (nI x), .int (nI y), .ref oq])).length) Slot.unset).toArray = ls at hl ⊢
  have hl : lv_has ls 8 [(0, .ref h0), (1, .int (nI p9)), (2, .int (nI a)), (3, .int 3), (4, .int (nI x)), (5, .int (nI y)), (6, .ref oq)] := hl
  refine lv_aload hx hb d_Lw_order_0 (lv_at hl 6 rfl) ?_
  refine lv_iconst (v := 0) hx hb d_Lw_order_2 (by decide) ?_
  refine lv_aload_n hx hb d_Lw_order_3 rfl (lv_at hl 0 rfl) ?_
  refine lv_iload_n hx hb d_Lw_order_4 rfl (lv_at hl 1 rfl) ?_
  refine lv_iload_n hx hb d_Lw_order_5 rfl (lv_at hl 2 rfl) ?_
  refine lv_iload_n hx hb d_Lw_order_6 rfl (lv_at hl 3 rfl) ?_
  refine lv_iload hx hb d_Lw_order_7 (lv_at hl 4 rfl) ?_
  refine lv_iload hx hb d_Lw_order_9 (lv_at hl 5 rfl) ?_
  have hPc := hP.sub (ws' := [(h0, .inr (5, [.ref hm, .ref hh, .ref he, .ref ha, .ref hp, .int 1])), (hm, .inr (4, [.int (nI n), .int (mI S), .int (mI Ce), .ref qh, .ref qn])), (qn, .inl (cI, 12, .inl (fun j => mI (N j)))), (hh, .inr (3, [.int tn, .ref qu, .ref qo, .ref qx, .ref qy, .ref qr, .ref qw])), (qu, .inl (cI, 12, .inl fu)), (qo, .inl (cI, 12, .inl (fun j => nI (Oo j)))), (qx, .inl (cI, 12, .inl (fun j => nI (X j)))), (qy, .inl (cI, 12, .inl (fun j => nI (Y j))))]) [0, 1, 2, 3, 4, 5, 6, 7] rfl
  have hDc := hD.sub (ws' := [(h0, .inr (5, [.ref hm, .ref hh, .ref he, .ref ha, .ref hp, .int 1])), (hm, .inr (4, [.int (nI n), .int (mI S), .int (mI Ce), .ref qh, .ref qn])), (qn, .inl (cI, 12, .inl (fun j => mI (N j)))), (hh, .inr (3, [.int tn, .ref qu, .ref qo, .ref qx, .ref qy, .ref qr, .ref qw])), (qu, .inl (cI, 12, .inl fu)), (qo, .inl (cI, 12, .inl (fun j => nI (Oo j)))), (qx, .inl (cI, 12, .inl (fun j => nI (X j)))), (qy, .inl (cI, 12, .inl (fun j => nI (Y j))))]) [0, 1, 2, 3, 4, 5, 6, 7] (by decide) rfl
  have hFc := va_free (wc := [(h0, .inr (5, [.ref hm, .ref hh, .ref he, .ref ha, .ref hp, .int 1])), (hm, .inr (4, [.int (nI n), .int (mI S), .int (mI Ce), .ref qh, .ref qn])), (qn, .inl (cI, 12, .inl (fun j => mI (N j)))), (hh, .inr (3, [.int tn, .ref qu, .ref qo, .ref qx, .ref qy, .ref qr, .ref qw])), (qu, .inl (cI, 12, .inl fu)), (qo, .inl (cI, 12, .inl (fun j => nI (Oo j)))), (qx, .inl (cI, 12, .inl (fun j => nI (X j)))), (qy, .inl (cI, 12, .inl (fun j => nI (Y j))))]) hD hS hA [0, 1, 2, 3, 4, 5, 6, 7] rfl
  refine va_calli (va_runV (As := [.int (nI p9), .int (nI a), .int 3, .int (nI x), .int (nI y)]) (rest := [.int 0, .ref oq]) ⟨hx, hb, hml, hown, hts⟩ (c_Sw_order3 l D cI cZ cJ cS aT ceT s.heap.size h0 hm hh he ha hp qh qn n S Ce N tn qu qo qx qy qr qw fu Oo X Y p9 a x y hn h_a h_p h_x h_y) (cwV 5 hts (tb_4 wd_455 wd_456 wd_457 wd_1 (tb_c wd_458)) rfl rfl rfl ⟨rfl, by decide, by decide, by decide +kernel⟩ ⟨Nat.le_of_ble_eq_true rfl, Nat.le_of_ble_eq_true rfl⟩) (tH_V hK hX (hS.2.1 aT hXl hXn) hPc hDc (q := 0) rfl rfl) rfl rfl hl.1 rfl (lv_room (Nat.le_of_ble_eq_true rfl)) d_Lw_order_11 ⟨Nat.le_of_ble_eq_true rfl, Nat.le_of_ble_eq_true rfl⟩) hS (fun q _ h => hFc q h) hFc (fun r9 u t H1 locs ht hvm h9 hB hz1 hk1 hS => ?_)
  rw [h9]
  obtain ⟨hP1, hD1⟩ := hB
  rw [ht] at hP1
  obtain ⟨hP, hD⟩ := va_join (wr := [(oq, .inl (cJ, 1, .inr (.inl fo9)))]) (w1 := [(h0, .inr (5, [.ref hm, .ref hh, .ref he, .ref ha, .ref hp, .int 1])), (hm, .inr (4, [.int (nI n), .int (mI S), .int (mI Ce), .ref qh, .ref qn])), (qn, .inl (cI, 12, .inl (fun j => mI (N j)))), (hh, .inr (3, [.int tn, .ref qu, .ref qo, .ref qx, .ref qy, .ref qr, .ref qw])), (qu, .inl (cI, 12, .inl fu)), (qo, .inl (cI, 12, .inl (fun j => nI (okN (odR (!decide (fu a = -1) && decide (fu a / 2 = nI p9)) (pvC S fu a x y)) Oo a 3 j)))), (qx, .inl (cI, 12, .inl (fun j => nI (okN (odR (!decide (fu a = -1) && decide (fu a / 2 = nI p9)) (pvC S fu a x y)) X a x j)))), (qy, .inl (cI, 12, .inl (fun j => nI (okN (odR (!decide (fu a = -1) && decide (fu a / 2 = nI p9)) (pvC S fu a x y)) Y a y j))))]) hP hD [0, 1, 2, 3, 4, 5, 6, 7] [8] rfl rfl (by decide) (by decide) hk1 hFc hP1 hD1
  generalize H1 = H at hP hS ⊢
  have hP : va_P D vwCl [(oq, .inl (cJ, 1, .inr (.inl fo9))), (h0, .inr (5, [.ref hm, .ref hh, .ref he, .ref ha, .ref hp, .int 1])), (hm, .inr (4, [.int (nI n), .int (mI S), .int (mI Ce), .ref qh, .ref qn])), (qn, .inl (cI, 12, .inl (fun j => mI (N j)))), (hh, .inr (3, [.int tn, .ref qu, .ref qo, .ref qx, .ref qy, .ref qr, .ref qw])), (qu, .inl (cI, 12, .inl fu)), (qo, .inl (cI, 12, .inl (fun j => nI (okN (odR (!decide (fu a = -1) && decide (fu a / 2 = nI p9)) (pvC S fu a x y)) Oo a 3 j)))), (qx, .inl (cI, 12, .inl (fun j => nI (okN (odR (!decide (fu a = -1) && decide (fu a / 2 = nI p9)) (pvC S fu a x y)) X a x j)))), (qy, .inl (cI, 12, .inl (fun j => nI (okN (odR (!decide (fu a = -1) && decide (fu a / 2 = nI p9)) (pvC S fu a x y)) Y a y j))))] H := hP
  have hD : va_D A [(oq, .inl (cJ, 1, .inr (.inl fo9))), (h0, .inr (5, [.ref hm, .ref hh, .ref he, .ref ha, .ref hp, .int 1])), (hm, .inr (4, [.int (nI n), .int (mI S), .int (mI Ce), .ref qh, .ref qn])), (qn, .inl (cI, 12, .inl (fun j => mI (N j)))), (hh, .inr (3, [.int tn, .ref qu, .ref qo, .ref qx, .ref qy, .ref qr, .ref qw])), (qu, .inl (cI, 12, .inl fu)), (qo, .inl (cI, 12, .inl (fun j => nI (okN (odR (!decide (fu a = -1) && decide (fu a / 2 = nI p9)) (pvC S fu a x y)) Oo a 3 j)))), (qx, .inl (cI, 12, .inl (fun j => nI (okN (odR (!decide (fu a = -1) && decide (fu a / 2 = nI p9)) (pvC S fu a x y)) X a x j)))), (qy, .inl (cI, 12, .inl (fun j => nI (okN (odR (!decide (fu a = -1) && decide (fu a / 2 = nI p9)) (pvC S fu a x y)) Y a y j))))] := hD
  refine lv_i2l hx hb d_Lw_order_14 rfl ?_
  refine va_last hx hb hK hP hD hS 0 2 rfl rfl (by unfold vp_in; decide) d_Lw_order_15 (fun H locs hP hD hS => ?_)
  have hP : va_P D vwCl [(oq, .inl (cJ, 1, .inr (.inl (vp_updL fo9 (0 : Int32).toNatClampNeg ((nI (odR (!decide (fu a = -1) && decide (fu a / 2 = nI p9)) (pvC S fu a x y))).toInt64))))), (h0, .inr (5, [.ref hm, .ref hh, .ref he, .ref ha, .ref hp, .int 1])), (hm, .inr (4, [.int (nI n), .int (mI S), .int (mI Ce), .ref qh, .ref qn])), (qn, .inl (cI, 12, .inl (fun j => mI (N j)))), (hh, .inr (3, [.int tn, .ref qu, .ref qo, .ref qx, .ref qy, .ref qr, .ref qw])), (qu, .inl (cI, 12, .inl fu)), (qo, .inl (cI, 12, .inl (fun j => nI (okN (odR (!decide (fu a = -1) && decide (fu a / 2 = nI p9)) (pvC S fu a x y)) Oo a 3 j)))), (qx, .inl (cI, 12, .inl (fun j => nI (okN (odR (!decide (fu a = -1) && decide (fu a / 2 = nI p9)) (pvC S fu a x y)) X a x j)))), (qy, .inl (cI, 12, .inl (fun j => nI (okN (odR (!decide (fu a = -1) && decide (fu a / 2 = nI p9)) (pvC S fu a x y)) Y a y j))))] H := hP
  have hD : va_D A [(oq, .inl (cJ, 1, .inr (.inl (vp_updL fo9 (0 : Int32).toNatClampNeg ((nI (odR (!decide (fu a = -1) && decide (fu a / 2 = nI p9)) (pvC S fu a x y))).toInt64))))), (h0, .inr (5, [.ref hm, .ref hh, .ref he, .ref ha, .ref hp, .int 1])), (hm, .inr (4, [.int (nI n), .int (mI S), .int (mI Ce), .ref qh, .ref qn])), (qn, .inl (cI, 12, .inl (fun j => mI (N j)))), (hh, .inr (3, [.int tn, .ref qu, .ref qo, .ref qx, .ref qy, .ref qr, .ref qw])), (qu, .inl (cI, 12, .inl fu)), (qo, .inl (cI, 12, .inl (fun j => nI (okN (odR (!decide (fu a = -1) && decide (fu a / 2 = nI p9)) (pvC S fu a x y)) Oo a 3 j)))), (qx, .inl (cI, 12, .inl (fun j => nI (okN (odR (!decide (fu a = -1) && decide (fu a / 2 = nI p9)) (pvC S fu a x y)) X a x j)))), (qy, .inl (cI, 12, .inl (fun j => nI (okN (odR (!decide (fu a = -1) && decide (fu a / 2 = nI p9)) (pvC S fu a x y)) Y a y j))))] := hD
  refine lv_goto (tgt := 27) hx hb d_Lw_order_16 (by decide) ?_
  refine lv_iconst (v := 0) hx hb d_Lw_order_27 (by decide) ?_
  have hP9 := hP.sub (ws' := [(h0, .inr (5, [.ref hm, .ref hh, .ref he, .ref ha, .ref hp, .int 1])), (hm, .inr (4, [.int (nI n), .int (mI S), .int (mI Ce), .ref qh, .ref qn])), (qn, .inl (cI, 12, .inl (fun j => mI (N j)))), (hh, .inr (3, [.int tn, .ref qu, .ref qo, .ref qx, .ref qy, .ref qr, .ref qw])), (qu, .inl (cI, 12, .inl fu)), (qo, .inl (cI, 12, .inl (fun j => nI (okN (odR (!decide (fu a = -1) && decide (fu a / 2 = nI p9)) (pvC S fu a x y)) Oo a 3 j)))), (qx, .inl (cI, 12, .inl (fun j => nI (okN (odR (!decide (fu a = -1) && decide (fu a / 2 = nI p9)) (pvC S fu a x y)) X a x j)))), (qy, .inl (cI, 12, .inl (fun j => nI (okN (odR (!decide (fu a = -1) && decide (fu a / 2 = nI p9)) (pvC S fu a x y)) Y a y j)))), (oq, .inl (cJ, 1, .inr (.inl (vp_updL fo9 (0 : Int32).toNatClampNeg ((nI (odR (!decide (fu a = -1) && decide (fu a / 2 = nI p9)) (pvC S fu a x y))).toInt64)))))]) [1, 2, 3, 4, 5, 6, 7, 8, 0] rfl
  have hD9 := hD.sub (ws' := [(h0, .inr (5, [.ref hm, .ref hh, .ref he, .ref ha, .ref hp, .int 1])), (hm, .inr (4, [.int (nI n), .int (mI S), .int (mI Ce), .ref qh, .ref qn])), (qn, .inl (cI, 12, .inl (fun j => mI (N j)))), (hh, .inr (3, [.int tn, .ref qu, .ref qo, .ref qx, .ref qy, .ref qr, .ref qw])), (qu, .inl (cI, 12, .inl fu)), (qo, .inl (cI, 12, .inl (fun j => nI (okN (odR (!decide (fu a = -1) && decide (fu a / 2 = nI p9)) (pvC S fu a x y)) Oo a 3 j)))), (qx, .inl (cI, 12, .inl (fun j => nI (okN (odR (!decide (fu a = -1) && decide (fu a / 2 = nI p9)) (pvC S fu a x y)) X a x j)))), (qy, .inl (cI, 12, .inl (fun j => nI (okN (odR (!decide (fu a = -1) && decide (fu a / 2 = nI p9)) (pvC S fu a x y)) Y a y j)))), (oq, .inl (cJ, 1, .inr (.inl (vp_updL fo9 (0 : Int32).toNatClampNeg ((nI (odR (!decide (fu a = -1) && decide (fu a / 2 = nI p9)) (pvC S fu a x y))).toInt64)))))]) [1, 2, 3, 4, 5, 6, 7, 8, 0] (by decide) rfl
  exact W.iret (v := 0) hx hb hr (fun t ht hW => ⟨⟨0, (), rfl, rfl, by rw [ht]; exact hP9, hD9⟩, hS.F ht⟩) hS.2.2 d_Lw_order_28


set_option maxHeartbeats 4000000 in
set_option maxRecDepth 100000 in
theorem c_Lw_retreat (l : Launch) (D : va_G) (cI cZ cJ cS : ClassId) (aT : Nat) (ceT : Cell) (sz : Nat) (h0 hm hh he ha hp : Nat) (qh qn n : Nat) (S Ce : Nat → Bool) (N : Nat → Nat → Bool) (tn : Int32) (qu qo qx qy qr qw : Nat) (fu : Nat → Int32) (au ao ag : Nat) (Co : Nat → Bool) (ga go gg : Nat → Int32) (p9 a b : Nat) (oq : Nat) (fo9 : Nat → Int64) (hn : n ≤ 12) (h_a : a < n) (h_b : b < n) (h_p : p9 < 4) : Met l y_Lw_retreat w_Lw_retreat ({ frames := 5, cells := 0, slots := 0, locals := 111 }) (tH D cI cZ cJ cS aT ceT [.ref h0, .int (nI p9), .int (nI a), .int (nI b), .ref oq] sz [(h0, .inr (5, [.ref hm, .ref hh, .ref he, .ref ha, .ref hp, .int 2])), (hm, .inr (4, [.int (nI n), .int (mI S), .int (mI Ce), .ref qh, .ref qn])), (qn, .inl (cI, 12, .inl (fun j => mI (N j)))), (hh, .inr (3, [.int tn, .ref qu, .ref qo, .ref qx, .ref qy, .ref qr, .ref qw])), (qu, .inl (cI, 12, .inl fu)), (ha, .inr (0, [.ref au, .ref ao, .ref ag, .int (mI Co)])), (au, .inl (cI, 12, .inl ga)), (ao, .inl (cI, 12, .inl go)), (ag, .inl (cI, 12, .inl gg)), (oq, .inl (cJ, 1, .inr (.inl fo9)))]) (va_Qi (fun (r : Int32) (_ : Unit) => r = 0) (fun _ t => tB D (va_A [(h0, .inr (5, [.ref hm, .ref hh, .ref he, .ref ha, .ref hp, .int 2])), (hm, .inr (4, [.int (nI n), .int (mI S), .int (mI Ce), .ref qh, .ref qn])), (qn, .inl (cI, 12, .inl (fun j => mI (N j)))), (hh, .inr (3, [.int tn, .ref qu, .ref qo, .ref qx, .ref qy, .ref qr, .ref qw])), (qu, .inl (cI, 12, .inl fu)), (ha, .inr (0, [.ref au, .ref ao, .ref ag, .int (mI Co)])), (au, .inl (cI, 12, .inl ga)), (ao, .inl (cI, 12, .inl go)), (ag, .inl (cI, 12, .inl gg)), (oq, .inl (cJ, 1, .inr (.inl fo9)))] sz) [(h0, .inr (5, [.ref hm, .ref hh, .ref he, .ref ha, .ref hp, .int 2])), (hm, .inr (4, [.int (nI n), .int (mI S), .int (mI Ce), .ref qh, .ref qn])), (qn, .inl (cI, 12, .inl (fun j => mI (N j)))), (hh, .inr (3, [.int tn, .ref qu, .ref qo, .ref qx, .ref qy, .ref qr, .ref qw])), (qu, .inl (cI, 12, .inl fu)), (ha, .inr (0, [.ref au, .ref ao, .ref ag, .int (mI Co)])), (au, .inl (cI, 12, .inl ga)), (ao, .inl (cI, 12, .inl go)), (ag, .inl (cI, 12, .inl (pkU (odR (!decide (ga a = -1) && decide (ga a / 2 = nI p9)) (rfC N S Co fu ga go a b)) gg a (nI b)))), (oq, .inl (cJ, 1, .inr (.inl (vp_updL fo9 (0 : Int32).toNatClampNeg (nI (odR (!decide (ga a = -1) && decide (ga a / 2 = nI p9)) (rfC N S Co fu ga go a b))).toInt64))))] t) (va_A [(h0, .inr (5, [.ref hm, .ref hh, .ref he, .ref ha, .ref hp, .int 2])), (hm, .inr (4, [.int (nI n), .int (mI S), .int (mI Ce), .ref qh, .ref qn])), (qn, .inl (cI, 12, .inl (fun j => mI (N j)))), (hh, .inr (3, [.int tn, .ref qu, .ref qo, .ref qx, .ref qy, .ref qr, .ref qw])), (qu, .inl (cI, 12, .inl fu)), (ha, .inr (0, [.ref au, .ref ao, .ref ag, .int (mI Co)])), (au, .inl (cI, 12, .inl ga)), (ao, .inl (cI, 12, .inl go)), (ag, .inl (cI, 12, .inl gg)), (oq, .inl (cJ, 1, .inr (.inl fo9)))] sz)) 0 0 (va_A [(h0, .inr (5, [.ref hm, .ref hh, .ref he, .ref ha, .ref hp, .int 2])), (hm, .inr (4, [.int (nI n), .int (mI S), .int (mI Ce), .ref qh, .ref qn])), (qn, .inl (cI, 12, .inl (fun j => mI (N j)))), (hh, .inr (3, [.int tn, .ref qu, .ref qo, .ref qx, .ref qy, .ref qr, .ref qw])), (qu, .inl (cI, 12, .inl fu)), (ha, .inr (0, [.ref au, .ref ao, .ref ag, .int (mI Co)])), (au, .inl (cI, 12, .inl ga)), (ao, .inl (cI, 12, .inl go)), (ag, .inl (cI, 12, .inl gg)), (oq, .inl (cJ, 1, .inr (.inl fo9)))] sz) := by
  refine va_MetW (cc := b_Lw_retreat) (maxL := 6) (ret := (some .int)) (hh := [(0, 12, 15, 13), (0, 12, 19, 15)]) (by decide) rfl ?_
  intro p e s m args below meth c s₁ B hml hv
  obtain ⟨rfl, hsz, hP, hK, hD0, hX⟩ := hv
  have hx := B.exec
  have hb := B.bytes
  have hr := B.returns
  have hts0 := atoms_spec (ws := w_Lw_retreat) B.pre
  have hts : ∀ w ∈ TB, w.before _ s = true := fun w h => hts0 w (List.mem_cons_of_mem _ h)
  have hown : s.vm.findClass "SheetWarLaw" = some m.cls := findClass_of_methodNamed B.named
  have hlocks := B.notSynchronized
  have hTab := tx_tab B (hts0 _ (List.mem_cons_self ..))
  subst hsz
  have hXl := tx_lt hX
  have hXn := tx_far hP hX
  have hD := hD0.self (sz := s.heap.size)
  generalize hAe : va_A [(h0, .inr (5, [.ref hm, .ref hh, .ref he, .ref ha, .ref hp, .int 2])), (hm, .inr (4, [.int (nI n), .int (mI S), .int (mI Ce), .ref qh, .ref qn])), (qn, .inl (cI, 12, .inl (fun j => mI (N j)))), (hh, .inr (3, [.int tn, .ref qu, .ref qo, .ref qx, .ref qy, .ref qr, .ref qw])), (qu, .inl (cI, 12, .inl fu)), (ha, .inr (0, [.ref au, .ref ao, .ref ag, .int (mI Co)])), (au, .inl (cI, 12, .inl ga)), (ao, .inl (cI, 12, .inl go)), (ag, .inl (cI, 12, .inl gg)), (oq, .inl (cJ, 1, .inr (.inl fo9)))] s.heap.size = A at hD hXn ⊢
  have hA : ∀ q : Nat, s.heap.size ≤ q → A q := fun q h => by rw [← hAe]; exact Or.inr h
  have hS : va_S A s.heap s.heap [] := va_S.rf
  have hXH : s.heap[aT]? = s.heap[aT]? := rfl
  have hl := lv_entry ([.ref h0, .int (nI p9), .int (nI a), .int (nI b), .ref oq]) (n := 6) (Nat.le_of_ble_eq_true rfl)
  rw [lg_entry_eq]
  generalize (lg_sl ([.ref h0, .int (nI p9), .int (nI a), .int (nI b), .ref oq]) ++ List.replicate (6 - (lg_sl ([.ref h0, .int (nI p9), .int (nI a), .int (nI b), .ref oq])).length) Slot.unset).toArray = ls at hl ⊢
  have hl : lv_has ls 6 [(0, .ref h0), (1, .int (nI p9)), (2, .int (nI a)), (3, .int (nI b)), (4, .ref oq)] := hl
  refine lv_aload hx hb d_Lw_retreat_0 (lv_at hl 4 rfl) ?_
  refine lv_iconst (v := 0) hx hb d_Lw_retreat_2 (by decide) ?_
  refine lv_aload_n hx hb d_Lw_retreat_3 rfl (lv_at hl 0 rfl) ?_
  refine lv_iload_n hx hb d_Lw_retreat_4 rfl (lv_at hl 1 rfl) ?_
  refine lv_iload_n hx hb d_Lw_retreat_5 rfl (lv_at hl 2 rfl) ?_
  refine lv_iload_n hx hb d_Lw_retreat_6 rfl (lv_at hl 3 rfl) ?_
  have hPc := hP.sub (ws' := [(h0, .inr (5, [.ref hm, .ref hh, .ref he, .ref ha, .ref hp, .int 2])), (hm, .inr (4, [.int (nI n), .int (mI S), .int (mI Ce), .ref qh, .ref qn])), (qn, .inl (cI, 12, .inl (fun j => mI (N j)))), (hh, .inr (3, [.int tn, .ref qu, .ref qo, .ref qx, .ref qy, .ref qr, .ref qw])), (qu, .inl (cI, 12, .inl fu)), (ha, .inr (0, [.ref au, .ref ao, .ref ag, .int (mI Co)])), (au, .inl (cI, 12, .inl ga)), (ao, .inl (cI, 12, .inl go)), (ag, .inl (cI, 12, .inl gg))]) [0, 1, 2, 3, 4, 5, 6, 7, 8] rfl
  have hDc := hD.sub (ws' := [(h0, .inr (5, [.ref hm, .ref hh, .ref he, .ref ha, .ref hp, .int 2])), (hm, .inr (4, [.int (nI n), .int (mI S), .int (mI Ce), .ref qh, .ref qn])), (qn, .inl (cI, 12, .inl (fun j => mI (N j)))), (hh, .inr (3, [.int tn, .ref qu, .ref qo, .ref qx, .ref qy, .ref qr, .ref qw])), (qu, .inl (cI, 12, .inl fu)), (ha, .inr (0, [.ref au, .ref ao, .ref ag, .int (mI Co)])), (au, .inl (cI, 12, .inl ga)), (ao, .inl (cI, 12, .inl go)), (ag, .inl (cI, 12, .inl gg))]) [0, 1, 2, 3, 4, 5, 6, 7, 8] (by decide) rfl
  have hFc := va_free (wc := [(h0, .inr (5, [.ref hm, .ref hh, .ref he, .ref ha, .ref hp, .int 2])), (hm, .inr (4, [.int (nI n), .int (mI S), .int (mI Ce), .ref qh, .ref qn])), (qn, .inl (cI, 12, .inl (fun j => mI (N j)))), (hh, .inr (3, [.int tn, .ref qu, .ref qo, .ref qx, .ref qy, .ref qr, .ref qw])), (qu, .inl (cI, 12, .inl fu)), (ha, .inr (0, [.ref au, .ref ao, .ref ag, .int (mI Co)])), (au, .inl (cI, 12, .inl ga)), (ao, .inl (cI, 12, .inl go)), (ag, .inl (cI, 12, .inl gg))]) hD hS hA [0, 1, 2, 3, 4, 5, 6, 7, 8] rfl
  refine va_calli (va_runV (As := [.int (nI p9), .int (nI a), .int (nI b)]) (rest := [.int 0, .ref oq]) ⟨hx, hb, hml, hown, hts⟩ (c_Sw_retreat l D cI cZ cJ cS aT ceT s.heap.size h0 hm hh he ha hp qh qn n S Ce N tn qu qo qx qy qr qw fu au ao ag Co ga go gg p9 a b hn h_a h_b h_p) (cwV 3 hts (tb_4 wd_659 wd_660 wd_661 wd_1 (tb_c wd_662)) rfl rfl rfl ⟨rfl, by decide, by decide, by decide +kernel⟩ ⟨Nat.le_of_ble_eq_true rfl, Nat.le_of_ble_eq_true rfl⟩) (tH_V hK hX (hS.2.1 aT hXl hXn) hPc hDc (q := 0) rfl rfl) rfl rfl hl.1 rfl (lv_room (Nat.le_of_ble_eq_true rfl)) d_Lw_retreat_7 ⟨Nat.le_of_ble_eq_true rfl, Nat.le_of_ble_eq_true rfl⟩) hS (fun q _ h => hFc q h) hFc (fun r9 u t H1 locs ht hvm h9 hB hz1 hk1 hS => ?_)
  rw [h9]
  obtain ⟨hP1, hD1⟩ := hB
  rw [ht] at hP1
  obtain ⟨hP, hD⟩ := va_join (wr := [(oq, .inl (cJ, 1, .inr (.inl fo9)))]) (w1 := [(h0, .inr (5, [.ref hm, .ref hh, .ref he, .ref ha, .ref hp, .int 2])), (hm, .inr (4, [.int (nI n), .int (mI S), .int (mI Ce), .ref qh, .ref qn])), (qn, .inl (cI, 12, .inl (fun j => mI (N j)))), (hh, .inr (3, [.int tn, .ref qu, .ref qo, .ref qx, .ref qy, .ref qr, .ref qw])), (qu, .inl (cI, 12, .inl fu)), (ha, .inr (0, [.ref au, .ref ao, .ref ag, .int (mI Co)])), (au, .inl (cI, 12, .inl ga)), (ao, .inl (cI, 12, .inl go)), (ag, .inl (cI, 12, .inl (pkU (odR (!decide (ga a = -1) && decide (ga a / 2 = nI p9)) (rfC N S Co fu ga go a b)) gg a (nI b))))]) hP hD [0, 1, 2, 3, 4, 5, 6, 7, 8] [9] rfl rfl (by decide) (by decide) hk1 hFc hP1 hD1
  generalize H1 = H at hP hS ⊢
  have hP : va_P D vwCl [(oq, .inl (cJ, 1, .inr (.inl fo9))), (h0, .inr (5, [.ref hm, .ref hh, .ref he, .ref ha, .ref hp, .int 2])), (hm, .inr (4, [.int (nI n), .int (mI S), .int (mI Ce), .ref qh, .ref qn])), (qn, .inl (cI, 12, .inl (fun j => mI (N j)))), (hh, .inr (3, [.int tn, .ref qu, .ref qo, .ref qx, .ref qy, .ref qr, .ref qw])), (qu, .inl (cI, 12, .inl fu)), (ha, .inr (0, [.ref au, .ref ao, .ref ag, .int (mI Co)])), (au, .inl (cI, 12, .inl ga)), (ao, .inl (cI, 12, .inl go)), (ag, .inl (cI, 12, .inl (pkU (odR (!decide (ga a = -1) && decide (ga a / 2 = nI p9)) (rfC N S Co fu ga go a b)) gg a (nI b))))] H := hP
  have hD : va_D A [(oq, .inl (cJ, 1, .inr (.inl fo9))), (h0, .inr (5, [.ref hm, .ref hh, .ref he, .ref ha, .ref hp, .int 2])), (hm, .inr (4, [.int (nI n), .int (mI S), .int (mI Ce), .ref qh, .ref qn])), (qn, .inl (cI, 12, .inl (fun j => mI (N j)))), (hh, .inr (3, [.int tn, .ref qu, .ref qo, .ref qx, .ref qy, .ref qr, .ref qw])), (qu, .inl (cI, 12, .inl fu)), (ha, .inr (0, [.ref au, .ref ao, .ref ag, .int (mI Co)])), (au, .inl (cI, 12, .inl ga)), (ao, .inl (cI, 12, .inl go)), (ag, .inl (cI, 12, .inl (pkU (odR (!decide (ga a = -1) && decide (ga a / 2 = nI p9)) (rfC N S Co fu ga go a b)) gg a (nI b))))] := hD
  refine lv_i2l hx hb d_Lw_retreat_10 rfl ?_
  refine va_last hx hb hK hP hD hS 0 2 rfl rfl (by unfold vp_in; decide) d_Lw_retreat_11 (fun H locs hP hD hS => ?_)
  have hP : va_P D vwCl [(oq, .inl (cJ, 1, .inr (.inl (vp_updL fo9 (0 : Int32).toNatClampNeg ((nI (odR (!decide (ga a = -1) && decide (ga a / 2 = nI p9)) (rfC N S Co fu ga go a b))).toInt64))))), (h0, .inr (5, [.ref hm, .ref hh, .ref he, .ref ha, .ref hp, .int 2])), (hm, .inr (4, [.int (nI n), .int (mI S), .int (mI Ce), .ref qh, .ref qn])), (qn, .inl (cI, 12, .inl (fun j => mI (N j)))), (hh, .inr (3, [.int tn, .ref qu, .ref qo, .ref qx, .ref qy, .ref qr, .ref qw])), (qu, .inl (cI, 12, .inl fu)), (ha, .inr (0, [.ref au, .ref ao, .ref ag, .int (mI Co)])), (au, .inl (cI, 12, .inl ga)), (ao, .inl (cI, 12, .inl go)), (ag, .inl (cI, 12, .inl (pkU (odR (!decide (ga a = -1) && decide (ga a / 2 = nI p9)) (rfC N S Co fu ga go a b)) gg a (nI b))))] H := hP
  have hD : va_D A [(oq, .inl (cJ, 1, .inr (.inl (vp_updL fo9 (0 : Int32).toNatClampNeg ((nI (odR (!decide (ga a = -1) && decide (ga a / 2 = nI p9)) (rfC N S Co fu ga go a b))).toInt64))))), (h0, .inr (5, [.ref hm, .ref hh, .ref he, .ref ha, .ref hp, .int 2])), (hm, .inr (4, [.int (nI n), .int (mI S), .int (mI Ce), .ref qh, .ref qn])), (qn, .inl (cI, 12, .inl (fun j => mI (N j)))), (hh, .inr (3, [.int tn, .ref qu, .ref qo, .ref qx, .ref qy, .ref qr, .ref qw])), (qu, .inl (cI, 12, .inl fu)), (ha, .inr (0, [.ref au, .ref ao, .ref ag, .int (mI Co)])), (au, .inl (cI, 12, .inl ga)), (ao, .inl (cI, 12, .inl go)), (ag, .inl (cI, 12, .inl (pkU (odR (!decide (ga a = -1) && decide (ga a / 2 = nI p9)) (rfC N S Co fu ga go a b)) gg a (nI b))))] := hD
  refine lv_goto (tgt := 23) hx hb d_Lw_retreat_12 (by decide) ?_
  refine lv_iconst (v := 0) hx hb d_Lw_retreat_23 (by decide) ?_
  have hP9 := hP.sub (ws' := [(h0, .inr (5, [.ref hm, .ref hh, .ref he, .ref ha, .ref hp, .int 2])), (hm, .inr (4, [.int (nI n), .int (mI S), .int (mI Ce), .ref qh, .ref qn])), (qn, .inl (cI, 12, .inl (fun j => mI (N j)))), (hh, .inr (3, [.int tn, .ref qu, .ref qo, .ref qx, .ref qy, .ref qr, .ref qw])), (qu, .inl (cI, 12, .inl fu)), (ha, .inr (0, [.ref au, .ref ao, .ref ag, .int (mI Co)])), (au, .inl (cI, 12, .inl ga)), (ao, .inl (cI, 12, .inl go)), (ag, .inl (cI, 12, .inl (pkU (odR (!decide (ga a = -1) && decide (ga a / 2 = nI p9)) (rfC N S Co fu ga go a b)) gg a (nI b)))), (oq, .inl (cJ, 1, .inr (.inl (vp_updL fo9 (0 : Int32).toNatClampNeg ((nI (odR (!decide (ga a = -1) && decide (ga a / 2 = nI p9)) (rfC N S Co fu ga go a b))).toInt64)))))]) [1, 2, 3, 4, 5, 6, 7, 8, 9, 0] rfl
  have hD9 := hD.sub (ws' := [(h0, .inr (5, [.ref hm, .ref hh, .ref he, .ref ha, .ref hp, .int 2])), (hm, .inr (4, [.int (nI n), .int (mI S), .int (mI Ce), .ref qh, .ref qn])), (qn, .inl (cI, 12, .inl (fun j => mI (N j)))), (hh, .inr (3, [.int tn, .ref qu, .ref qo, .ref qx, .ref qy, .ref qr, .ref qw])), (qu, .inl (cI, 12, .inl fu)), (ha, .inr (0, [.ref au, .ref ao, .ref ag, .int (mI Co)])), (au, .inl (cI, 12, .inl ga)), (ao, .inl (cI, 12, .inl go)), (ag, .inl (cI, 12, .inl (pkU (odR (!decide (ga a = -1) && decide (ga a / 2 = nI p9)) (rfC N S Co fu ga go a b)) gg a (nI b)))), (oq, .inl (cJ, 1, .inr (.inl (vp_updL fo9 (0 : Int32).toNatClampNeg ((nI (odR (!decide (ga a = -1) && decide (ga a / 2 = nI p9)) (rfC N S Co fu ga go a b))).toInt64)))))]) [1, 2, 3, 4, 5, 6, 7, 8, 9, 0] (by decide) rfl
  exact W.iret (v := 0) hx hb hr (fun t ht hW => ⟨⟨0, (), rfl, rfl, by rw [ht]; exact hP9, hD9⟩, hS.F ht⟩) hS.2.2 d_Lw_retreat_24


set_option maxHeartbeats 4000000 in
set_option maxRecDepth 100000 in
theorem c_Lw_buildP (l : Launch) (D : va_G) (cI cZ cJ cS : ClassId) (aT : Nat) (ceT : Cell) (sz : Nat) (h0 hm hh he ha hp : Nat) (qh qn n : Nat) (S Ce : Nat → Bool) (N : Nat → Nat → Bool) (tn : Int32) (qu qo qx qy qr qw : Nat) (fh fw fu : Nat → Int32) (p9 a k : Nat) (oq : Nat) (fo9 : Nat → Int64) (hn : n ≤ 12) (h_a : a < n) (h_p : p9 < 4) (h_k : k < 2) : Met l y_Lw_build w_Lw_build ({ frames := 5, cells := 0, slots := 0, locals := 111 }) (tH D cI cZ cJ cS aT ceT [.ref h0, .int (nI p9), .int (nI a), .int (nI k), .ref oq] sz [(h0, .inr (5, [.ref hm, .ref hh, .ref he, .ref ha, .ref hp, .int 3])), (hm, .inr (4, [.int (nI n), .int (mI S), .int (mI Ce), .ref qh, .ref qn])), (qh, .inl (cI, 12, .inl fh)), (qn, .inl (cI, 12, .inl (fun j => mI (N j)))), (hh, .inr (3, [.int tn, .ref qu, .ref qo, .ref qx, .ref qy, .ref qr, .ref qw])), (qu, .inl (cI, 12, .inl fu)), (qw, .inl (cI, 12, .inl fw)), (oq, .inl (cJ, 1, .inr (.inl fo9)))]) (va_Qi (fun (r : Int32) (_ : Unit) => r = 0) (fun _ t => tB D (va_A [(h0, .inr (5, [.ref hm, .ref hh, .ref he, .ref ha, .ref hp, .int 3])), (hm, .inr (4, [.int (nI n), .int (mI S), .int (mI Ce), .ref qh, .ref qn])), (qh, .inl (cI, 12, .inl fh)), (qn, .inl (cI, 12, .inl (fun j => mI (N j)))), (hh, .inr (3, [.int tn, .ref qu, .ref qo, .ref qx, .ref qy, .ref qr, .ref qw])), (qu, .inl (cI, 12, .inl fu)), (qw, .inl (cI, 12, .inl fw)), (oq, .inl (cJ, 1, .inr (.inl fo9)))] sz) [(h0, .inr (5, [.ref hm, .ref hh, .ref he, .ref ha, .ref hp, .int 3])), (hm, .inr (4, [.int (nI n), .int (mI S), .int (mI Ce), .ref qh, .ref qn])), (qh, .inl (cI, 12, .inl fh)), (qn, .inl (cI, 12, .inl (fun j => mI (N j)))), (hh, .inr (3, [.int tn, .ref qu, .ref qo, .ref qx, .ref qy, .ref qr, .ref qw])), (qu, .inl (cI, 12, .inl (pkU (puR (msC fw fu (nI p9)) (bpC fh fw fu (nI p9) a && (if nI k = 0 then !S a else S a || anyB (fun j => N a j && S j) 12))) fu a (nI (2 * p9 + k))))), (qw, .inl (cI, 12, .inl fw)), (oq, .inl (cJ, 1, .inr (.inl (vp_updL fo9 (0 : Int32).toNatClampNeg (nI (puR (msC fw fu (nI p9)) (bpC fh fw fu (nI p9) a && (if nI k = 0 then !S a else S a || anyB (fun j => N a j && S j) 12)))).toInt64))))] t) (va_A [(h0, .inr (5, [.ref hm, .ref hh, .ref he, .ref ha, .ref hp, .int 3])), (hm, .inr (4, [.int (nI n), .int (mI S), .int (mI Ce), .ref qh, .ref qn])), (qh, .inl (cI, 12, .inl fh)), (qn, .inl (cI, 12, .inl (fun j => mI (N j)))), (hh, .inr (3, [.int tn, .ref qu, .ref qo, .ref qx, .ref qy, .ref qr, .ref qw])), (qu, .inl (cI, 12, .inl fu)), (qw, .inl (cI, 12, .inl fw)), (oq, .inl (cJ, 1, .inr (.inl fo9)))] sz)) 0 0 (va_A [(h0, .inr (5, [.ref hm, .ref hh, .ref he, .ref ha, .ref hp, .int 3])), (hm, .inr (4, [.int (nI n), .int (mI S), .int (mI Ce), .ref qh, .ref qn])), (qh, .inl (cI, 12, .inl fh)), (qn, .inl (cI, 12, .inl (fun j => mI (N j)))), (hh, .inr (3, [.int tn, .ref qu, .ref qo, .ref qx, .ref qy, .ref qr, .ref qw])), (qu, .inl (cI, 12, .inl fu)), (qw, .inl (cI, 12, .inl fw)), (oq, .inl (cJ, 1, .inr (.inl fo9)))] sz) := by
  refine va_MetW (cc := b_Lw_build) (maxL := 6) (ret := (some .int)) (hh := [(0, 12, 15, 13), (0, 12, 19, 15)]) (by decide) rfl ?_
  intro p e s m args below meth c s₁ B hml hv
  obtain ⟨rfl, hsz, hP, hK, hD0, hX⟩ := hv
  have hx := B.exec
  have hb := B.bytes
  have hr := B.returns
  have hts0 := atoms_spec (ws := w_Lw_build) B.pre
  have hts : ∀ w ∈ TB, w.before _ s = true := fun w h => hts0 w (List.mem_cons_of_mem _ h)
  have hown : s.vm.findClass "SheetWarLaw" = some m.cls := findClass_of_methodNamed B.named
  have hlocks := B.notSynchronized
  have hTab := tx_tab B (hts0 _ (List.mem_cons_self ..))
  subst hsz
  have hXl := tx_lt hX
  have hXn := tx_far hP hX
  have hD := hD0.self (sz := s.heap.size)
  generalize hAe : va_A [(h0, .inr (5, [.ref hm, .ref hh, .ref he, .ref ha, .ref hp, .int 3])), (hm, .inr (4, [.int (nI n), .int (mI S), .int (mI Ce), .ref qh, .ref qn])), (qh, .inl (cI, 12, .inl fh)), (qn, .inl (cI, 12, .inl (fun j => mI (N j)))), (hh, .inr (3, [.int tn, .ref qu, .ref qo, .ref qx, .ref qy, .ref qr, .ref qw])), (qu, .inl (cI, 12, .inl fu)), (qw, .inl (cI, 12, .inl fw)), (oq, .inl (cJ, 1, .inr (.inl fo9)))] s.heap.size = A at hD hXn ⊢
  have hA : ∀ q : Nat, s.heap.size ≤ q → A q := fun q h => by rw [← hAe]; exact Or.inr h
  have hS : va_S A s.heap s.heap [] := va_S.rf
  have hXH : s.heap[aT]? = s.heap[aT]? := rfl
  have hl := lv_entry ([.ref h0, .int (nI p9), .int (nI a), .int (nI k), .ref oq]) (n := 6) (Nat.le_of_ble_eq_true rfl)
  rw [lg_entry_eq]
  generalize (lg_sl ([.ref h0, .int (nI p9), .int (nI a), .int (nI k), .ref oq]) ++ List.replicate (6 - (lg_sl ([.ref h0, .int (nI p9), .int (nI a), .int (nI k), .ref oq])).length) Slot.unset).toArray = ls at hl ⊢
  have hl : lv_has ls 6 [(0, .ref h0), (1, .int (nI p9)), (2, .int (nI a)), (3, .int (nI k)), (4, .ref oq)] := hl
  refine lv_aload hx hb d_Lw_build_0 (lv_at hl 4 rfl) ?_
  refine lv_iconst (v := 0) hx hb d_Lw_build_2 (by decide) ?_
  refine lv_aload_n hx hb d_Lw_build_3 rfl (lv_at hl 0 rfl) ?_
  refine lv_iload_n hx hb d_Lw_build_4 rfl (lv_at hl 1 rfl) ?_
  refine lv_iload_n hx hb d_Lw_build_5 rfl (lv_at hl 2 rfl) ?_
  refine lv_iload_n hx hb d_Lw_build_6 rfl (lv_at hl 3 rfl) ?_
  have hPc := hP.sub (ws' := [(h0, .inr (5, [.ref hm, .ref hh, .ref he, .ref ha, .ref hp, .int 3])), (hm, .inr (4, [.int (nI n), .int (mI S), .int (mI Ce), .ref qh, .ref qn])), (qh, .inl (cI, 12, .inl fh)), (qn, .inl (cI, 12, .inl (fun j => mI (N j)))), (hh, .inr (3, [.int tn, .ref qu, .ref qo, .ref qx, .ref qy, .ref qr, .ref qw])), (qu, .inl (cI, 12, .inl fu)), (qw, .inl (cI, 12, .inl fw))]) [0, 1, 2, 3, 4, 5, 6] rfl
  have hDc := hD.sub (ws' := [(h0, .inr (5, [.ref hm, .ref hh, .ref he, .ref ha, .ref hp, .int 3])), (hm, .inr (4, [.int (nI n), .int (mI S), .int (mI Ce), .ref qh, .ref qn])), (qh, .inl (cI, 12, .inl fh)), (qn, .inl (cI, 12, .inl (fun j => mI (N j)))), (hh, .inr (3, [.int tn, .ref qu, .ref qo, .ref qx, .ref qy, .ref qr, .ref qw])), (qu, .inl (cI, 12, .inl fu)), (qw, .inl (cI, 12, .inl fw))]) [0, 1, 2, 3, 4, 5, 6] (by decide) rfl
  have hFc := va_free (wc := [(h0, .inr (5, [.ref hm, .ref hh, .ref he, .ref ha, .ref hp, .int 3])), (hm, .inr (4, [.int (nI n), .int (mI S), .int (mI Ce), .ref qh, .ref qn])), (qh, .inl (cI, 12, .inl fh)), (qn, .inl (cI, 12, .inl (fun j => mI (N j)))), (hh, .inr (3, [.int tn, .ref qu, .ref qo, .ref qx, .ref qy, .ref qr, .ref qw])), (qu, .inl (cI, 12, .inl fu)), (qw, .inl (cI, 12, .inl fw))]) hD hS hA [0, 1, 2, 3, 4, 5, 6] rfl
  refine va_calli (va_runV (As := [.int (nI p9), .int (nI a), .int (nI k)]) (rest := [.int 0, .ref oq]) ⟨hx, hb, hml, hown, hts⟩ (c_Sw_buildP l D cI cZ cJ cS aT ceT s.heap.size h0 hm hh he ha hp qh qn n S Ce N tn qu qo qx qy qr qw fh fw fu p9 a k hn h_a h_p h_k) (cwV 3 hts (tb_4 wd_666 wd_667 wd_668 wd_1 (tb_c wd_669)) rfl rfl rfl ⟨rfl, by decide, by decide, by decide +kernel⟩ ⟨Nat.le_of_ble_eq_true rfl, Nat.le_of_ble_eq_true rfl⟩) (tH_V hK hX (hS.2.1 aT hXl hXn) hPc hDc (q := 0) rfl rfl) rfl rfl hl.1 rfl (lv_room (Nat.le_of_ble_eq_true rfl)) d_Lw_build_7 ⟨Nat.le_of_ble_eq_true rfl, Nat.le_of_ble_eq_true rfl⟩) hS (fun q _ h => hFc q h) hFc (fun r9 u t H1 locs ht hvm h9 hB hz1 hk1 hS => ?_)
  rw [h9]
  obtain ⟨hP1, hD1⟩ := hB
  rw [ht] at hP1
  obtain ⟨hP, hD⟩ := va_join (wr := [(oq, .inl (cJ, 1, .inr (.inl fo9)))]) (w1 := [(h0, .inr (5, [.ref hm, .ref hh, .ref he, .ref ha, .ref hp, .int 3])), (hm, .inr (4, [.int (nI n), .int (mI S), .int (mI Ce), .ref qh, .ref qn])), (qh, .inl (cI, 12, .inl fh)), (qn, .inl (cI, 12, .inl (fun j => mI (N j)))), (hh, .inr (3, [.int tn, .ref qu, .ref qo, .ref qx, .ref qy, .ref qr, .ref qw])), (qu, .inl (cI, 12, .inl (pkU (puR (msC fw fu (nI p9)) (bpC fh fw fu (nI p9) a && (if nI k = 0 then !S a else S a || anyB (fun j => N a j && S j) 12))) fu a (nI (2 * p9 + k))))), (qw, .inl (cI, 12, .inl fw))]) hP hD [0, 1, 2, 3, 4, 5, 6] [7] rfl rfl (by decide) (by decide) hk1 hFc hP1 hD1
  generalize H1 = H at hP hS ⊢
  have hP : va_P D vwCl [(oq, .inl (cJ, 1, .inr (.inl fo9))), (h0, .inr (5, [.ref hm, .ref hh, .ref he, .ref ha, .ref hp, .int 3])), (hm, .inr (4, [.int (nI n), .int (mI S), .int (mI Ce), .ref qh, .ref qn])), (qh, .inl (cI, 12, .inl fh)), (qn, .inl (cI, 12, .inl (fun j => mI (N j)))), (hh, .inr (3, [.int tn, .ref qu, .ref qo, .ref qx, .ref qy, .ref qr, .ref qw])), (qu, .inl (cI, 12, .inl (pkU (puR (msC fw fu (nI p9)) (bpC fh fw fu (nI p9) a && (if nI k = 0 then !S a else S a || anyB (fun j => N a j && S j) 12))) fu a (nI (2 * p9 + k))))), (qw, .inl (cI, 12, .inl fw))] H := hP
  have hD : va_D A [(oq, .inl (cJ, 1, .inr (.inl fo9))), (h0, .inr (5, [.ref hm, .ref hh, .ref he, .ref ha, .ref hp, .int 3])), (hm, .inr (4, [.int (nI n), .int (mI S), .int (mI Ce), .ref qh, .ref qn])), (qh, .inl (cI, 12, .inl fh)), (qn, .inl (cI, 12, .inl (fun j => mI (N j)))), (hh, .inr (3, [.int tn, .ref qu, .ref qo, .ref qx, .ref qy, .ref qr, .ref qw])), (qu, .inl (cI, 12, .inl (pkU (puR (msC fw fu (nI p9)) (bpC fh fw fu (nI p9) a && (if nI k = 0 then !S a else S a || anyB (fun j => N a j && S j) 12))) fu a (nI (2 * p9 + k))))), (qw, .inl (cI, 12, .inl fw))] := hD
  refine lv_i2l hx hb d_Lw_build_10 rfl ?_
  refine va_last hx hb hK hP hD hS 0 2 rfl rfl (by unfold vp_in; decide) d_Lw_build_11 (fun H locs hP hD hS => ?_)
  have hP : va_P D vwCl [(oq, .inl (cJ, 1, .inr (.inl (vp_updL fo9 (0 : Int32).toNatClampNeg ((nI (puR (msC fw fu (nI p9)) (bpC fh fw fu (nI p9) a && (if nI k = 0 then !S a else S a || anyB (fun j => N a j && S j) 12)))).toInt64))))), (h0, .inr (5, [.ref hm, .ref hh, .ref he, .ref ha, .ref hp, .int 3])), (hm, .inr (4, [.int (nI n), .int (mI S), .int (mI Ce), .ref qh, .ref qn])), (qh, .inl (cI, 12, .inl fh)), (qn, .inl (cI, 12, .inl (fun j => mI (N j)))), (hh, .inr (3, [.int tn, .ref qu, .ref qo, .ref qx, .ref qy, .ref qr, .ref qw])), (qu, .inl (cI, 12, .inl (pkU (puR (msC fw fu (nI p9)) (bpC fh fw fu (nI p9) a && (if nI k = 0 then !S a else S a || anyB (fun j => N a j && S j) 12))) fu a (nI (2 * p9 + k))))), (qw, .inl (cI, 12, .inl fw))] H := hP
  have hD : va_D A [(oq, .inl (cJ, 1, .inr (.inl (vp_updL fo9 (0 : Int32).toNatClampNeg ((nI (puR (msC fw fu (nI p9)) (bpC fh fw fu (nI p9) a && (if nI k = 0 then !S a else S a || anyB (fun j => N a j && S j) 12)))).toInt64))))), (h0, .inr (5, [.ref hm, .ref hh, .ref he, .ref ha, .ref hp, .int 3])), (hm, .inr (4, [.int (nI n), .int (mI S), .int (mI Ce), .ref qh, .ref qn])), (qh, .inl (cI, 12, .inl fh)), (qn, .inl (cI, 12, .inl (fun j => mI (N j)))), (hh, .inr (3, [.int tn, .ref qu, .ref qo, .ref qx, .ref qy, .ref qr, .ref qw])), (qu, .inl (cI, 12, .inl (pkU (puR (msC fw fu (nI p9)) (bpC fh fw fu (nI p9) a && (if nI k = 0 then !S a else S a || anyB (fun j => N a j && S j) 12))) fu a (nI (2 * p9 + k))))), (qw, .inl (cI, 12, .inl fw))] := hD
  refine lv_goto (tgt := 23) hx hb d_Lw_build_12 (by decide) ?_
  refine lv_iconst (v := 0) hx hb d_Lw_build_23 (by decide) ?_
  have hP9 := hP.sub (ws' := [(h0, .inr (5, [.ref hm, .ref hh, .ref he, .ref ha, .ref hp, .int 3])), (hm, .inr (4, [.int (nI n), .int (mI S), .int (mI Ce), .ref qh, .ref qn])), (qh, .inl (cI, 12, .inl fh)), (qn, .inl (cI, 12, .inl (fun j => mI (N j)))), (hh, .inr (3, [.int tn, .ref qu, .ref qo, .ref qx, .ref qy, .ref qr, .ref qw])), (qu, .inl (cI, 12, .inl (pkU (puR (msC fw fu (nI p9)) (bpC fh fw fu (nI p9) a && (if nI k = 0 then !S a else S a || anyB (fun j => N a j && S j) 12))) fu a (nI (2 * p9 + k))))), (qw, .inl (cI, 12, .inl fw)), (oq, .inl (cJ, 1, .inr (.inl (vp_updL fo9 (0 : Int32).toNatClampNeg ((nI (puR (msC fw fu (nI p9)) (bpC fh fw fu (nI p9) a && (if nI k = 0 then !S a else S a || anyB (fun j => N a j && S j) 12)))).toInt64)))))]) [1, 2, 3, 4, 5, 6, 7, 0] rfl
  have hD9 := hD.sub (ws' := [(h0, .inr (5, [.ref hm, .ref hh, .ref he, .ref ha, .ref hp, .int 3])), (hm, .inr (4, [.int (nI n), .int (mI S), .int (mI Ce), .ref qh, .ref qn])), (qh, .inl (cI, 12, .inl fh)), (qn, .inl (cI, 12, .inl (fun j => mI (N j)))), (hh, .inr (3, [.int tn, .ref qu, .ref qo, .ref qx, .ref qy, .ref qr, .ref qw])), (qu, .inl (cI, 12, .inl (pkU (puR (msC fw fu (nI p9)) (bpC fh fw fu (nI p9) a && (if nI k = 0 then !S a else S a || anyB (fun j => N a j && S j) 12))) fu a (nI (2 * p9 + k))))), (qw, .inl (cI, 12, .inl fw)), (oq, .inl (cJ, 1, .inr (.inl (vp_updL fo9 (0 : Int32).toNatClampNeg ((nI (puR (msC fw fu (nI p9)) (bpC fh fw fu (nI p9) a && (if nI k = 0 then !S a else S a || anyB (fun j => N a j && S j) 12)))).toInt64)))))]) [1, 2, 3, 4, 5, 6, 7, 0] (by decide) rfl
  exact W.iret (v := 0) hx hb hr (fun t ht hW => ⟨⟨0, (), rfl, rfl, by rw [ht]; exact hP9, hD9⟩, hS.F ht⟩) hS.2.2 d_Lw_build_24


set_option maxHeartbeats 4000000 in
set_option maxRecDepth 100000 in
theorem c_Lw_buildT (l : Launch) (D : va_G) (cI cZ cJ cS : ClassId) (aT : Nat) (ceT : Cell) (sz : Nat) (h0 hm hh he ha hp : Nat) (qh qn n : Nat) (S Ce : Nat → Bool) (N : Nat → Nat → Bool) (tn : Int32) (qu qo qx qy qr qw : Nat) (fh fw fu : Nat → Int32) (p9 a : Nat) (oq : Nat) (fo9 : Nat → Int64) (hn : n ≤ 12) (h_a : a < n) (h_p : p9 < 4) : Met l y_Lw_build w_Lw_build ({ frames := 5, cells := 0, slots := 0, locals := 110 }) (tH D cI cZ cJ cS aT ceT [.ref h0, .int (nI p9), .int (nI a), .int 2, .ref oq] sz [(h0, .inr (5, [.ref hm, .ref hh, .ref he, .ref ha, .ref hp, .int 3])), (hm, .inr (4, [.int (nI n), .int (mI S), .int (mI Ce), .ref qh, .ref qn])), (qh, .inl (cI, 12, .inl fh)), (qn, .inl (cI, 12, .inl (fun j => mI (N j)))), (hh, .inr (3, [.int tn, .ref qu, .ref qo, .ref qx, .ref qy, .ref qr, .ref qw])), (qu, .inl (cI, 12, .inl fu)), (qw, .inl (cI, 12, .inl fw)), (oq, .inl (cJ, 1, .inr (.inl fo9)))]) (va_Qi (fun (r : Int32) (_ : Unit) => r = 0) (fun _ t => tB D (va_A [(h0, .inr (5, [.ref hm, .ref hh, .ref he, .ref ha, .ref hp, .int 3])), (hm, .inr (4, [.int (nI n), .int (mI S), .int (mI Ce), .ref qh, .ref qn])), (qh, .inl (cI, 12, .inl fh)), (qn, .inl (cI, 12, .inl (fun j => mI (N j)))), (hh, .inr (3, [.int tn, .ref qu, .ref qo, .ref qx, .ref qy, .ref qr, .ref qw])), (qu, .inl (cI, 12, .inl fu)), (qw, .inl (cI, 12, .inl fw)), (oq, .inl (cJ, 1, .inr (.inl fo9)))] sz) [(h0, .inr (5, [.ref hm, .ref hh, .ref he, .ref ha, .ref hp, .int 3])), (hm, .inr (4, [.int (nI n), .int (mI S), .int (mI Ce), .ref qh, .ref qn])), (qh, .inl (cI, 12, .inl fh)), (qn, .inl (cI, 12, .inl (fun j => mI (N j)))), (hh, .inr (3, [.int tn, .ref qu, .ref qo, .ref qx, .ref qy, .ref qr, .ref qw])), (qu, .inl (cI, 12, .inl (pkU (tuR (msC fw fu (nI p9)) (!decide (fu a = -1) && decide (fu a / 2 = nI p9))) fu a (-1)))), (qw, .inl (cI, 12, .inl fw)), (oq, .inl (cJ, 1, .inr (.inl (vp_updL fo9 (0 : Int32).toNatClampNeg (nI (tuR (msC fw fu (nI p9)) (!decide (fu a = -1) && decide (fu a / 2 = nI p9)))).toInt64))))] t) (va_A [(h0, .inr (5, [.ref hm, .ref hh, .ref he, .ref ha, .ref hp, .int 3])), (hm, .inr (4, [.int (nI n), .int (mI S), .int (mI Ce), .ref qh, .ref qn])), (qh, .inl (cI, 12, .inl fh)), (qn, .inl (cI, 12, .inl (fun j => mI (N j)))), (hh, .inr (3, [.int tn, .ref qu, .ref qo, .ref qx, .ref qy, .ref qr, .ref qw])), (qu, .inl (cI, 12, .inl fu)), (qw, .inl (cI, 12, .inl fw)), (oq, .inl (cJ, 1, .inr (.inl fo9)))] sz)) 0 0 (va_A [(h0, .inr (5, [.ref hm, .ref hh, .ref he, .ref ha, .ref hp, .int 3])), (hm, .inr (4, [.int (nI n), .int (mI S), .int (mI Ce), .ref qh, .ref qn])), (qh, .inl (cI, 12, .inl fh)), (qn, .inl (cI, 12, .inl (fun j => mI (N j)))), (hh, .inr (3, [.int tn, .ref qu, .ref qo, .ref qx, .ref qy, .ref qr, .ref qw])), (qu, .inl (cI, 12, .inl fu)), (qw, .inl (cI, 12, .inl fw)), (oq, .inl (cJ, 1, .inr (.inl fo9)))] sz) := by
  refine va_MetW (cc := b_Lw_build) (maxL := 6) (ret := (some .int)) (hh := [(0, 12, 15, 13), (0, 12, 19, 15)]) (by decide) rfl ?_
  intro p e s m args below meth c s₁ B hml hv
  obtain ⟨rfl, hsz, hP, hK, hD0, hX⟩ := hv
  have hx := B.exec
  have hb := B.bytes
  have hr := B.returns
  have hts0 := atoms_spec (ws := w_Lw_build) B.pre
  have hts : ∀ w ∈ TB, w.before _ s = true := fun w h => hts0 w (List.mem_cons_of_mem _ h)
  have hown : s.vm.findClass "SheetWarLaw" = some m.cls := findClass_of_methodNamed B.named
  have hlocks := B.notSynchronized
  have hTab := tx_tab B (hts0 _ (List.mem_cons_self ..))
  subst hsz
  have hXl := tx_lt hX
  have hXn := tx_far hP hX
  have hD := hD0.self (sz := s.heap.size)
  generalize hAe : va_A [(h0, .inr (5, [.ref hm, .ref hh, .ref he, .ref ha, .ref hp, .int 3])), (hm, .inr (4, [.int (nI n), .int (mI S), .int (mI Ce), .ref qh, .ref qn])), (qh, .inl (cI, 12, .inl fh)), (qn, .inl (cI, 12, .inl (fun j => mI (N j)))), (hh, .inr (3, [.int tn, .ref qu, .ref qo, .ref qx, .ref qy, .ref qr, .ref qw])), (qu, .inl (cI, 12, .inl fu)), (qw, .inl (cI, 12, .inl fw)), (oq, .inl (cJ, 1, .inr (.inl fo9)))] s.heap.size = A at hD hXn ⊢
  have hA : ∀ q : Nat, s.heap.size ≤ q → A q := fun q h => by rw [← hAe]; exact Or.inr h
  have hS : va_S A s.heap s.heap [] := va_S.rf
  have hXH : s.heap[aT]? = s.heap[aT]? := rfl
  have hl := lv_entry ([.ref h0, .int (nI p9), .int (nI a), .int 2, .ref oq]) (n := 6) (Nat.le_of_ble_eq_true rfl)
  rw [lg_entry_eq]
  generalize (lg_sl ([.ref h0, .int (nI p9), .int (nI a), .int 2, .ref oq]) ++ List.replicate (6 - (lg_sl ([.ref h0, .int (nI p9), .int (nI a), .int 2, .ref oq])).length) Slot.unset).toArray = ls at hl ⊢
  have hl : lv_has ls 6 [(0, .ref h0), (1, .int (nI p9)), (2, .int (nI a)), (3, .int 2), (4, .ref oq)] := hl
  refine lv_aload hx hb d_Lw_build_0 (lv_at hl 4 rfl) ?_
  refine lv_iconst (v := 0) hx hb d_Lw_build_2 (by decide) ?_
  refine lv_aload_n hx hb d_Lw_build_3 rfl (lv_at hl 0 rfl) ?_
  refine lv_iload_n hx hb d_Lw_build_4 rfl (lv_at hl 1 rfl) ?_
  refine lv_iload_n hx hb d_Lw_build_5 rfl (lv_at hl 2 rfl) ?_
  refine lv_iload_n hx hb d_Lw_build_6 rfl (lv_at hl 3 rfl) ?_
  have hPc := hP.sub (ws' := [(h0, .inr (5, [.ref hm, .ref hh, .ref he, .ref ha, .ref hp, .int 3])), (hm, .inr (4, [.int (nI n), .int (mI S), .int (mI Ce), .ref qh, .ref qn])), (qh, .inl (cI, 12, .inl fh)), (qn, .inl (cI, 12, .inl (fun j => mI (N j)))), (hh, .inr (3, [.int tn, .ref qu, .ref qo, .ref qx, .ref qy, .ref qr, .ref qw])), (qu, .inl (cI, 12, .inl fu)), (qw, .inl (cI, 12, .inl fw))]) [0, 1, 2, 3, 4, 5, 6] rfl
  have hDc := hD.sub (ws' := [(h0, .inr (5, [.ref hm, .ref hh, .ref he, .ref ha, .ref hp, .int 3])), (hm, .inr (4, [.int (nI n), .int (mI S), .int (mI Ce), .ref qh, .ref qn])), (qh, .inl (cI, 12, .inl fh)), (qn, .inl (cI, 12, .inl (fun j => mI (N j)))), (hh, .inr (3, [.int tn, .ref qu, .ref qo, .ref qx, .ref qy, .ref qr, .ref qw])), (qu, .inl (cI, 12, .inl fu)), (qw, .inl (cI, 12, .inl fw))]) [0, 1, 2, 3, 4, 5, 6] (by decide) rfl
  have hFc := va_free (wc := [(h0, .inr (5, [.ref hm, .ref hh, .ref he, .ref ha, .ref hp, .int 3])), (hm, .inr (4, [.int (nI n), .int (mI S), .int (mI Ce), .ref qh, .ref qn])), (qh, .inl (cI, 12, .inl fh)), (qn, .inl (cI, 12, .inl (fun j => mI (N j)))), (hh, .inr (3, [.int tn, .ref qu, .ref qo, .ref qx, .ref qy, .ref qr, .ref qw])), (qu, .inl (cI, 12, .inl fu)), (qw, .inl (cI, 12, .inl fw))]) hD hS hA [0, 1, 2, 3, 4, 5, 6] rfl
  refine va_calli (va_runV (As := [.int (nI p9), .int (nI a), .int 2]) (rest := [.int 0, .ref oq]) ⟨hx, hb, hml, hown, hts⟩ (c_Sw_buildT l D cI cZ cJ cS aT ceT s.heap.size h0 hm hh he ha hp qh qn n S Ce N tn qu qo qx qy qr qw fh fw fu p9 a hn h_a h_p) (cwV 3 hts (tb_4 wd_666 wd_667 wd_668 wd_1 (tb_c wd_669)) rfl rfl rfl ⟨rfl, by decide, by decide, by decide +kernel⟩ ⟨Nat.le_of_ble_eq_true rfl, Nat.le_of_ble_eq_true rfl⟩) (tH_V hK hX (hS.2.1 aT hXl hXn) hPc hDc (q := 0) rfl rfl) rfl rfl hl.1 rfl (lv_room (Nat.le_of_ble_eq_true rfl)) d_Lw_build_7 ⟨Nat.le_of_ble_eq_true rfl, Nat.le_of_ble_eq_true rfl⟩) hS (fun q _ h => hFc q h) hFc (fun r9 u t H1 locs ht hvm h9 hB hz1 hk1 hS => ?_)
  rw [h9]
  obtain ⟨hP1, hD1⟩ := hB
  rw [ht] at hP1
  obtain ⟨hP, hD⟩ := va_join (wr := [(oq, .inl (cJ, 1, .inr (.inl fo9)))]) (w1 := [(h0, .inr (5, [.ref hm, .ref hh, .ref he, .ref ha, .ref hp, .int 3])), (hm, .inr (4, [.int (nI n), .int (mI S), .int (mI Ce), .ref qh, .ref qn])), (qh, .inl (cI, 12, .inl fh)), (qn, .inl (cI, 12, .inl (fun j => mI (N j)))), (hh, .inr (3, [.int tn, .ref qu, .ref qo, .ref qx, .ref qy, .ref qr, .ref qw])), (qu, .inl (cI, 12, .inl (pkU (tuR (msC fw fu (nI p9)) (!decide (fu a = -1) && decide (fu a / 2 = nI p9))) fu a (-1)))), (qw, .inl (cI, 12, .inl fw))]) hP hD [0, 1, 2, 3, 4, 5, 6] [7] rfl rfl (by decide) (by decide) hk1 hFc hP1 hD1
  generalize H1 = H at hP hS ⊢
  have hP : va_P D vwCl [(oq, .inl (cJ, 1, .inr (.inl fo9))), (h0, .inr (5, [.ref hm, .ref hh, .ref he, .ref ha, .ref hp, .int 3])), (hm, .inr (4, [.int (nI n), .int (mI S), .int (mI Ce), .ref qh, .ref qn])), (qh, .inl (cI, 12, .inl fh)), (qn, .inl (cI, 12, .inl (fun j => mI (N j)))), (hh, .inr (3, [.int tn, .ref qu, .ref qo, .ref qx, .ref qy, .ref qr, .ref qw])), (qu, .inl (cI, 12, .inl (pkU (tuR (msC fw fu (nI p9)) (!decide (fu a = -1) && decide (fu a / 2 = nI p9))) fu a (-1)))), (qw, .inl (cI, 12, .inl fw))] H := hP
  have hD : va_D A [(oq, .inl (cJ, 1, .inr (.inl fo9))), (h0, .inr (5, [.ref hm, .ref hh, .ref he, .ref ha, .ref hp, .int 3])), (hm, .inr (4, [.int (nI n), .int (mI S), .int (mI Ce), .ref qh, .ref qn])), (qh, .inl (cI, 12, .inl fh)), (qn, .inl (cI, 12, .inl (fun j => mI (N j)))), (hh, .inr (3, [.int tn, .ref qu, .ref qo, .ref qx, .ref qy, .ref qr, .ref qw])), (qu, .inl (cI, 12, .inl (pkU (tuR (msC fw fu (nI p9)) (!decide (fu a = -1) && decide (fu a / 2 = nI p9))) fu a (-1)))), (qw, .inl (cI, 12, .inl fw))] := hD
  refine lv_i2l hx hb d_Lw_build_10 rfl ?_
  refine va_last hx hb hK hP hD hS 0 2 rfl rfl (by unfold vp_in; decide) d_Lw_build_11 (fun H locs hP hD hS => ?_)
  have hP : va_P D vwCl [(oq, .inl (cJ, 1, .inr (.inl (vp_updL fo9 (0 : Int32).toNatClampNeg ((nI (tuR (msC fw fu (nI p9)) (!decide (fu a = -1) && decide (fu a / 2 = nI p9)))).toInt64))))), (h0, .inr (5, [.ref hm, .ref hh, .ref he, .ref ha, .ref hp, .int 3])), (hm, .inr (4, [.int (nI n), .int (mI S), .int (mI Ce), .ref qh, .ref qn])), (qh, .inl (cI, 12, .inl fh)), (qn, .inl (cI, 12, .inl (fun j => mI (N j)))), (hh, .inr (3, [.int tn, .ref qu, .ref qo, .ref qx, .ref qy, .ref qr, .ref qw])), (qu, .inl (cI, 12, .inl (pkU (tuR (msC fw fu (nI p9)) (!decide (fu a = -1) && decide (fu a / 2 = nI p9))) fu a (-1)))), (qw, .inl (cI, 12, .inl fw))] H := hP
  have hD : va_D A [(oq, .inl (cJ, 1, .inr (.inl (vp_updL fo9 (0 : Int32).toNatClampNeg ((nI (tuR (msC fw fu (nI p9)) (!decide (fu a = -1) && decide (fu a / 2 = nI p9)))).toInt64))))), (h0, .inr (5, [.ref hm, .ref hh, .ref he, .ref ha, .ref hp, .int 3])), (hm, .inr (4, [.int (nI n), .int (mI S), .int (mI Ce), .ref qh, .ref qn])), (qh, .inl (cI, 12, .inl fh)), (qn, .inl (cI, 12, .inl (fun j => mI (N j)))), (hh, .inr (3, [.int tn, .ref qu, .ref qo, .ref qx, .ref qy, .ref qr, .ref qw])), (qu, .inl (cI, 12, .inl (pkU (tuR (msC fw fu (nI p9)) (!decide (fu a = -1) && decide (fu a / 2 = nI p9))) fu a (-1)))), (qw, .inl (cI, 12, .inl fw))] := hD
  refine lv_goto (tgt := 23) hx hb d_Lw_build_12 (by decide) ?_
  refine lv_iconst (v := 0) hx hb d_Lw_build_23 (by decide) ?_
  have hP9 := hP.sub (ws' := [(h0, .inr (5, [.ref hm, .ref hh, .ref he, .ref ha, .ref hp, .int 3])), (hm, .inr (4, [.int (nI n), .int (mI S), .int (mI Ce), .ref qh, .ref qn])), (qh, .inl (cI, 12, .inl fh)), (qn, .inl (cI, 12, .inl (fun j => mI (N j)))), (hh, .inr (3, [.int tn, .ref qu, .ref qo, .ref qx, .ref qy, .ref qr, .ref qw])), (qu, .inl (cI, 12, .inl (pkU (tuR (msC fw fu (nI p9)) (!decide (fu a = -1) && decide (fu a / 2 = nI p9))) fu a (-1)))), (qw, .inl (cI, 12, .inl fw)), (oq, .inl (cJ, 1, .inr (.inl (vp_updL fo9 (0 : Int32).toNatClampNeg ((nI (tuR (msC fw fu (nI p9)) (!decide (fu a = -1) && decide (fu a / 2 = nI p9)))).toInt64)))))]) [1, 2, 3, 4, 5, 6, 7, 0] rfl
  have hD9 := hD.sub (ws' := [(h0, .inr (5, [.ref hm, .ref hh, .ref he, .ref ha, .ref hp, .int 3])), (hm, .inr (4, [.int (nI n), .int (mI S), .int (mI Ce), .ref qh, .ref qn])), (qh, .inl (cI, 12, .inl fh)), (qn, .inl (cI, 12, .inl (fun j => mI (N j)))), (hh, .inr (3, [.int tn, .ref qu, .ref qo, .ref qx, .ref qy, .ref qr, .ref qw])), (qu, .inl (cI, 12, .inl (pkU (tuR (msC fw fu (nI p9)) (!decide (fu a = -1) && decide (fu a / 2 = nI p9))) fu a (-1)))), (qw, .inl (cI, 12, .inl fw)), (oq, .inl (cJ, 1, .inr (.inl (vp_updL fo9 (0 : Int32).toNatClampNeg ((nI (tuR (msC fw fu (nI p9)) (!decide (fu a = -1) && decide (fu a / 2 = nI p9)))).toInt64)))))]) [1, 2, 3, 4, 5, 6, 7, 0] (by decide) rfl
  exact W.iret (v := 0) hx hb hr (fun t ht hW => ⟨⟨0, (), rfl, rfl, by rw [ht]; exact hP9, hD9⟩, hS.F ht⟩) hS.2.2 d_Lw_build_24


set_option maxHeartbeats 4000000 in
set_option maxRecDepth 100000 in
theorem c_Lw_finishO (l : Launch) (D : va_G) (cI cZ cJ cS : ClassId) (aT : Nat) (ceT : Cell) (sz : Nat) (h0 hm hh he ha hp : Nat) (qh qn n : Nat) (S Ce : Nat → Bool) (tn : Int32) (qu qo qx qy qr qw : Nat) (fh fw fu fo fx fy ga go gg : Nat → Int32) (au ao ag : Nat) (ac : Int32) (oq : Nat) (fo9 : Nat → Int64) (hn : n ≤ 12) (hgg : ∀ j, gg j = -1 ∨ vp_in (gg j) 12) (hev : ¬ tn - tn / 2 * 2 = 0) : Met l y_Lw_finish w_Lw_finish ({ frames := 6, cells := 0, slots := 0, locals := 127 }) (tH D cI cZ cJ cS aT ceT [.ref h0, .ref oq] sz [(h0, .inr (5, [.ref hm, .ref hh, .ref he, .ref ha, .ref hp, .int 2])), (hm, .inr (4, [.int (nI n), .int (mI S), .int (mI Ce), .ref qh, .ref qn])), (qh, .inl (cI, 12, .inl fh)), (hh, .inr (3, [.int tn, .ref qu, .ref qo, .ref qx, .ref qy, .ref qr, .ref qw])), (qu, .inl (cI, 12, .inl fu)), (qw, .inl (cI, 12, .inl fw)), (qo, .inl (cI, 12, .inl fo)), (qx, .inl (cI, 12, .inl fx)), (qy, .inl (cI, 12, .inl fy)), (ha, .inr (0, [.ref au, .ref ao, .ref ag, .int ac])), (au, .inl (cI, 12, .inl ga)), (ao, .inl (cI, 12, .inl go)), (ag, .inl (cI, 12, .inl gg)), (oq, .inl (cJ, 1, .inr (.inl fo9)))]) (va_Qi (fun (r : Int32) (_ : Unit) => r = 0) (fun _ t => tB D (va_A [(h0, .inr (5, [.ref hm, .ref hh, .ref he, .ref ha, .ref hp, .int 2])), (hm, .inr (4, [.int (nI n), .int (mI S), .int (mI Ce), .ref qh, .ref qn])), (qh, .inl (cI, 12, .inl fh)), (hh, .inr (3, [.int tn, .ref qu, .ref qo, .ref qx, .ref qy, .ref qr, .ref qw])), (qu, .inl (cI, 12, .inl fu)), (qw, .inl (cI, 12, .inl fw)), (qo, .inl (cI, 12, .inl fo)), (qx, .inl (cI, 12, .inl fx)), (qy, .inl (cI, 12, .inl fy)), (ha, .inr (0, [.ref au, .ref ao, .ref ag, .int ac])), (au, .inl (cI, 12, .inl ga)), (ao, .inl (cI, 12, .inl go)), (ag, .inl (cI, 12, .inl gg)), (oq, .inl (cJ, 1, .inr (.inl fo9)))] sz) [(h0, .inr (5, [.ref hm, .ref hh, .ref he, .ref ha, .ref hp, .int 1])), (hm, .inr (4, [.int (nI n), .int (mI S), .int (mI Ce), .ref qh, .ref qn])), (qh, .inl (cI, 12, .inl fh)), (hh, .inr (3, [.int (tn + 1), .ref qu, .ref qo, .ref qx, .ref qy, .ref qr, .ref qw])), (qu, .inl (cI, 12, .inl (rtF ga gg fu 12))), (qw, .inl (cI, 12, .inl fw)), (qo, .inl (cI, 12, .inl (fun _ => 0))), (qx, .inl (cI, 12, .inl (fun _ => 0))), (qy, .inl (cI, 12, .inl (fun _ => 0))), (ha, .inr (0, [.ref au, .ref ao, .ref ag, .int 0])), (au, .inl (cI, 12, .inl (fun _ => (-1)))), (ao, .inl (cI, 12, .inl (fun _ => (-1)))), (ag, .inl (cI, 12, .inl (fun _ => (-1)))), (oq, .inl (cJ, 1, .inr (.inl (vp_updL fo9 (0 : Int32).toNatClampNeg (1 : Int32).toInt64))))] t) (va_A [(h0, .inr (5, [.ref hm, .ref hh, .ref he, .ref ha, .ref hp, .int 2])), (hm, .inr (4, [.int (nI n), .int (mI S), .int (mI Ce), .ref qh, .ref qn])), (qh, .inl (cI, 12, .inl fh)), (hh, .inr (3, [.int tn, .ref qu, .ref qo, .ref qx, .ref qy, .ref qr, .ref qw])), (qu, .inl (cI, 12, .inl fu)), (qw, .inl (cI, 12, .inl fw)), (qo, .inl (cI, 12, .inl fo)), (qx, .inl (cI, 12, .inl fx)), (qy, .inl (cI, 12, .inl fy)), (ha, .inr (0, [.ref au, .ref ao, .ref ag, .int ac])), (au, .inl (cI, 12, .inl ga)), (ao, .inl (cI, 12, .inl go)), (ag, .inl (cI, 12, .inl gg)), (oq, .inl (cJ, 1, .inr (.inl fo9)))] sz)) 0 0 (va_A [(h0, .inr (5, [.ref hm, .ref hh, .ref he, .ref ha, .ref hp, .int 2])), (hm, .inr (4, [.int (nI n), .int (mI S), .int (mI Ce), .ref qh, .ref qn])), (qh, .inl (cI, 12, .inl fh)), (hh, .inr (3, [.int tn, .ref qu, .ref qo, .ref qx, .ref qy, .ref qr, .ref qw])), (qu, .inl (cI, 12, .inl fu)), (qw, .inl (cI, 12, .inl fw)), (qo, .inl (cI, 12, .inl fo)), (qx, .inl (cI, 12, .inl fx)), (qy, .inl (cI, 12, .inl fy)), (ha, .inr (0, [.ref au, .ref ao, .ref ag, .int ac])), (au, .inl (cI, 12, .inl ga)), (ao, .inl (cI, 12, .inl go)), (ag, .inl (cI, 12, .inl gg)), (oq, .inl (cJ, 1, .inr (.inl fo9)))] sz) := by
  refine va_MetW (cc := b_Lw_finish) (maxL := 3) (ret := (some .int)) (hh := [(0, 8, 11, 15)]) (by decide) rfl ?_
  intro p e s m args below meth c s₁ B hml hv
  obtain ⟨rfl, hsz, hP, hK, hD0, hX⟩ := hv
  have hx := B.exec
  have hb := B.bytes
  have hr := B.returns
  have hts0 := atoms_spec (ws := w_Lw_finish) B.pre
  have hts : ∀ w ∈ TB, w.before _ s = true := fun w h => hts0 w (List.mem_cons_of_mem _ h)
  have hown : s.vm.findClass "SheetWarLaw" = some m.cls := findClass_of_methodNamed B.named
  have hlocks := B.notSynchronized
  have hTab := tx_tab B (hts0 _ (List.mem_cons_self ..))
  subst hsz
  have hXl := tx_lt hX
  have hXn := tx_far hP hX
  have hD := hD0.self (sz := s.heap.size)
  generalize hAe : va_A [(h0, .inr (5, [.ref hm, .ref hh, .ref he, .ref ha, .ref hp, .int 2])), (hm, .inr (4, [.int (nI n), .int (mI S), .int (mI Ce), .ref qh, .ref qn])), (qh, .inl (cI, 12, .inl fh)), (hh, .inr (3, [.int tn, .ref qu, .ref qo, .ref qx, .ref qy, .ref qr, .ref qw])), (qu, .inl (cI, 12, .inl fu)), (qw, .inl (cI, 12, .inl fw)), (qo, .inl (cI, 12, .inl fo)), (qx, .inl (cI, 12, .inl fx)), (qy, .inl (cI, 12, .inl fy)), (ha, .inr (0, [.ref au, .ref ao, .ref ag, .int ac])), (au, .inl (cI, 12, .inl ga)), (ao, .inl (cI, 12, .inl go)), (ag, .inl (cI, 12, .inl gg)), (oq, .inl (cJ, 1, .inr (.inl fo9)))] s.heap.size = A at hD hXn ⊢
  have hA : ∀ q : Nat, s.heap.size ≤ q → A q := fun q h => by rw [← hAe]; exact Or.inr h
  have hS : va_S A s.heap s.heap [] := va_S.rf
  have hXH : s.heap[aT]? = s.heap[aT]? := rfl
  have hl := lv_entry ([.ref h0, .ref oq]) (n := 3) (Nat.le_of_ble_eq_true rfl)
  rw [lg_entry_eq]
  generalize (lg_sl ([.ref h0, .ref oq]) ++ List.replicate (3 - (lg_sl ([.ref h0, .ref oq])).length) Slot.unset).toArray = ls at hl ⊢
  have hl : lv_has ls 3 [(0, .ref h0), (1, .ref oq)] := hl
  refine lv_aload_n hx hb d_Lw_finish_0 rfl (lv_at hl 1 rfl) ?_
  refine lv_iconst (v := 0) hx hb d_Lw_finish_1 (by decide) ?_
  refine lv_aload_n hx hb d_Lw_finish_2 rfl (lv_at hl 0 rfl) ?_
  have hPc := hP.sub (ws' := [(h0, .inr (5, [.ref hm, .ref hh, .ref he, .ref ha, .ref hp, .int 2])), (hm, .inr (4, [.int (nI n), .int (mI S), .int (mI Ce), .ref qh, .ref qn])), (qh, .inl (cI, 12, .inl fh)), (hh, .inr (3, [.int tn, .ref qu, .ref qo, .ref qx, .ref qy, .ref qr, .ref qw])), (qu, .inl (cI, 12, .inl fu)), (qw, .inl (cI, 12, .inl fw)), (qo, .inl (cI, 12, .inl fo)), (qx, .inl (cI, 12, .inl fx)), (qy, .inl (cI, 12, .inl fy)), (ha, .inr (0, [.ref au, .ref ao, .ref ag, .int ac])), (au, .inl (cI, 12, .inl ga)), (ao, .inl (cI, 12, .inl go)), (ag, .inl (cI, 12, .inl gg))]) [0, 1, 2, 3, 4, 5, 6, 7, 8, 9, 10, 11, 12] rfl
  have hDc := hD.sub (ws' := [(h0, .inr (5, [.ref hm, .ref hh, .ref he, .ref ha, .ref hp, .int 2])), (hm, .inr (4, [.int (nI n), .int (mI S), .int (mI Ce), .ref qh, .ref qn])), (qh, .inl (cI, 12, .inl fh)), (hh, .inr (3, [.int tn, .ref qu, .ref qo, .ref qx, .ref qy, .ref qr, .ref qw])), (qu, .inl (cI, 12, .inl fu)), (qw, .inl (cI, 12, .inl fw)), (qo, .inl (cI, 12, .inl fo)), (qx, .inl (cI, 12, .inl fx)), (qy, .inl (cI, 12, .inl fy)), (ha, .inr (0, [.ref au, .ref ao, .ref ag, .int ac])), (au, .inl (cI, 12, .inl ga)), (ao, .inl (cI, 12, .inl go)), (ag, .inl (cI, 12, .inl gg))]) [0, 1, 2, 3, 4, 5, 6, 7, 8, 9, 10, 11, 12] (by decide) rfl
  have hFc := va_free (wc := [(h0, .inr (5, [.ref hm, .ref hh, .ref he, .ref ha, .ref hp, .int 2])), (hm, .inr (4, [.int (nI n), .int (mI S), .int (mI Ce), .ref qh, .ref qn])), (qh, .inl (cI, 12, .inl fh)), (hh, .inr (3, [.int tn, .ref qu, .ref qo, .ref qx, .ref qy, .ref qr, .ref qw])), (qu, .inl (cI, 12, .inl fu)), (qw, .inl (cI, 12, .inl fw)), (qo, .inl (cI, 12, .inl fo)), (qx, .inl (cI, 12, .inl fx)), (qy, .inl (cI, 12, .inl fy)), (ha, .inr (0, [.ref au, .ref ao, .ref ag, .int ac])), (au, .inl (cI, 12, .inl ga)), (ao, .inl (cI, 12, .inl go)), (ag, .inl (cI, 12, .inl gg))]) hD hS hA [0, 1, 2, 3, 4, 5, 6, 7, 8, 9, 10, 11, 12] rfl
  refine va_calli (va_runV (As := []) (rest := [.int 0, .ref oq]) ⟨hx, hb, hml, hown, hts⟩ (c_Sw_finishO l D cI cZ cJ cS aT ceT s.heap.size h0 hm hh he ha hp qh qn n S Ce tn qu qo qx qy qr qw fh fw fu fo fx fy ga go gg au ao ag ac hn hgg hev) (cwV 0 hts (tb_4 wd_681 wd_682 wd_683 wd_1 (tb_c wd_684)) rfl rfl rfl ⟨rfl, by decide, by decide, by decide +kernel⟩ ⟨Nat.le_of_ble_eq_true rfl, Nat.le_of_ble_eq_true rfl⟩) (tH_V hK hX (hS.2.1 aT hXl hXn) hPc hDc (q := 0) rfl rfl) rfl rfl hl.1 rfl (lv_room (Nat.le_of_ble_eq_true rfl)) d_Lw_finish_3 ⟨Nat.le_of_ble_eq_true rfl, Nat.le_of_ble_eq_true rfl⟩) hS (fun q _ h => hFc q h) hFc (fun r9 u t H1 locs ht hvm h9 hB hz1 hk1 hS => ?_)
  rw [h9]
  obtain ⟨hP1, hD1⟩ := hB
  rw [ht] at hP1
  obtain ⟨hP, hD⟩ := va_join (wr := [(oq, .inl (cJ, 1, .inr (.inl fo9)))]) (w1 := [(h0, .inr (5, [.ref hm, .ref hh, .ref he, .ref ha, .ref hp, .int 1])), (hm, .inr (4, [.int (nI n), .int (mI S), .int (mI Ce), .ref qh, .ref qn])), (qh, .inl (cI, 12, .inl fh)), (hh, .inr (3, [.int (tn + 1), .ref qu, .ref qo, .ref qx, .ref qy, .ref qr, .ref qw])), (qu, .inl (cI, 12, .inl (rtF ga gg fu 12))), (qw, .inl (cI, 12, .inl fw)), (qo, .inl (cI, 12, .inl (fun _ => 0))), (qx, .inl (cI, 12, .inl (fun _ => 0))), (qy, .inl (cI, 12, .inl (fun _ => 0))), (ha, .inr (0, [.ref au, .ref ao, .ref ag, .int 0])), (au, .inl (cI, 12, .inl (fun _ => (-1)))), (ao, .inl (cI, 12, .inl (fun _ => (-1)))), (ag, .inl (cI, 12, .inl (fun _ => (-1))))]) hP hD [0, 1, 2, 3, 4, 5, 6, 7, 8, 9, 10, 11, 12] [13] rfl rfl (by decide) (by decide) hk1 hFc hP1 hD1
  generalize H1 = H at hP hS ⊢
  have hP : va_P D vwCl [(oq, .inl (cJ, 1, .inr (.inl fo9))), (h0, .inr (5, [.ref hm, .ref hh, .ref he, .ref ha, .ref hp, .int 1])), (hm, .inr (4, [.int (nI n), .int (mI S), .int (mI Ce), .ref qh, .ref qn])), (qh, .inl (cI, 12, .inl fh)), (hh, .inr (3, [.int (tn + 1), .ref qu, .ref qo, .ref qx, .ref qy, .ref qr, .ref qw])), (qu, .inl (cI, 12, .inl (rtF ga gg fu 12))), (qw, .inl (cI, 12, .inl fw)), (qo, .inl (cI, 12, .inl (fun _ => 0))), (qx, .inl (cI, 12, .inl (fun _ => 0))), (qy, .inl (cI, 12, .inl (fun _ => 0))), (ha, .inr (0, [.ref au, .ref ao, .ref ag, .int 0])), (au, .inl (cI, 12, .inl (fun _ => (-1)))), (ao, .inl (cI, 12, .inl (fun _ => (-1)))), (ag, .inl (cI, 12, .inl (fun _ => (-1))))] H := hP
  have hD : va_D A [(oq, .inl (cJ, 1, .inr (.inl fo9))), (h0, .inr (5, [.ref hm, .ref hh, .ref he, .ref ha, .ref hp, .int 1])), (hm, .inr (4, [.int (nI n), .int (mI S), .int (mI Ce), .ref qh, .ref qn])), (qh, .inl (cI, 12, .inl fh)), (hh, .inr (3, [.int (tn + 1), .ref qu, .ref qo, .ref qx, .ref qy, .ref qr, .ref qw])), (qu, .inl (cI, 12, .inl (rtF ga gg fu 12))), (qw, .inl (cI, 12, .inl fw)), (qo, .inl (cI, 12, .inl (fun _ => 0))), (qx, .inl (cI, 12, .inl (fun _ => 0))), (qy, .inl (cI, 12, .inl (fun _ => 0))), (ha, .inr (0, [.ref au, .ref ao, .ref ag, .int 0])), (au, .inl (cI, 12, .inl (fun _ => (-1)))), (ao, .inl (cI, 12, .inl (fun _ => (-1)))), (ag, .inl (cI, 12, .inl (fun _ => (-1))))] := hD
  refine lv_i2l hx hb d_Lw_finish_6 rfl ?_
  refine va_last hx hb hK hP hD hS 0 2 rfl rfl (by unfold vp_in; decide) d_Lw_finish_7 (fun H locs hP hD hS => ?_)
  have hP : va_P D vwCl [(oq, .inl (cJ, 1, .inr (.inl (vp_updL fo9 (0 : Int32).toNatClampNeg ((1 : Int32).toInt64))))), (h0, .inr (5, [.ref hm, .ref hh, .ref he, .ref ha, .ref hp, .int 1])), (hm, .inr (4, [.int (nI n), .int (mI S), .int (mI Ce), .ref qh, .ref qn])), (qh, .inl (cI, 12, .inl fh)), (hh, .inr (3, [.int (tn + 1), .ref qu, .ref qo, .ref qx, .ref qy, .ref qr, .ref qw])), (qu, .inl (cI, 12, .inl (rtF ga gg fu 12))), (qw, .inl (cI, 12, .inl fw)), (qo, .inl (cI, 12, .inl (fun _ => 0))), (qx, .inl (cI, 12, .inl (fun _ => 0))), (qy, .inl (cI, 12, .inl (fun _ => 0))), (ha, .inr (0, [.ref au, .ref ao, .ref ag, .int 0])), (au, .inl (cI, 12, .inl (fun _ => (-1)))), (ao, .inl (cI, 12, .inl (fun _ => (-1)))), (ag, .inl (cI, 12, .inl (fun _ => (-1))))] H := hP
  have hD : va_D A [(oq, .inl (cJ, 1, .inr (.inl (vp_updL fo9 (0 : Int32).toNatClampNeg ((1 : Int32).toInt64))))), (h0, .inr (5, [.ref hm, .ref hh, .ref he, .ref ha, .ref hp, .int 1])), (hm, .inr (4, [.int (nI n), .int (mI S), .int (mI Ce), .ref qh, .ref qn])), (qh, .inl (cI, 12, .inl fh)), (hh, .inr (3, [.int (tn + 1), .ref qu, .ref qo, .ref qx, .ref qy, .ref qr, .ref qw])), (qu, .inl (cI, 12, .inl (rtF ga gg fu 12))), (qw, .inl (cI, 12, .inl fw)), (qo, .inl (cI, 12, .inl (fun _ => 0))), (qx, .inl (cI, 12, .inl (fun _ => 0))), (qy, .inl (cI, 12, .inl (fun _ => 0))), (ha, .inr (0, [.ref au, .ref ao, .ref ag, .int 0])), (au, .inl (cI, 12, .inl (fun _ => (-1)))), (ao, .inl (cI, 12, .inl (fun _ => (-1)))), (ag, .inl (cI, 12, .inl (fun _ => (-1))))] := hD
  refine lv_goto (tgt := 14) hx hb d_Lw_finish_8 (by decide) ?_
  refine lv_iconst (v := 0) hx hb d_Lw_finish_14 (by decide) ?_
  have hP9 := hP.sub (ws' := [(h0, .inr (5, [.ref hm, .ref hh, .ref he, .ref ha, .ref hp, .int 1])), (hm, .inr (4, [.int (nI n), .int (mI S), .int (mI Ce), .ref qh, .ref qn])), (qh, .inl (cI, 12, .inl fh)), (hh, .inr (3, [.int (tn + 1), .ref qu, .ref qo, .ref qx, .ref qy, .ref qr, .ref qw])), (qu, .inl (cI, 12, .inl (rtF ga gg fu 12))), (qw, .inl (cI, 12, .inl fw)), (qo, .inl (cI, 12, .inl (fun _ => 0))), (qx, .inl (cI, 12, .inl (fun _ => 0))), (qy, .inl (cI, 12, .inl (fun _ => 0))), (ha, .inr (0, [.ref au, .ref ao, .ref ag, .int 0])), (au, .inl (cI, 12, .inl (fun _ => (-1)))), (ao, .inl (cI, 12, .inl (fun _ => (-1)))), (ag, .inl (cI, 12, .inl (fun _ => (-1)))), (oq, .inl (cJ, 1, .inr (.inl (vp_updL fo9 (0 : Int32).toNatClampNeg ((1 : Int32).toInt64)))))]) [1, 2, 3, 4, 5, 6, 7, 8, 9, 10, 11, 12, 13, 0] rfl
  have hD9 := hD.sub (ws' := [(h0, .inr (5, [.ref hm, .ref hh, .ref he, .ref ha, .ref hp, .int 1])), (hm, .inr (4, [.int (nI n), .int (mI S), .int (mI Ce), .ref qh, .ref qn])), (qh, .inl (cI, 12, .inl fh)), (hh, .inr (3, [.int (tn + 1), .ref qu, .ref qo, .ref qx, .ref qy, .ref qr, .ref qw])), (qu, .inl (cI, 12, .inl (rtF ga gg fu 12))), (qw, .inl (cI, 12, .inl fw)), (qo, .inl (cI, 12, .inl (fun _ => 0))), (qx, .inl (cI, 12, .inl (fun _ => 0))), (qy, .inl (cI, 12, .inl (fun _ => 0))), (ha, .inr (0, [.ref au, .ref ao, .ref ag, .int 0])), (au, .inl (cI, 12, .inl (fun _ => (-1)))), (ao, .inl (cI, 12, .inl (fun _ => (-1)))), (ag, .inl (cI, 12, .inl (fun _ => (-1)))), (oq, .inl (cJ, 1, .inr (.inl (vp_updL fo9 (0 : Int32).toNatClampNeg ((1 : Int32).toInt64)))))]) [1, 2, 3, 4, 5, 6, 7, 8, 9, 10, 11, 12, 13, 0] (by decide) rfl
  exact W.iret (v := 0) hx hb hr (fun t ht hW => ⟨⟨0, (), rfl, rfl, by rw [ht]; exact hP9, hD9⟩, hS.F ht⟩) hS.2.2 d_Lw_finish_15


set_option maxHeartbeats 4000000 in
set_option maxRecDepth 100000 in
theorem c_Lw_finishB (l : Launch) (D : va_G) (cI cZ cJ cS : ClassId) (aT : Nat) (ceT : Cell) (sz : Nat) (h0 hm hh he ha hp : Nat) (qh qn n : Nat) (S Ce : Nat → Bool) (tn : Int32) (qu qo qx qy qr qw : Nat) (fh fw fu fo fx fy ga go gg : Nat → Int32) (au ao ag : Nat) (ac : Int32) (oq : Nat) (fo9 : Nat → Int64) (hn : n ≤ 12) (hgg : ∀ j, gg j = -1 ∨ vp_in (gg j) 12) (hev : tn - tn / 2 * 2 = 0) (hdu : anyB (bdC fh (mxI (fun j => if (Ce j && !decide ((rtF ga gg fu 12) j = -1)) = true then (rtF ga gg fu 12) j / 2 else fw j) fw n) (rtF ga gg fu 12) n) 4 = true) : Met l y_Lw_finish w_Lw_finish ({ frames := 6, cells := 0, slots := 0, locals := 127 }) (tH D cI cZ cJ cS aT ceT [.ref h0, .ref oq] sz [(h0, .inr (5, [.ref hm, .ref hh, .ref he, .ref ha, .ref hp, .int 2])), (hm, .inr (4, [.int (nI n), .int (mI S), .int (mI Ce), .ref qh, .ref qn])), (qh, .inl (cI, 12, .inl fh)), (hh, .inr (3, [.int tn, .ref qu, .ref qo, .ref qx, .ref qy, .ref qr, .ref qw])), (qu, .inl (cI, 12, .inl fu)), (qw, .inl (cI, 12, .inl fw)), (qo, .inl (cI, 12, .inl fo)), (qx, .inl (cI, 12, .inl fx)), (qy, .inl (cI, 12, .inl fy)), (ha, .inr (0, [.ref au, .ref ao, .ref ag, .int ac])), (au, .inl (cI, 12, .inl ga)), (ao, .inl (cI, 12, .inl go)), (ag, .inl (cI, 12, .inl gg)), (oq, .inl (cJ, 1, .inr (.inl fo9)))]) (va_Qi (fun (r : Int32) (_ : Unit) => r = 0) (fun _ t => tB D (va_A [(h0, .inr (5, [.ref hm, .ref hh, .ref he, .ref ha, .ref hp, .int 2])), (hm, .inr (4, [.int (nI n), .int (mI S), .int (mI Ce), .ref qh, .ref qn])), (qh, .inl (cI, 12, .inl fh)), (hh, .inr (3, [.int tn, .ref qu, .ref qo, .ref qx, .ref qy, .ref qr, .ref qw])), (qu, .inl (cI, 12, .inl fu)), (qw, .inl (cI, 12, .inl fw)), (qo, .inl (cI, 12, .inl fo)), (qx, .inl (cI, 12, .inl fx)), (qy, .inl (cI, 12, .inl fy)), (ha, .inr (0, [.ref au, .ref ao, .ref ag, .int ac])), (au, .inl (cI, 12, .inl ga)), (ao, .inl (cI, 12, .inl go)), (ag, .inl (cI, 12, .inl gg)), (oq, .inl (cJ, 1, .inr (.inl fo9)))] sz) [(h0, .inr (5, [.ref hm, .ref hh, .ref he, .ref ha, .ref hp, .int 3])), (hm, .inr (4, [.int (nI n), .int (mI S), .int (mI Ce), .ref qh, .ref qn])), (qh, .inl (cI, 12, .inl fh)), (hh, .inr (3, [.int tn, .ref qu, .ref qo, .ref qx, .ref qy, .ref qr, .ref qw])), (qu, .inl (cI, 12, .inl (rtF ga gg fu 12))), (qw, .inl (cI, 12, .inl (mxI (fun j => if (Ce j && !decide ((rtF ga gg fu 12) j = -1)) = true then (rtF ga gg fu 12) j / 2 else fw j) fw n))), (qo, .inl (cI, 12, .inl fo)), (qx, .inl (cI, 12, .inl fx)), (qy, .inl (cI, 12, .inl fy)), (ha, .inr (0, [.ref au, .ref ao, .ref ag, .int 0])), (au, .inl (cI, 12, .inl (fun _ => (-1)))), (ao, .inl (cI, 12, .inl (fun _ => (-1)))), (ag, .inl (cI, 12, .inl (fun _ => (-1)))), (oq, .inl (cJ, 1, .inr (.inl (vp_updL fo9 (0 : Int32).toNatClampNeg (3 : Int32).toInt64))))] t) (va_A [(h0, .inr (5, [.ref hm, .ref hh, .ref he, .ref ha, .ref hp, .int 2])), (hm, .inr (4, [.int (nI n), .int (mI S), .int (mI Ce), .ref qh, .ref qn])), (qh, .inl (cI, 12, .inl fh)), (hh, .inr (3, [.int tn, .ref qu, .ref qo, .ref qx, .ref qy, .ref qr, .ref qw])), (qu, .inl (cI, 12, .inl fu)), (qw, .inl (cI, 12, .inl fw)), (qo, .inl (cI, 12, .inl fo)), (qx, .inl (cI, 12, .inl fx)), (qy, .inl (cI, 12, .inl fy)), (ha, .inr (0, [.ref au, .ref ao, .ref ag, .int ac])), (au, .inl (cI, 12, .inl ga)), (ao, .inl (cI, 12, .inl go)), (ag, .inl (cI, 12, .inl gg)), (oq, .inl (cJ, 1, .inr (.inl fo9)))] sz)) 0 0 (va_A [(h0, .inr (5, [.ref hm, .ref hh, .ref he, .ref ha, .ref hp, .int 2])), (hm, .inr (4, [.int (nI n), .int (mI S), .int (mI Ce), .ref qh, .ref qn])), (qh, .inl (cI, 12, .inl fh)), (hh, .inr (3, [.int tn, .ref qu, .ref qo, .ref qx, .ref qy, .ref qr, .ref qw])), (qu, .inl (cI, 12, .inl fu)), (qw, .inl (cI, 12, .inl fw)), (qo, .inl (cI, 12, .inl fo)), (qx, .inl (cI, 12, .inl fx)), (qy, .inl (cI, 12, .inl fy)), (ha, .inr (0, [.ref au, .ref ao, .ref ag, .int ac])), (au, .inl (cI, 12, .inl ga)), (ao, .inl (cI, 12, .inl go)), (ag, .inl (cI, 12, .inl gg)), (oq, .inl (cJ, 1, .inr (.inl fo9)))] sz) := by
  refine va_MetW (cc := b_Lw_finish) (maxL := 3) (ret := (some .int)) (hh := [(0, 8, 11, 15)]) (by decide) rfl ?_
  intro p e s m args below meth c s₁ B hml hv
  obtain ⟨rfl, hsz, hP, hK, hD0, hX⟩ := hv
  have hx := B.exec
  have hb := B.bytes
  have hr := B.returns
  have hts0 := atoms_spec (ws := w_Lw_finish) B.pre
  have hts : ∀ w ∈ TB, w.before _ s = true := fun w h => hts0 w (List.mem_cons_of_mem _ h)
  have hown : s.vm.findClass "SheetWarLaw" = some m.cls := findClass_of_methodNamed B.named
  have hlocks := B.notSynchronized
  have hTab := tx_tab B (hts0 _ (List.mem_cons_self ..))
  subst hsz
  have hXl := tx_lt hX
  have hXn := tx_far hP hX
  have hD := hD0.self (sz := s.heap.size)
  generalize hAe : va_A [(h0, .inr (5, [.ref hm, .ref hh, .ref he, .ref ha, .ref hp, .int 2])), (hm, .inr (4, [.int (nI n), .int (mI S), .int (mI Ce), .ref qh, .ref qn])), (qh, .inl (cI, 12, .inl fh)), (hh, .inr (3, [.int tn, .ref qu, .ref qo, .ref qx, .ref qy, .ref qr, .ref qw])), (qu, .inl (cI, 12, .inl fu)), (qw, .inl (cI, 12, .inl fw)), (qo, .inl (cI, 12, .inl fo)), (qx, .inl (cI, 12, .inl fx)), (qy, .inl (cI, 12, .inl fy)), (ha, .inr (0, [.ref au, .ref ao, .ref ag, .int ac])), (au, .inl (cI, 12, .inl ga)), (ao, .inl (cI, 12, .inl go)), (ag, .inl (cI, 12, .inl gg)), (oq, .inl (cJ, 1, .inr (.inl fo9)))] s.heap.size = A at hD hXn ⊢
  have hA : ∀ q : Nat, s.heap.size ≤ q → A q := fun q h => by rw [← hAe]; exact Or.inr h
  have hS : va_S A s.heap s.heap [] := va_S.rf
  have hXH : s.heap[aT]? = s.heap[aT]? := rfl
  have hl := lv_entry ([.ref h0, .ref oq]) (n := 3) (Nat.le_of_ble_eq_true rfl)
  rw [lg_entry_eq]
  generalize (lg_sl ([.ref h0, .ref oq]) ++ List.replicate (3 - (lg_sl ([.ref h0, .ref oq])).length) Slot.unset).toArray = ls at hl ⊢
  have hl : lv_has ls 3 [(0, .ref h0), (1, .ref oq)] := hl
  refine lv_aload_n hx hb d_Lw_finish_0 rfl (lv_at hl 1 rfl) ?_
  refine lv_iconst (v := 0) hx hb d_Lw_finish_1 (by decide) ?_
  refine lv_aload_n hx hb d_Lw_finish_2 rfl (lv_at hl 0 rfl) ?_
  have hPc := hP.sub (ws' := [(h0, .inr (5, [.ref hm, .ref hh, .ref he, .ref ha, .ref hp, .int 2])), (hm, .inr (4, [.int (nI n), .int (mI S), .int (mI Ce), .ref qh, .ref qn])), (qh, .inl (cI, 12, .inl fh)), (hh, .inr (3, [.int tn, .ref qu, .ref qo, .ref qx, .ref qy, .ref qr, .ref qw])), (qu, .inl (cI, 12, .inl fu)), (qw, .inl (cI, 12, .inl fw)), (qo, .inl (cI, 12, .inl fo)), (qx, .inl (cI, 12, .inl fx)), (qy, .inl (cI, 12, .inl fy)), (ha, .inr (0, [.ref au, .ref ao, .ref ag, .int ac])), (au, .inl (cI, 12, .inl ga)), (ao, .inl (cI, 12, .inl go)), (ag, .inl (cI, 12, .inl gg))]) [0, 1, 2, 3, 4, 5, 6, 7, 8, 9, 10, 11, 12] rfl
  have hDc := hD.sub (ws' := [(h0, .inr (5, [.ref hm, .ref hh, .ref he, .ref ha, .ref hp, .int 2])), (hm, .inr (4, [.int (nI n), .int (mI S), .int (mI Ce), .ref qh, .ref qn])), (qh, .inl (cI, 12, .inl fh)), (hh, .inr (3, [.int tn, .ref qu, .ref qo, .ref qx, .ref qy, .ref qr, .ref qw])), (qu, .inl (cI, 12, .inl fu)), (qw, .inl (cI, 12, .inl fw)), (qo, .inl (cI, 12, .inl fo)), (qx, .inl (cI, 12, .inl fx)), (qy, .inl (cI, 12, .inl fy)), (ha, .inr (0, [.ref au, .ref ao, .ref ag, .int ac])), (au, .inl (cI, 12, .inl ga)), (ao, .inl (cI, 12, .inl go)), (ag, .inl (cI, 12, .inl gg))]) [0, 1, 2, 3, 4, 5, 6, 7, 8, 9, 10, 11, 12] (by decide) rfl
  have hFc := va_free (wc := [(h0, .inr (5, [.ref hm, .ref hh, .ref he, .ref ha, .ref hp, .int 2])), (hm, .inr (4, [.int (nI n), .int (mI S), .int (mI Ce), .ref qh, .ref qn])), (qh, .inl (cI, 12, .inl fh)), (hh, .inr (3, [.int tn, .ref qu, .ref qo, .ref qx, .ref qy, .ref qr, .ref qw])), (qu, .inl (cI, 12, .inl fu)), (qw, .inl (cI, 12, .inl fw)), (qo, .inl (cI, 12, .inl fo)), (qx, .inl (cI, 12, .inl fx)), (qy, .inl (cI, 12, .inl fy)), (ha, .inr (0, [.ref au, .ref ao, .ref ag, .int ac])), (au, .inl (cI, 12, .inl ga)), (ao, .inl (cI, 12, .inl go)), (ag, .inl (cI, 12, .inl gg))]) hD hS hA [0, 1, 2, 3, 4, 5, 6, 7, 8, 9, 10, 11, 12] rfl
  refine va_calli (va_runV (As := []) (rest := [.int 0, .ref oq]) ⟨hx, hb, hml, hown, hts⟩ (c_Sw_finishB l D cI cZ cJ cS aT ceT s.heap.size h0 hm hh he ha hp qh qn n S Ce tn qu qo qx qy qr qw fh fw fu fo fx fy ga go gg au ao ag ac hn hgg hev hdu) (cwV 0 hts (tb_4 wd_681 wd_682 wd_683 wd_1 (tb_c wd_684)) rfl rfl rfl ⟨rfl, by decide, by decide, by decide +kernel⟩ ⟨Nat.le_of_ble_eq_true rfl, Nat.le_of_ble_eq_true rfl⟩) (tH_V hK hX (hS.2.1 aT hXl hXn) hPc hDc (q := 0) rfl rfl) rfl rfl hl.1 rfl (lv_room (Nat.le_of_ble_eq_true rfl)) d_Lw_finish_3 ⟨Nat.le_of_ble_eq_true rfl, Nat.le_of_ble_eq_true rfl⟩) hS (fun q _ h => hFc q h) hFc (fun r9 u t H1 locs ht hvm h9 hB hz1 hk1 hS => ?_)
  rw [h9]
  obtain ⟨hP1, hD1⟩ := hB
  rw [ht] at hP1
  obtain ⟨hP, hD⟩ := va_join (wr := [(oq, .inl (cJ, 1, .inr (.inl fo9)))]) (w1 := [(h0, .inr (5, [.ref hm, .ref hh, .ref he, .ref ha, .ref hp, .int 3])), (hm, .inr (4, [.int (nI n), .int (mI S), .int (mI Ce), .ref qh, .ref qn])), (qh, .inl (cI, 12, .inl fh)), (hh, .inr (3, [.int tn, .ref qu, .ref qo, .ref qx, .ref qy, .ref qr, .ref qw])), (qu, .inl (cI, 12, .inl (rtF ga gg fu 12))), (qw, .inl (cI, 12, .inl (mxI (fun j => if (Ce j && !decide ((rtF ga gg fu 12) j = -1)) = true then (rtF ga gg fu 12) j / 2 else fw j) fw n))), (qo, .inl (cI, 12, .inl fo)), (qx, .inl (cI, 12, .inl fx)), (qy, .inl (cI, 12, .inl fy)), (ha, .inr (0, [.ref au, .ref ao, .ref ag, .int 0])), (au, .inl (cI, 12, .inl (fun _ => (-1)))), (ao, .inl (cI, 12, .inl (fun _ => (-1)))), (ag, .inl (cI, 12, .inl (fun _ => (-1))))]) hP hD [0, 1, 2, 3, 4, 5, 6, 7, 8, 9, 10, 11, 12] [13] rfl rfl (by decide) (by decide) hk1 hFc hP1 hD1
  generalize H1 = H at hP hS ⊢
  have hP : va_P D vwCl [(oq, .inl (cJ, 1, .inr (.inl fo9))), (h0, .inr (5, [.ref hm, .ref hh, .ref he, .ref ha, .ref hp, .int 3])), (hm, .inr (4, [.int (nI n), .int (mI S), .int (mI Ce), .ref qh, .ref qn])), (qh, .inl (cI, 12, .inl fh)), (hh, .inr (3, [.int tn, .ref qu, .ref qo, .ref qx, .ref qy, .ref qr, .ref qw])), (qu, .inl (cI, 12, .inl (rtF ga gg fu 12))), (qw, .inl (cI, 12, .inl (mxI (fun j => if (Ce j && !decide ((rtF ga gg fu 12) j = -1)) = true then (rtF ga gg fu 12) j / 2 else fw j) fw n))), (qo, .inl (cI, 12, .inl fo)), (qx, .inl (cI, 12, .inl fx)), (qy, .inl (cI, 12, .inl fy)), (ha, .inr (0, [.ref au, .ref ao, .ref ag, .int 0])), (au, .inl (cI, 12, .inl (fun _ => (-1)))), (ao, .inl (cI, 12, .inl (fun _ => (-1)))), (ag, .inl (cI, 12, .inl (fun _ => (-1))))] H := hP
  have hD : va_D A [(oq, .inl (cJ, 1, .inr (.inl fo9))), (h0, .inr (5, [.ref hm, .ref hh, .ref he, .ref ha, .ref hp, .int 3])), (hm, .inr (4, [.int (nI n), .int (mI S), .int (mI Ce), .ref qh, .ref qn])), (qh, .inl (cI, 12, .inl fh)), (hh, .inr (3, [.int tn, .ref qu, .ref qo, .ref qx, .ref qy, .ref qr, .ref qw])), (qu, .inl (cI, 12, .inl (rtF ga gg fu 12))), (qw, .inl (cI, 12, .inl (mxI (fun j => if (Ce j && !decide ((rtF ga gg fu 12) j = -1)) = true then (rtF ga gg fu 12) j / 2 else fw j) fw n))), (qo, .inl (cI, 12, .inl fo)), (qx, .inl (cI, 12, .inl fx)), (qy, .inl (cI, 12, .inl fy)), (ha, .inr (0, [.ref au, .ref ao, .ref ag, .int 0])), (au, .inl (cI, 12, .inl (fun _ => (-1)))), (ao, .inl (cI, 12, .inl (fun _ => (-1)))), (ag, .inl (cI, 12, .inl (fun _ => (-1))))] := hD
  refine lv_i2l hx hb d_Lw_finish_6 rfl ?_
  refine va_last hx hb hK hP hD hS 0 2 rfl rfl (by unfold vp_in; decide) d_Lw_finish_7 (fun H locs hP hD hS => ?_)
  have hP : va_P D vwCl [(oq, .inl (cJ, 1, .inr (.inl (vp_updL fo9 (0 : Int32).toNatClampNeg ((3 : Int32).toInt64))))), (h0, .inr (5, [.ref hm, .ref hh, .ref he, .ref ha, .ref hp, .int 3])), (hm, .inr (4, [.int (nI n), .int (mI S), .int (mI Ce), .ref qh, .ref qn])), (qh, .inl (cI, 12, .inl fh)), (hh, .inr (3, [.int tn, .ref qu, .ref qo, .ref qx, .ref qy, .ref qr, .ref qw])), (qu, .inl (cI, 12, .inl (rtF ga gg fu 12))), (qw, .inl (cI, 12, .inl (mxI (fun j => if (Ce j && !decide ((rtF ga gg fu 12) j = -1)) = true then (rtF ga gg fu 12) j / 2 else fw j) fw n))), (qo, .inl (cI, 12, .inl fo)), (qx, .inl (cI, 12, .inl fx)), (qy, .inl (cI, 12, .inl fy)), (ha, .inr (0, [.ref au, .ref ao, .ref ag, .int 0])), (au, .inl (cI, 12, .inl (fun _ => (-1)))), (ao, .inl (cI, 12, .inl (fun _ => (-1)))), (ag, .inl (cI, 12, .inl (fun _ => (-1))))] H := hP
  have hD : va_D A [(oq, .inl (cJ, 1, .inr (.inl (vp_updL fo9 (0 : Int32).toNatClampNeg ((3 : Int32).toInt64))))), (h0, .inr (5, [.ref hm, .ref hh, .ref he, .ref ha, .ref hp, .int 3])), (hm, .inr (4, [.int (nI n), .int (mI S), .int (mI Ce), .ref qh, .ref qn])), (qh, .inl (cI, 12, .inl fh)), (hh, .inr (3, [.int tn, .ref qu, .ref qo, .ref qx, .ref qy, .ref qr, .ref qw])), (qu, .inl (cI, 12, .inl (rtF ga gg fu 12))), (qw, .inl (cI, 12, .inl (mxI (fun j => if (Ce j && !decide ((rtF ga gg fu 12) j = -1)) = true then (rtF ga gg fu 12) j / 2 else fw j) fw n))), (qo, .inl (cI, 12, .inl fo)), (qx, .inl (cI, 12, .inl fx)), (qy, .inl (cI, 12, .inl fy)), (ha, .inr (0, [.ref au, .ref ao, .ref ag, .int 0])), (au, .inl (cI, 12, .inl (fun _ => (-1)))), (ao, .inl (cI, 12, .inl (fun _ => (-1)))), (ag, .inl (cI, 12, .inl (fun _ => (-1))))] := hD
  refine lv_goto (tgt := 14) hx hb d_Lw_finish_8 (by decide) ?_
  refine lv_iconst (v := 0) hx hb d_Lw_finish_14 (by decide) ?_
  have hP9 := hP.sub (ws' := [(h0, .inr (5, [.ref hm, .ref hh, .ref he, .ref ha, .ref hp, .int 3])), (hm, .inr (4, [.int (nI n), .int (mI S), .int (mI Ce), .ref qh, .ref qn])), (qh, .inl (cI, 12, .inl fh)), (hh, .inr (3, [.int tn, .ref qu, .ref qo, .ref qx, .ref qy, .ref qr, .ref qw])), (qu, .inl (cI, 12, .inl (rtF ga gg fu 12))), (qw, .inl (cI, 12, .inl (mxI (fun j => if (Ce j && !decide ((rtF ga gg fu 12) j = -1)) = true then (rtF ga gg fu 12) j / 2 else fw j) fw n))), (qo, .inl (cI, 12, .inl fo)), (qx, .inl (cI, 12, .inl fx)), (qy, .inl (cI, 12, .inl fy)), (ha, .inr (0, [.ref au, .ref ao, .ref ag, .int 0])), (au, .inl (cI, 12, .inl (fun _ => (-1)))), (ao, .inl (cI, 12, .inl (fun _ => (-1)))), (ag, .inl (cI, 12, .inl (fun _ => (-1)))), (oq, .inl (cJ, 1, .inr (.inl (vp_updL fo9 (0 : Int32).toNatClampNeg ((3 : Int32).toInt64)))))]) [1, 2, 3, 4, 5, 6, 7, 8, 9, 10, 11, 12, 13, 0] rfl
  have hD9 := hD.sub (ws' := [(h0, .inr (5, [.ref hm, .ref hh, .ref he, .ref ha, .ref hp, .int 3])), (hm, .inr (4, [.int (nI n), .int (mI S), .int (mI Ce), .ref qh, .ref qn])), (qh, .inl (cI, 12, .inl fh)), (hh, .inr (3, [.int tn, .ref qu, .ref qo, .ref qx, .ref qy, .ref qr, .ref qw])), (qu, .inl (cI, 12, .inl (rtF ga gg fu 12))), (qw, .inl (cI, 12, .inl (mxI (fun j => if (Ce j && !decide ((rtF ga gg fu 12) j = -1)) = true then (rtF ga gg fu 12) j / 2 else fw j) fw n))), (qo, .inl (cI, 12, .inl fo)), (qx, .inl (cI, 12, .inl fx)), (qy, .inl (cI, 12, .inl fy)), (ha, .inr (0, [.ref au, .ref ao, .ref ag, .int 0])), (au, .inl (cI, 12, .inl (fun _ => (-1)))), (ao, .inl (cI, 12, .inl (fun _ => (-1)))), (ag, .inl (cI, 12, .inl (fun _ => (-1)))), (oq, .inl (cJ, 1, .inr (.inl (vp_updL fo9 (0 : Int32).toNatClampNeg ((3 : Int32).toInt64)))))]) [1, 2, 3, 4, 5, 6, 7, 8, 9, 10, 11, 12, 13, 0] (by decide) rfl
  exact W.iret (v := 0) hx hb hr (fun t ht hW => ⟨⟨0, (), rfl, rfl, by rw [ht]; exact hP9, hD9⟩, hS.F ht⟩) hS.2.2 d_Lw_finish_15


set_option maxHeartbeats 4000000 in
set_option maxRecDepth 100000 in
theorem c_Lw_finishN (l : Launch) (D : va_G) (cI cZ cJ cS : ClassId) (aT : Nat) (ceT : Cell) (sz : Nat) (h0 hm hh he ha hp : Nat) (qh qn n : Nat) (S Ce : Nat → Bool) (tn : Int32) (qu qo qx qy qr qw : Nat) (fh fw fu fo fx fy ga go gg : Nat → Int32) (au ao ag : Nat) (ac : Int32) (oq : Nat) (fo9 : Nat → Int64) (hn : n ≤ 12) (hgg : ∀ j, gg j = -1 ∨ vp_in (gg j) 12) (hev : tn - tn / 2 * 2 = 0) (hdu : anyB (bdC fh (mxI (fun j => if (Ce j && !decide ((rtF ga gg fu 12) j = -1)) = true then (rtF ga gg fu 12) j / 2 else fw j) fw n) (rtF ga gg fu 12) n) 4 = false) : Met l y_Lw_finish w_Lw_finish ({ frames := 6, cells := 0, slots := 0, locals := 127 }) (tH D cI cZ cJ cS aT ceT [.ref h0, .ref oq] sz [(h0, .inr (5, [.ref hm, .ref hh, .ref he, .ref ha, .ref hp, .int 2])), (hm, .inr (4, [.int (nI n), .int (mI S), .int (mI Ce), .ref qh, .ref qn])), (qh, .inl (cI, 12, .inl fh)), (hh, .inr (3, [.int tn, .ref qu, .ref qo, .ref qx, .ref qy, .ref qr, .ref qw])), (qu, .inl (cI, 12, .inl fu)), (qw, .inl (cI, 12, .inl fw)), (qo, .inl (cI, 12, .inl fo)), (qx, .inl (cI, 12, .inl fx)), (qy, .inl (cI, 12, .inl fy)), (ha, .inr (0, [.ref au, .ref ao, .ref ag, .int ac])), (au, .inl (cI, 12, .inl ga)), (ao, .inl (cI, 12, .inl go)), (ag, .inl (cI, 12, .inl gg)), (oq, .inl (cJ, 1, .inr (.inl fo9)))]) (va_Qi (fun (r : Int32) (_ : Unit) => r = 0) (fun _ t => tB D (va_A [(h0, .inr (5, [.ref hm, .ref hh, .ref he, .ref ha, .ref hp, .int 2])), (hm, .inr (4, [.int (nI n), .int (mI S), .int (mI Ce), .ref qh, .ref qn])), (qh, .inl (cI, 12, .inl fh)), (hh, .inr (3, [.int tn, .ref qu, .ref qo, .ref qx, .ref qy, .ref qr, .ref qw])), (qu, .inl (cI, 12, .inl fu)), (qw, .inl (cI, 12, .inl fw)), (qo, .inl (cI, 12, .inl fo)), (qx, .inl (cI, 12, .inl fx)), (qy, .inl (cI, 12, .inl fy)), (ha, .inr (0, [.ref au, .ref ao, .ref ag, .int ac])), (au, .inl (cI, 12, .inl ga)), (ao, .inl (cI, 12, .inl go)), (ag, .inl (cI, 12, .inl gg)), (oq, .inl (cJ, 1, .inr (.inl fo9)))] sz) [(h0, .inr (5, [.ref hm, .ref hh, .ref he, .ref ha, .ref hp, .int 1])), (hm, .inr (4, [.int (nI n), .int (mI S), .int (mI Ce), .ref qh, .ref qn])), (qh, .inl (cI, 12, .inl fh)), (hh, .inr (3, [.int (tn + 1), .ref qu, .ref qo, .ref qx, .ref qy, .ref qr, .ref qw])), (qu, .inl (cI, 12, .inl (rtF ga gg fu 12))), (qw, .inl (cI, 12, .inl (mxI (fun j => if (Ce j && !decide ((rtF ga gg fu 12) j = -1)) = true then (rtF ga gg fu 12) j / 2 else fw j) fw n))), (qo, .inl (cI, 12, .inl (fun _ => 0))), (qx, .inl (cI, 12, .inl (fun _ => 0))), (qy, .inl (cI, 12, .inl (fun _ => 0))), (ha, .inr (0, [.ref au, .ref ao, .ref ag, .int 0])), (au, .inl (cI, 12, .inl (fun _ => (-1)))), (ao, .inl (cI, 12, .inl (fun _ => (-1)))), (ag, .inl (cI, 12, .inl (fun _ => (-1)))), (oq, .inl (cJ, 1, .inr (.inl (vp_updL fo9 (0 : Int32).toNatClampNeg (1 : Int32).toInt64))))] t) (va_A [(h0, .inr (5, [.ref hm, .ref hh, .ref he, .ref ha, .ref hp, .int 2])), (hm, .inr (4, [.int (nI n), .int (mI S), .int (mI Ce), .ref qh, .ref qn])), (qh, .inl (cI, 12, .inl fh)), (hh, .inr (3, [.int tn, .ref qu, .ref qo, .ref qx, .ref qy, .ref qr, .ref qw])), (qu, .inl (cI, 12, .inl fu)), (qw, .inl (cI, 12, .inl fw)), (qo, .inl (cI, 12, .inl fo)), (qx, .inl (cI, 12, .inl fx)), (qy, .inl (cI, 12, .inl fy)), (ha, .inr (0, [.ref au, .ref ao, .ref ag, .int ac])), (au, .inl (cI, 12, .inl ga)), (ao, .inl (cI, 12, .inl go)), (ag, .inl (cI, 12, .inl gg)), (oq, .inl (cJ, 1, .inr (.inl fo9)))] sz)) 0 0 (va_A [(h0, .inr (5, [.ref hm, .ref hh, .ref he, .ref ha, .ref hp, .int 2])), (hm, .inr (4, [.int (nI n), .int (mI S), .int (mI Ce), .ref qh, .ref qn])), (qh, .inl (cI, 12, .inl fh)), (hh, .inr (3, [.int tn, .ref qu, .ref qo, .ref qx, .ref qy, .ref qr, .ref qw])), (qu, .inl (cI, 12, .inl fu)), (qw, .inl (cI, 12, .inl fw)), (qo, .inl (cI, 12, .inl fo)), (qx, .inl (cI, 12, .inl fx)), (qy, .inl (cI, 12, .inl fy)), (ha, .inr (0, [.ref au, .ref ao, .ref ag, .int ac])), (au, .inl (cI, 12, .inl ga)), (ao, .inl (cI, 12, .inl go)), (ag, .inl (cI, 12, .inl gg)), (oq, .inl (cJ, 1, .inr (.inl fo9)))] sz) := by
  refine va_MetW (cc := b_Lw_finish) (maxL := 3) (ret := (some .int)) (hh := [(0, 8, 11, 15)]) (by decide) rfl ?_
  intro p e s m args below meth c s₁ B hml hv
  obtain ⟨rfl, hsz, hP, hK, hD0, hX⟩ := hv
  have hx := B.exec
  have hb := B.bytes
  have hr := B.returns
  have hts0 := atoms_spec (ws := w_Lw_finish) B.pre
  have hts : ∀ w ∈ TB, w.before _ s = true := fun w h => hts0 w (List.mem_cons_of_mem _ h)
  have hown : s.vm.findClass "SheetWarLaw" = some m.cls := findClass_of_methodNamed B.named
  have hlocks := B.notSynchronized
  have hTab := tx_tab B (hts0 _ (List.mem_cons_self ..))
  subst hsz
  have hXl := tx_lt hX
  have hXn := tx_far hP hX
  have hD := hD0.self (sz := s.heap.size)
  generalize hAe : va_A [(h0, .inr (5, [.ref hm, .ref hh, .ref he, .ref ha, .ref hp, .int 2])), (hm, .inr (4, [.int (nI n), .int (mI S), .int (mI Ce), .ref qh, .ref qn])), (qh, .inl (cI, 12, .inl fh)), (hh, .inr (3, [.int tn, .ref qu, .ref qo, .ref qx, .ref qy, .ref qr, .ref qw])), (qu, .inl (cI, 12, .inl fu)), (qw, .inl (cI, 12, .inl fw)), (qo, .inl (cI, 12, .inl fo)), (qx, .inl (cI, 12, .inl fx)), (qy, .inl (cI, 12, .inl fy)), (ha, .inr (0, [.ref au, .ref ao, .ref ag, .int ac])), (au, .inl (cI, 12, .inl ga)), (ao, .inl (cI, 12, .inl go)), (ag, .inl (cI, 12, .inl gg)), (oq, .inl (cJ, 1, .inr (.inl fo9)))] s.heap.size = A at hD hXn ⊢
  have hA : ∀ q : Nat, s.heap.size ≤ q → A q := fun q h => by rw [← hAe]; exact Or.inr h
  have hS : va_S A s.heap s.heap [] := va_S.rf
  have hXH : s.heap[aT]? = s.heap[aT]? := rfl
  have hl := lv_entry ([.ref h0, .ref oq]) (n := 3) (Nat.le_of_ble_eq_true rfl)
  rw [lg_entry_eq]
  generalize (lg_sl ([.ref h0, .ref oq]) ++ List.replicate (3 - (lg_sl ([.ref h0, .ref oq])).length) Slot.unset).toArray = ls at hl ⊢
  have hl : lv_has ls 3 [(0, .ref h0), (1, .ref oq)] := hl
  refine lv_aload_n hx hb d_Lw_finish_0 rfl (lv_at hl 1 rfl) ?_
  refine lv_iconst (v := 0) hx hb d_Lw_finish_1 (by decide) ?_
  refine lv_aload_n hx hb d_Lw_finish_2 rfl (lv_at hl 0 rfl) ?_
  have hPc := hP.sub (ws' := [(h0, .inr (5, [.ref hm, .ref hh, .ref he, .ref ha, .ref hp, .int 2])), (hm, .inr (4, [.int (nI n), .int (mI S), .int (mI Ce), .ref qh, .ref qn])), (qh, .inl (cI, 12, .inl fh)), (hh, .inr (3, [.int tn, .ref qu, .ref qo, .ref qx, .ref qy, .ref qr, .ref qw])), (qu, .inl (cI, 12, .inl fu)), (qw, .inl (cI, 12, .inl fw)), (qo, .inl (cI, 12, .inl fo)), (qx, .inl (cI, 12, .inl fx)), (qy, .inl (cI, 12, .inl fy)), (ha, .inr (0, [.ref au, .ref ao, .ref ag, .int ac])), (au, .inl (cI, 12, .inl ga)), (ao, .inl (cI, 12, .inl go)), (ag, .inl (cI, 12, .inl gg))]) [0, 1, 2, 3, 4, 5, 6, 7, 8, 9, 10, 11, 12] rfl
  have hDc := hD.sub (ws' := [(h0, .inr (5, [.ref hm, .ref hh, .ref he, .ref ha, .ref hp, .int 2])), (hm, .inr (4, [.int (nI n), .int (mI S), .int (mI Ce), .ref qh, .ref qn])), (qh, .inl (cI, 12, .inl fh)), (hh, .inr (3, [.int tn, .ref qu, .ref qo, .ref qx, .ref qy, .ref qr, .ref qw])), (qu, .inl (cI, 12, .inl fu)), (qw, .inl (cI, 12, .inl fw)), (qo, .inl (cI, 12, .inl fo)), (qx, .inl (cI, 12, .inl fx)), (qy, .inl (cI, 12, .inl fy)), (ha, .inr (0, [.ref au, .ref ao, .ref ag, .int ac])), (au, .inl (cI, 12, .inl ga)), (ao, .inl (cI, 12, .inl go)), (ag, .inl (cI, 12, .inl gg))]) [0, 1, 2, 3, 4, 5, 6, 7, 8, 9, 10, 11, 12] (by decide) rfl
  have hFc := va_free (wc := [(h0, .inr (5, [.ref hm, .ref hh, .ref he, .ref ha, .ref hp, .int 2])), (hm, .inr (4, [.int (nI n), .int (mI S), .int (mI Ce), .ref qh, .ref qn])), (qh, .inl (cI, 12, .inl fh)), (hh, .inr (3, [.int tn, .ref qu, .ref qo, .ref qx, .ref qy, .ref qr, .ref qw])), (qu, .inl (cI, 12, .inl fu)), (qw, .inl (cI, 12, .inl fw)), (qo, .inl (cI, 12, .inl fo)), (qx, .inl (cI, 12, .inl fx)), (qy, .inl (cI, 12, .inl fy)), (ha, .inr (0, [.ref au, .ref ao, .ref ag, .int ac])), (au, .inl (cI, 12, .inl ga)), (ao, .inl (cI, 12, .inl go)), (ag, .inl (cI, 12, .inl gg))]) hD hS hA [0, 1, 2, 3, 4, 5, 6, 7, 8, 9, 10, 11, 12] rfl
  refine va_calli (va_runV (As := []) (rest := [.int 0, .ref oq]) ⟨hx, hb, hml, hown, hts⟩ (c_Sw_finishN l D cI cZ cJ cS aT ceT s.heap.size h0 hm hh he ha hp qh qn n S Ce tn qu qo qx qy qr qw fh fw fu fo fx fy ga go gg au ao ag ac hn hgg hev hdu) (cwV 0 hts (tb_4 wd_681 wd_682 wd_683 wd_1 (tb_c wd_684)) rfl rfl rfl ⟨rfl, by decide, by decide, by decide +kernel⟩ ⟨Nat.le_of_ble_eq_true rfl, Nat.le_of_ble_eq_true rfl⟩) (tH_V hK hX (hS.2.1 aT hXl hXn) hPc hDc (q := 0) rfl rfl) rfl rfl hl.1 rfl (lv_room (Nat.le_of_ble_eq_true rfl)) d_Lw_finish_3 ⟨Nat.le_of_ble_eq_true rfl, Nat.le_of_ble_eq_true rfl⟩) hS (fun q _ h => hFc q h) hFc (fun r9 u t H1 locs ht hvm h9 hB hz1 hk1 hS => ?_)
  rw [h9]
  obtain ⟨hP1, hD1⟩ := hB
  rw [ht] at hP1
  obtain ⟨hP, hD⟩ := va_join (wr := [(oq, .inl (cJ, 1, .inr (.inl fo9)))]) (w1 := [(h0, .inr (5, [.ref hm, .ref hh, .ref he, .ref ha, .ref hp, .int 1])), (hm, .inr (4, [.int (nI n), .int (mI S), .int (mI Ce), .ref qh, .ref qn])), (qh, .inl (cI, 12, .inl fh)), (hh, .inr (3, [.int (tn + 1), .ref qu, .ref qo, .ref qx, .ref qy, .ref qr, .ref qw])), (qu, .inl (cI, 12, .inl (rtF ga gg fu 12))), (qw, .inl (cI, 12, .inl (mxI (fun j => if (Ce j && !decide ((rtF ga gg fu 12) j = -1)) = true then (rtF ga gg fu 12) j / 2 else fw j) fw n))), (qo, .inl (cI, 12, .inl (fun _ => 0))), (qx, .inl (cI, 12, .inl (fun _ => 0))), (qy, .inl (cI, 12, .inl (fun _ => 0))), (ha, .inr (0, [.ref au, .ref ao, .ref ag, .int 0])), (au, .inl (cI, 12, .inl (fun _ => (-1)))), (ao, .inl (cI, 12, .inl (fun _ => (-1)))), (ag, .inl (cI, 12, .inl (fun _ => (-1))))]) hP hD [0, 1, 2, 3, 4, 5, 6, 7, 8, 9, 10, 11, 12] [13] rfl rfl (by decide) (by decide) hk1 hFc hP1 hD1
  generalize H1 = H at hP hS ⊢
  have hP : va_P D vwCl [(oq, .inl (cJ, 1, .inr (.inl fo9))), (h0, .inr (5, [.ref hm, .ref hh, .ref he, .ref ha, .ref hp, .int 1])), (hm, .inr (4, [.int (nI n), .int (mI S), .int (mI Ce), .ref qh, .ref qn])), (qh, .inl (cI, 12, .inl fh)), (hh, .inr (3, [.int (tn + 1), .ref qu, .ref qo, .ref qx, .ref qy, .ref qr, .ref qw])), (qu, .inl (cI, 12, .inl (rtF ga gg fu 12))), (qw, .inl (cI, 12, .inl (mxI (fun j => if (Ce j && !decide ((rtF ga gg fu 12) j = -1)) = true then (rtF ga gg fu 12) j / 2 else fw j) fw n))), (qo, .inl (cI, 12, .inl (fun _ => 0))), (qx, .inl (cI, 12, .inl (fun _ => 0))), (qy, .inl (cI, 12, .inl (fun _ => 0))), (ha, .inr (0, [.ref au, .ref ao, .ref ag, .int 0])), (au, .inl (cI, 12, .inl (fun _ => (-1)))), (ao, .inl (cI, 12, .inl (fun _ => (-1)))), (ag, .inl (cI, 12, .inl (fun _ => (-1))))] H := hP
  have hD : va_D A [(oq, .inl (cJ, 1, .inr (.inl fo9))), (h0, .inr (5, [.ref hm, .ref hh, .ref he, .ref ha, .ref hp, .int 1])), (hm, .inr (4, [.int (nI n), .int (mI S), .int (mI Ce), .ref qh, .ref qn])), (qh, .inl (cI, 12, .inl fh)), (hh, .inr (3, [.int (tn + 1), .ref qu, .ref qo, .ref qx, .ref qy, .ref qr, .ref qw])), (qu, .inl (cI, 12, .inl (rtF ga gg fu 12))), (qw, .inl (cI, 12, .inl (mxI (fun j => if (Ce j && !decide ((rtF ga gg fu 12) j = -1)) = true then (rtF ga gg fu 12) j / 2 else fw j) fw n))), (qo, .inl (cI, 12, .inl (fun _ => 0))), (qx, .inl (cI, 12, .inl (fun _ => 0))), (qy, .inl (cI, 12, .inl (fun _ => 0))), (ha, .inr (0, [.ref au, .ref ao, .ref ag, .int 0])), (au, .inl (cI, 12, .inl (fun _ => (-1)))), (ao, .inl (cI, 12, .inl (fun _ => (-1)))), (ag, .inl (cI, 12, .inl (fun _ => (-1))))] := hD
  refine lv_i2l hx hb d_Lw_finish_6 rfl ?_
  refine va_last hx hb hK hP hD hS 0 2 rfl rfl (by unfold vp_in; decide) d_Lw_finish_7 (fun H locs hP hD hS => ?_)
  have hP : va_P D vwCl [(oq, .inl (cJ, 1, .inr (.inl (vp_updL fo9 (0 : Int32).toNatClampNeg ((1 : Int32).toInt64))))), (h0, .inr (5, [.ref hm, .ref hh, .ref he, .ref ha, .ref hp, .int 1])), (hm, .inr (4, [.int (nI n), .int (mI S), .int (mI Ce), .ref qh, .ref qn])), (qh, .inl (cI, 12, .inl fh)), (hh, .inr (3, [.int (tn + 1), .ref qu, .ref qo, .ref qx, .ref qy, .ref qr, .ref qw])), (qu, .inl (cI, 12, .inl (rtF ga gg fu 12))), (qw, .inl (cI, 12, .inl (mxI (fun j => if (Ce j && !decide ((rtF ga gg fu 12) j = -1)) = true then (rtF ga gg fu 12) j / 2 else fw j) fw n))), (qo, .inl (cI, 12, .inl (fun _ => 0))), (qx, .inl (cI, 12, .inl (fun _ => 0))), (qy, .inl (cI, 12, .inl (fun _ => 0))), (ha, .inr (0, [.ref au, .ref ao, .ref ag, .int 0])), (au, .inl (cI, 12, .inl (fun _ => (-1)))), (ao, .inl (cI, 12, .inl (fun _ => (-1)))), (ag, .inl (cI, 12, .inl (fun _ => (-1))))] H := hP
  have hD : va_D A [(oq, .inl (cJ, 1, .inr (.inl (vp_updL fo9 (0 : Int32).toNatClampNeg ((1 : Int32).toInt64))))), (h0, .inr (5, [.ref hm, .ref hh, .ref he, .ref ha, .ref hp, .int 1])), (hm, .inr (4, [.int (nI n), .int (mI S), .int (mI Ce), .ref qh, .ref qn])), (qh, .inl (cI, 12, .inl fh)), (hh, .inr (3, [.int (tn + 1), .ref qu, .ref qo, .ref qx, .ref qy, .ref qr, .ref qw])), (qu, .inl (cI, 12, .inl (rtF ga gg fu 12))), (qw, .inl (cI, 12, .inl (mxI (fun j => if (Ce j && !decide ((rtF ga gg fu 12) j = -1)) = true then (rtF ga gg fu 12) j / 2 else fw j) fw n))), (qo, .inl (cI, 12, .inl (fun _ => 0))), (qx, .inl (cI, 12, .inl (fun _ => 0))), (qy, .inl (cI, 12, .inl (fun _ => 0))), (ha, .inr (0, [.ref au, .ref ao, .ref ag, .int 0])), (au, .inl (cI, 12, .inl (fun _ => (-1)))), (ao, .inl (cI, 12, .inl (fun _ => (-1)))), (ag, .inl (cI, 12, .inl (fun _ => (-1))))] := hD
  refine lv_goto (tgt := 14) hx hb d_Lw_finish_8 (by decide) ?_
  refine lv_iconst (v := 0) hx hb d_Lw_finish_14 (by decide) ?_
  have hP9 := hP.sub (ws' := [(h0, .inr (5, [.ref hm, .ref hh, .ref he, .ref ha, .ref hp, .int 1])), (hm, .inr (4, [.int (nI n), .int (mI S), .int (mI Ce), .ref qh, .ref qn])), (qh, .inl (cI, 12, .inl fh)), (hh, .inr (3, [.int (tn + 1), .ref qu, .ref qo, .ref qx, .ref qy, .ref qr, .ref qw])), (qu, .inl (cI, 12, .inl (rtF ga gg fu 12))), (qw, .inl (cI, 12, .inl (mxI (fun j => if (Ce j && !decide ((rtF ga gg fu 12) j = -1)) = true then (rtF ga gg fu 12) j / 2 else fw j) fw n))), (qo, .inl (cI, 12, .inl (fun _ => 0))), (qx, .inl (cI, 12, .inl (fun _ => 0))), (qy, .inl (cI, 12, .inl (fun _ => 0))), (ha, .inr (0, [.ref au, .ref ao, .ref ag, .int 0])), (au, .inl (cI, 12, .inl (fun _ => (-1)))), (ao, .inl (cI, 12, .inl (fun _ => (-1)))), (ag, .inl (cI, 12, .inl (fun _ => (-1)))), (oq, .inl (cJ, 1, .inr (.inl (vp_updL fo9 (0 : Int32).toNatClampNeg ((1 : Int32).toInt64)))))]) [1, 2, 3, 4, 5, 6, 7, 8, 9, 10, 11, 12, 13, 0] rfl
  have hD9 := hD.sub (ws' := [(h0, .inr (5, [.ref hm, .ref hh, .ref he, .ref ha, .ref hp, .int 1])), (hm, .inr (4, [.int (nI n), .int (mI S), .int (mI Ce), .ref qh, .ref qn])), (qh, .inl (cI, 12, .inl fh)), (hh, .inr (3, [.int (tn + 1), .ref qu, .ref qo, .ref qx, .ref qy, .ref qr, .ref qw])), (qu, .inl (cI, 12, .inl (rtF ga gg fu 12))), (qw, .inl (cI, 12, .inl (mxI (fun j => if (Ce j && !decide ((rtF ga gg fu 12) j = -1)) = true then (rtF ga gg fu 12) j / 2 else fw j) fw n))), (qo, .inl (cI, 12, .inl (fun _ => 0))), (qx, .inl (cI, 12, .inl (fun _ => 0))), (qy, .inl (cI, 12, .inl (fun _ => 0))), (ha, .inr (0, [.ref au, .ref ao, .ref ag, .int 0])), (au, .inl (cI, 12, .inl (fun _ => (-1)))), (ao, .inl (cI, 12, .inl (fun _ => (-1)))), (ag, .inl (cI, 12, .inl (fun _ => (-1)))), (oq, .inl (cJ, 1, .inr (.inl (vp_updL fo9 (0 : Int32).toNatClampNeg ((1 : Int32).toInt64)))))]) [1, 2, 3, 4, 5, 6, 7, 8, 9, 10, 11, 12, 13, 0] (by decide) rfl
  exact W.iret (v := 0) hx hb hr (fun t ht hW => ⟨⟨0, (), rfl, rfl, by rw [ht]; exact hP9, hD9⟩, hS.F ht⟩) hS.2.2 d_Lw_finish_15


set_option maxHeartbeats 4000000 in
set_option maxRecDepth 100000 in
theorem c_Lw_finish3 (l : Launch) (D : va_G) (cI cZ cJ cS : ClassId) (aT : Nat) (ceT : Cell) (sz : Nat) (h0 hm hh he ha hp : Nat) (qh qn n : Nat) (S Ce : Nat → Bool) (tn : Int32) (qu qo qx qy qr qw : Nat) (fw fu fo fx fy : Nat → Int32) (oq : Nat) (fo9 : Nat → Int64) (hn : n ≤ 12) : Met l y_Lw_finish w_Lw_finish ({ frames := 5, cells := 0, slots := 0, locals := 106 }) (tH D cI cZ cJ cS aT ceT [.ref h0, .ref oq] sz [(h0, .inr (5, [.ref hm, .ref hh, .ref he, .ref ha, .ref hp, .int 3])), (hm, .inr (4, [.int (nI n), .int (mI S), .int (mI Ce), .ref qh, .ref qn])), (hh, .inr (3, [.int tn, .ref qu, .ref qo, .ref qx, .ref qy, .ref qr, .ref qw])), (qu, .inl (cI, 12, .inl fu)), (qw, .inl (cI, 12, .inl fw)), (qo, .inl (cI, 12, .inl fo)), (qx, .inl (cI, 12, .inl fx)), (qy, .inl (cI, 12, .inl fy)), (oq, .inl (cJ, 1, .inr (.inl fo9)))]) (va_Qi (fun (r : Int32) (_ : Unit) => r = 0) (fun _ t => tB D (va_A [(h0, .inr (5, [.ref hm, .ref hh, .ref he, .ref ha, .ref hp, .int 3])), (hm, .inr (4, [.int (nI n), .int (mI S), .int (mI Ce), .ref qh, .ref qn])), (hh, .inr (3, [.int tn, .ref qu, .ref qo, .ref qx, .ref qy, .ref qr, .ref qw])), (qu, .inl (cI, 12, .inl fu)), (qw, .inl (cI, 12, .inl fw)), (qo, .inl (cI, 12, .inl fo)), (qx, .inl (cI, 12, .inl fx)), (qy, .inl (cI, 12, .inl fy)), (oq, .inl (cJ, 1, .inr (.inl fo9)))] sz) [(h0, .inr (5, [.ref hm, .ref hh, .ref he, .ref ha, .ref hp, .int 1])), (hm, .inr (4, [.int (nI n), .int (mI S), .int (mI Ce), .ref qh, .ref qn])), (hh, .inr (3, [.int (tn + 1), .ref qu, .ref qo, .ref qx, .ref qy, .ref qr, .ref qw])), (qu, .inl (cI, 12, .inl (rmP (rmc fw) fu n n))), (qw, .inl (cI, 12, .inl fw)), (qo, .inl (cI, 12, .inl (fun _ => 0))), (qx, .inl (cI, 12, .inl (fun _ => 0))), (qy, .inl (cI, 12, .inl (fun _ => 0))), (oq, .inl (cJ, 1, .inr (.inl (vp_updL fo9 (0 : Int32).toNatClampNeg (1 : Int32).toInt64))))] t) (va_A [(h0, .inr (5, [.ref hm, .ref hh, .ref he, .ref ha, .ref hp, .int 3])), (hm, .inr (4, [.int (nI n), .int (mI S), .int (mI Ce), .ref qh, .ref qn])), (hh, .inr (3, [.int tn, .ref qu, .ref qo, .ref qx, .ref qy, .ref qr, .ref qw])), (qu, .inl (cI, 12, .inl fu)), (qw, .inl (cI, 12, .inl fw)), (qo, .inl (cI, 12, .inl fo)), (qx, .inl (cI, 12, .inl fx)), (qy, .inl (cI, 12, .inl fy)), (oq, .inl (cJ, 1, .inr (.inl fo9)))] sz)) 0 0 (va_A [(h0, .inr (5, [.ref hm, .ref hh, .ref he, .ref ha, .ref hp, .int 3])), (hm, .inr (4, [.int (nI n), .int (mI S), .int (mI Ce), .ref qh, .ref qn])), (hh, .inr (3, [.int tn, .ref qu, .ref qo, .ref qx, .ref qy, .ref qr, .ref qw])), (qu, .inl (cI, 12, .inl fu)), (qw, .inl (cI, 12, .inl fw)), (qo, .inl (cI, 12, .inl fo)), (qx, .inl (cI, 12, .inl fx)), (qy, .inl (cI, 12, .inl fy)), (oq, .inl (cJ, 1, .inr (.inl fo9)))] sz) := by
  refine va_MetW (cc := b_Lw_finish) (maxL := 3) (ret := (some .int)) (hh := [(0, 8, 11, 15)]) (by decide) rfl ?_
  intro p e s m args below meth c s₁ B hml hv
  obtain ⟨rfl, hsz, hP, hK, hD0, hX⟩ := hv
  have hx := B.exec
  have hb := B.bytes
  have hr := B.returns
  have hts0 := atoms_spec (ws := w_Lw_finish) B.pre
  have hts : ∀ w ∈ TB, w.before _ s = true := fun w h => hts0 w (List.mem_cons_of_mem _ h)
  have hown : s.vm.findClass "SheetWarLaw" = some m.cls := findClass_of_methodNamed B.named
  have hlocks := B.notSynchronized
  have hTab := tx_tab B (hts0 _ (List.mem_cons_self ..))
  subst hsz
  have hXl := tx_lt hX
  have hXn := tx_far hP hX
  have hD := hD0.self (sz := s.heap.size)
  generalize hAe : va_A [(h0, .inr (5, [.ref hm, .ref hh, .ref he, .ref ha, .ref hp, .int 3])), (hm, .inr (4, [.int (nI n), .int (mI S), .int (mI Ce), .ref qh, .ref qn])), (hh, .inr (3, [.int tn, .ref qu, .ref qo, .ref qx, .ref qy, .ref qr, .ref qw])), (qu, .inl (cI, 12, .inl fu)), (qw, .inl (cI, 12, .inl fw)), (qo, .inl (cI, 12, .inl fo)), (qx, .inl (cI, 12, .inl fx)), (qy, .inl (cI, 12, .inl fy)), (oq, .inl (cJ, 1, .inr (.inl fo9)))] s.heap.size = A at hD hXn ⊢
  have hA : ∀ q : Nat, s.heap.size ≤ q → A q := fun q h => by rw [← hAe]; exact Or.inr h
  have hS : va_S A s.heap s.heap [] := va_S.rf
  have hXH : s.heap[aT]? = s.heap[aT]? := rfl
  have hl := lv_entry ([.ref h0, .ref oq]) (n := 3) (Nat.le_of_ble_eq_true rfl)
  rw [lg_entry_eq]
  generalize (lg_sl ([.ref h0, .ref oq]) ++ List.replicate (3 - (lg_sl ([.ref h0, .ref oq])).length) Slot.unset).toArray = ls at hl ⊢
  have hl : lv_has ls 3 [(0, .ref h0), (1, .ref oq)] := hl
  refine lv_aload_n hx hb d_Lw_finish_0 rfl (lv_at hl 1 rfl) ?_
  refine lv_iconst (v := 0) hx hb d_Lw_finish_1 (by decide) ?_
  refine lv_aload_n hx hb d_Lw_finish_2 rfl (lv_at hl 0 rfl) ?_
  have hPc := hP.sub (ws' := [(h0, .inr (5, [.ref hm, .ref hh, .ref he, .ref ha, .ref hp, .int 3])), (hm, .inr (4, [.int (nI n), .int (mI S), .int (mI Ce), .ref qh, .ref qn])), (hh, .inr (3, [.int tn, .ref qu, .ref qo, .ref qx, .ref qy, .ref qr, .ref qw])), (qu, .inl (cI, 12, .inl fu)), (qw, .inl (cI, 12, .inl fw)), (qo, .inl (cI, 12, .inl fo)), (qx, .inl (cI, 12, .inl fx)), (qy, .inl (cI, 12, .inl fy))]) [0, 1, 2, 3, 4, 5, 6, 7] rfl
  have hDc := hD.sub (ws' := [(h0, .inr (5, [.ref hm, .ref hh, .ref he, .ref ha, .ref hp, .int 3])), (hm, .inr (4, [.int (nI n), .int (mI S), .int (mI Ce), .ref qh, .ref qn])), (hh, .inr (3, [.int tn, .ref qu, .ref qo, .ref qx, .ref qy, .ref qr, .ref qw])), (qu, .inl (cI, 12, .inl fu)), (qw, .inl (cI, 12, .inl fw)), (qo, .inl (cI, 12, .inl fo)), (qx, .inl (cI, 12, .inl fx)), (qy, .inl (cI, 12, .inl fy))]) [0, 1, 2, 3, 4, 5, 6, 7] (by decide) rfl
  have hFc := va_free (wc := [(h0, .inr (5, [.ref hm, .ref hh, .ref he, .ref ha, .ref hp, .int 3])), (hm, .inr (4, [.int (nI n), .int (mI S), .int (mI Ce), .ref qh, .ref qn])), (hh, .inr (3, [.int tn, .ref qu, .ref qo, .ref qx, .ref qy, .ref qr, .ref qw])), (qu, .inl (cI, 12, .inl fu)), (qw, .inl (cI, 12, .inl fw)), (qo, .inl (cI, 12, .inl fo)), (qx, .inl (cI, 12, .inl fx)), (qy, .inl (cI, 12, .inl fy))]) hD hS hA [0, 1, 2, 3, 4, 5, 6, 7] rfl
  refine va_calli (va_runV (As := []) (rest := [.int 0, .ref oq]) ⟨hx, hb, hml, hown, hts⟩ (c_Sw_finish3 l D cI cZ cJ cS aT ceT s.heap.size h0 hm hh he ha hp qh qn n S Ce tn qu qo qx qy qr qw fw fu fo fx fy hn) (cwV 0 hts (tb_4 wd_681 wd_682 wd_683 wd_1 (tb_c wd_684)) rfl rfl rfl ⟨rfl, by decide, by decide, by decide +kernel⟩ ⟨Nat.le_of_ble_eq_true rfl, Nat.le_of_ble_eq_true rfl⟩) (tH_V hK hX (hS.2.1 aT hXl hXn) hPc hDc (q := 0) rfl rfl) rfl rfl hl.1 rfl (lv_room (Nat.le_of_ble_eq_true rfl)) d_Lw_finish_3 ⟨Nat.le_of_ble_eq_true rfl, Nat.le_of_ble_eq_true rfl⟩) hS (fun q _ h => hFc q h) hFc (fun r9 u t H1 locs ht hvm h9 hB hz1 hk1 hS => ?_)
  rw [h9]
  obtain ⟨hP1, hD1⟩ := hB
  rw [ht] at hP1
  obtain ⟨hP, hD⟩ := va_join (wr := [(oq, .inl (cJ, 1, .inr (.inl fo9)))]) (w1 := [(h0, .inr (5, [.ref hm, .ref hh, .ref he, .ref ha, .ref hp, .int 1])), (hm, .inr (4, [.int (nI n), .int (mI S), .int (mI Ce), .ref qh, .ref qn])), (hh, .inr (3, [.int (tn + 1), .ref qu, .ref qo, .ref qx, .ref qy, .ref qr, .ref qw])), (qu, .inl (cI, 12, .inl (rmP (rmc fw) fu n n))), (qw, .inl (cI, 12, .inl fw)), (qo, .inl (cI, 12, .inl (fun _ => 0))), (qx, .inl (cI, 12, .inl (fun _ => 0))), (qy, .inl (cI, 12, .inl (fun _ => 0)))]) hP hD [0, 1, 2, 3, 4, 5, 6, 7] [8] rfl rfl (by decide) (by decide) hk1 hFc hP1 hD1
  generalize H1 = H at hP hS ⊢
  have hP : va_P D vwCl [(oq, .inl (cJ, 1, .inr (.inl fo9))), (h0, .inr (5, [.ref hm, .ref hh, .ref he, .ref ha, .ref hp, .int 1])), (hm, .inr (4, [.int (nI n), .int (mI S), .int (mI Ce), .ref qh, .ref qn])), (hh, .inr (3, [.int (tn + 1), .ref qu, .ref qo, .ref qx, .ref qy, .ref qr, .ref qw])), (qu, .inl (cI, 12, .inl (rmP (rmc fw) fu n n))), (qw, .inl (cI, 12, .inl fw)), (qo, .inl (cI, 12, .inl (fun _ => 0))), (qx, .inl (cI, 12, .inl (fun _ => 0))), (qy, .inl (cI, 12, .inl (fun _ => 0)))] H := hP
  have hD : va_D A [(oq, .inl (cJ, 1, .inr (.inl fo9))), (h0, .inr (5, [.ref hm, .ref hh, .ref he, .ref ha, .ref hp, .int 1])), (hm, .inr (4, [.int (nI n), .int (mI S), .int (mI Ce), .ref qh, .ref qn])), (hh, .inr (3, [.int (tn + 1), .ref qu, .ref qo, .ref qx, .ref qy, .ref qr, .ref qw])), (qu, .inl (cI, 12, .inl (rmP (rmc fw) fu n n))), (qw, .inl (cI, 12, .inl fw)), (qo, .inl (cI, 12, .inl (fun _ => 0))), (qx, .inl (cI, 12, .inl (fun _ => 0))), (qy, .inl (cI, 12, .inl (fun _ => 0)))] := hD
  refine lv_i2l hx hb d_Lw_finish_6 rfl ?_
  refine va_last hx hb hK hP hD hS 0 2 rfl rfl (by unfold vp_in; decide) d_Lw_finish_7 (fun H locs hP hD hS => ?_)
  have hP : va_P D vwCl [(oq, .inl (cJ, 1, .inr (.inl (vp_updL fo9 (0 : Int32).toNatClampNeg ((1 : Int32).toInt64))))), (h0, .inr (5, [.ref hm, .ref hh, .ref he, .ref ha, .ref hp, .int 1])), (hm, .inr (4, [.int (nI n), .int (mI S), .int (mI Ce), .ref qh, .ref qn])), (hh, .inr (3, [.int (tn + 1), .ref qu, .ref qo, .ref qx, .ref qy, .ref qr, .ref qw])), (qu, .inl (cI, 12, .inl (rmP (rmc fw) fu n n))), (qw, .inl (cI, 12, .inl fw)), (qo, .inl (cI, 12, .inl (fun _ => 0))), (qx, .inl (cI, 12, .inl (fun _ => 0))), (qy, .inl (cI, 12, .inl (fun _ => 0)))] H := hP
  have hD : va_D A [(oq, .inl (cJ, 1, .inr (.inl (vp_updL fo9 (0 : Int32).toNatClampNeg ((1 : Int32).toInt64))))), (h0, .inr (5, [.ref hm, .ref hh, .ref he, .ref ha, .ref hp, .int 1])), (hm, .inr (4, [.int (nI n), .int (mI S), .int (mI Ce), .ref qh, .ref qn])), (hh, .inr (3, [.int (tn + 1), .ref qu, .ref qo, .ref qx, .ref qy, .ref qr, .ref qw])), (qu, .inl (cI, 12, .inl (rmP (rmc fw) fu n n))), (qw, .inl (cI, 12, .inl fw)), (qo, .inl (cI, 12, .inl (fun _ => 0))), (qx, .inl (cI, 12, .inl (fun _ => 0))), (qy, .inl (cI, 12, .inl (fun _ => 0)))] := hD
  refine lv_goto (tgt := 14) hx hb d_Lw_finish_8 (by decide) ?_
  refine lv_iconst (v := 0) hx hb d_Lw_finish_14 (by decide) ?_
  have hP9 := hP.sub (ws' := [(h0, .inr (5, [.ref hm, .ref hh, .ref he, .ref ha, .ref hp, .int 1])), (hm, .inr (4, [.int (nI n), .int (mI S), .int (mI Ce), .ref qh, .ref qn])), (hh, .inr (3, [.int (tn + 1), .ref qu, .ref qo, .ref qx, .ref qy, .ref qr, .ref qw])), (qu, .inl (cI, 12, .inl (rmP (rmc fw) fu n n))), (qw, .inl (cI, 12, .inl fw)), (qo, .inl (cI, 12, .inl (fun _ => 0))), (qx, .inl (cI, 12, .inl (fun _ => 0))), (qy, .inl (cI, 12, .inl (fun _ => 0))), (oq, .inl (cJ, 1, .inr (.inl (vp_updL fo9 (0 : Int32).toNatClampNeg ((1 : Int32).toInt64)))))]) [1, 2, 3, 4, 5, 6, 7, 8, 0] rfl
  have hD9 := hD.sub (ws' := [(h0, .inr (5, [.ref hm, .ref hh, .ref he, .ref ha, .ref hp, .int 1])), (hm, .inr (4, [.int (nI n), .int (mI S), .int (mI Ce), .ref qh, .ref qn])), (hh, .inr (3, [.int (tn + 1), .ref qu, .ref qo, .ref qx, .ref qy, .ref qr, .ref qw])), (qu, .inl (cI, 12, .inl (rmP (rmc fw) fu n n))), (qw, .inl (cI, 12, .inl fw)), (qo, .inl (cI, 12, .inl (fun _ => 0))), (qx, .inl (cI, 12, .inl (fun _ => 0))), (qy, .inl (cI, 12, .inl (fun _ => 0))), (oq, .inl (cJ, 1, .inr (.inl (vp_updL fo9 (0 : Int32).toNatClampNeg ((1 : Int32).toInt64)))))]) [1, 2, 3, 4, 5, 6, 7, 8, 0] (by decide) rfl
  exact W.iret (v := 0) hx hb hr (fun t ht hW => ⟨⟨0, (), rfl, rfl, by rw [ht]; exact hP9, hD9⟩, hS.F ht⟩) hS.2.2 d_Lw_finish_15
