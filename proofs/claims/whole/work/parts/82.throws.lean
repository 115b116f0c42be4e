def okO (pl a k x y n : Int32) : Prop := (0 ≤ pl ∧ pl < 4) ∧ (0 ≤ a ∧ a < n) ∧ (0 ≤ k ∧ k ≤ 3) ∧ (k = 0 ∨ (0 ≤ x ∧ x < n)) ∧ ((k = 0 ∨ k = 1) ∨ (0 ≤ y ∧ y < n))
def okT (pl a b n : Int32) : Prop := (0 ≤ pl ∧ pl < 4) ∧ (0 ≤ a ∧ a < n) ∧ (0 ≤ b ∧ b < n)
def okB (pl a k n : Int32) : Prop := (0 ≤ pl ∧ pl < 4) ∧ (0 ≤ a ∧ a < n) ∧ (0 ≤ k ∧ k ≤ 2)
def odR (b p : Bool) : Nat := if b = true then (if p = true then 0 else 2) else 1


set_option maxHeartbeats 4000000 in
set_option maxRecDepth 100000 in
theorem c_Sw_hasX (l : Launch) (D : va_G) (cI cZ cJ cS : ClassId) (aT : Nat) (ceT : Cell) (k : Int32)  : Met l y_Sw_hasX w_Sw_hasX ({ frames := 0, cells := 0, slots := 0, locals := 0 }) (tP D cI cZ cJ cS aT ceT [.int k] []) (vp_Si (fun r => (r = 1 ∧ (¬ k = 0)) ∨ (r = 0 ∧ ¬ (¬ k = 0)))) 0 0 (fun _ => False) := by
  refine Met.ofW (cc := b_Sw_hasX) (maxL := 1) (ret := (some .boolean)) (by decide) rfl ?_
  intro p e s m args below meth c s₁ B hml hv
  obtain ⟨rfl, hP, hK, hX⟩ := hv
  have hx := B.exec
  have hb := B.bytes
  have hr := B.returns
  have hts0 := atoms_spec (ws := w_Sw_hasX) B.pre
  have hts : ∀ w ∈ TB, w.before _ s = true := fun w h => hts0 w (List.mem_cons_of_mem _ h)
  have hown : s.vm.findClass R_Sw = some m.cls := findClass_of_methodNamed B.named
  have hlocks := B.notSynchronized
  have hXH : s.heap[aT]? = s.heap[aT]? := rfl
  have hl := lv_entry ([.int k]) (n := 1) (Nat.le_of_ble_eq_true rfl)
  rw [lg_entry_eq]
  generalize (lg_sl ([.int k]) ++ List.replicate (1 - (lg_sl ([.int k])).length) Slot.unset).toArray = ls at hl ⊢
  have hl : lv_has ls 1 [(0, .int k)] := hl
  refine lv_iload_n hx hb d_Sw_hasX_0 rfl (lv_at hl 0 rfl) ?_
  refine lv_if_eq (tgt := 8) hx hb d_Sw_hasX_1 (by decide) (fun hc1 => ?_) (fun hc1 => ?_)
  · -- 1 taken
    refine lv_iconst (v := 0) hx hb d_Sw_hasX_8 (by decide) ?_
    exact W.zret (v := 0) hx hb hr (by decide) (fun t ht hW => ⟨0, rfl, Or.inr ⟨rfl, fun h => h hc1⟩, ht⟩) (fun q hq => by cases hq) d_Sw_hasX_9
  · -- 1 not taken
    refine lv_iconst (v := 1) hx hb d_Sw_hasX_4 (by decide) ?_
    refine lv_goto (tgt := 9) hx hb d_Sw_hasX_5 (by decide) ?_
    exact W.zret (v := 1) hx hb hr (by decide) (fun t ht hW => ⟨1, rfl, Or.inl ⟨rfl, hc1⟩, ht⟩) (fun q hq => by cases hq) d_Sw_hasX_9


set_option maxHeartbeats 4000000 in
set_option maxRecDepth 100000 in
theorem c_Sw_hasY (l : Launch) (D : va_G) (cI cZ cJ cS : ClassId) (aT : Nat) (ceT : Cell) (k : Int32)  : Met l y_Sw_hasY w_Sw_hasY ({ frames := 0, cells := 0, slots := 0, locals := 0 }) (tP D cI cZ cJ cS aT ceT [.int k] []) (vp_Si (fun r => (r = 1 ∧ (k = 2 ∨ k = 3)) ∨ (r = 0 ∧ ¬ (k = 2 ∨ k = 3)))) 0 0 (fun _ => False) := by
  refine Met.ofW (cc := b_Sw_hasY) (maxL := 1) (ret := (some .boolean)) (by decide) rfl ?_
  intro p e s m args below meth c s₁ B hml hv
  obtain ⟨rfl, hP, hK, hX⟩ := hv
  have hx := B.exec
  have hb := B.bytes
  have hr := B.returns
  have hts0 := atoms_spec (ws := w_Sw_hasY) B.pre
  have hts : ∀ w ∈ TB, w.before _ s = true := fun w h => hts0 w (List.mem_cons_of_mem _ h)
  have hown : s.vm.findClass R_Sw = some m.cls := findClass_of_methodNamed B.named
  have hlocks := B.notSynchronized
  have hXH : s.heap[aT]? = s.heap[aT]? := rfl
  have hl := lv_entry ([.int k]) (n := 1) (Nat.le_of_ble_eq_true rfl)
  rw [lg_entry_eq]
  generalize (lg_sl ([.int k]) ++ List.replicate (1 - (lg_sl ([.int k])).length) Slot.unset).toArray = ls at hl ⊢
  have hl : lv_has ls 1 [(0, .int k)] := hl
  refine lv_iload_n hx hb d_Sw_hasY_0 rfl (lv_at hl 0 rfl) ?_
  refine lv_iconst (v := 2) hx hb d_Sw_hasY_1 (by decide) ?_
  refine lv_icmp_eq (tgt := 10) hx hb d_Sw_hasY_2 (by decide) (fun hc1 => ?_) (fun hc1 => ?_)
  · -- 2 taken
    refine lv_iconst (v := 1) hx hb d_Sw_hasY_10 (by decide) ?_
    refine lv_goto (tgt := 15) hx hb d_Sw_hasY_11 (by decide) ?_
    exact W.zret (v := 1) hx hb hr (by decide) (fun t ht hW => ⟨1, rfl, Or.inl ⟨rfl, by simp [hc1]⟩, ht⟩) (fun q hq => by cases hq) d_Sw_hasY_15
  · -- 2 not taken
    refine lv_iload_n hx hb d_Sw_hasY_5 rfl (lv_at hl 0 rfl) ?_
    refine lv_iconst (v := 3) hx hb d_Sw_hasY_6 (by decide) ?_
    refine lv_icmp_ne (tgt := 14) hx hb d_Sw_hasY_7 (by decide) (fun hc2 => ?_) (fun hc2 => ?_)
    · -- 7 taken
      refine lv_iconst (v := 0) hx hb d_Sw_hasY_14 (by decide) ?_
      exact W.zret (v := 0) hx hb hr (by decide) (fun t ht hW => ⟨0, rfl, Or.inr ⟨rfl, by simp [hc1, hc2]⟩, ht⟩) (fun q hq => by cases hq) d_Sw_hasY_15
    · -- 7 not taken
      refine lv_iconst (v := 1) hx hb d_Sw_hasY_10 (by decide) ?_
      refine lv_goto (tgt := 15) hx hb d_Sw_hasY_11 (by decide) ?_
      exact W.zret (v := 1) hx hb hr (by decide) (fun t ht hW => ⟨1, rfl, Or.inl ⟨rfl, by simp [hc1, hc2]⟩, ht⟩) (fun q hq => by cases hq) d_Sw_hasY_15

theorem wd_461 : (Cond.code ({ cls := "SheetWar", name := "hasX", desc := "(I)Z" } : MethodName) prog_1_method_23_code (1 : Nat) (Option.some FieldType.boolean)) ∈ TB := tb_t 461 (by decide +kernel) (by decide +kernel)
theorem wd_459 : (Cond.methodLink "SheetWar" (94 : Nat) ({ cls := "SheetWar", name := "hasX", desc := "(I)Z" } : MethodName)) ∈ TB := tb_t 459 (by decide +kernel) (by decide +kernel)
theorem wd_460 : (Cond.static ({ cls := "SheetWar", name := "hasX", desc := "(I)Z" } : MethodName)) ∈ TB := tb_t 460 (by decide +kernel) (by decide +kernel)
theorem wd_464 : (Cond.code ({ cls := "SheetWar", name := "hasY", desc := "(I)Z" } : MethodName) prog_1_method_24_code (1 : Nat) (Option.some FieldType.boolean)) ∈ TB := tb_t 464 (by decide +kernel) (by decide +kernel)
theorem wd_462 : (Cond.methodLink "SheetWar" (97 : Nat) ({ cls := "SheetWar", name := "hasY", desc := "(I)Z" } : MethodName)) ∈ TB := tb_t 462 (by decide +kernel) (by decide +kernel)
theorem wd_463 : (Cond.static ({ cls := "SheetWar", name := "hasY", desc := "(I)Z" } : MethodName)) ∈ TB := tb_t 463 (by decide +kernel) (by decide +kernel)
set_option maxHeartbeats 4000000 in
set_option maxRecDepth 100000 in
theorem c_Sw_order_t1 (l : Launch) (D : va_G) (cI cZ cJ cS : ClassId) (aT : Nat) (ceT : Cell) (h0 hm hh he ha hp : Nat) (ph : Int32) (qh qn : Nat) (n seas cen : Int32) (pl a k x y : Int32) (hno9 : ¬ okO pl a k x y n) (hfl : l.flags = pinnedFlags ++ [noTraceFlag]) : MetT l y_Sw_order w_Sw_order ({ frames := 6, cells := 1, slots := 6, locals := 82 }) (tP D cI cZ cJ cS aT ceT [.ref h0, .int pl, .int a, .int k, .int x, .int y] [(h0, .inr (5, [.ref hm, .ref hh, .ref he, .ref ha, .ref hp, .int ph])), (hm, .inr (4, [.int n, .int seas, .int cen, .ref qh, .ref qn]))]) tx_iae 1 6 := by
  refine MetT.ofW (cc := b_Sw_order) (maxL := 6) (ret := (some .int)) (by decide) rfl ?_
  intro p e s m args below meth c s₁ B hml hv
  obtain ⟨rfl, hP, hK, hX⟩ := hv
  have hx := B.exec
  have hb := B.bytes
  have hr := B.returns
  have hts0 := atoms_spec (ws := w_Sw_order) B.pre
  have hts : ∀ w ∈ TB, w.before _ s = true := fun w h => hts0 w (List.mem_cons_of_mem _ h)
  have hno := B.noHandlers (hts0 _ (List.mem_cons_self ..))
  have hown : s.vm.findClass R_Sw = some m.cls := findClass_of_methodNamed B.named
  have hlocks := B.notSynchronized
  have hXH : s.heap[aT]? = s.heap[aT]? := rfl
  have hl := lv_entry ([.ref h0, .int pl, .int a, .int k, .int x, .int y]) (n := 6) (Nat.le_of_ble_eq_true rfl)
  rw [lg_entry_eq]
  generalize (lg_sl ([.ref h0, .int pl, .int a, .int k, .int x, .int y]) ++ List.replicate (6 - (lg_sl ([.ref h0, .int pl, .int a, .int k, .int x, .int y])).length) Slot.unset).toArray = ls at hl ⊢
  have hl : lv_has ls 6 [(0, .ref h0), (1, .int pl), (2, .int a), (3, .int k), (4, .int x), (5, .int y)] := hl
  refine lv_iload_n hx hb d_Sw_order_0 rfl (lv_at hl 1 rfl) ?_
  have hPc := hP.sub (ws' := []) [] rfl
  refine vp_callSi (va_Run.run (va_runS (As := [.int pl]) (rest := []) ⟨hx, hb, hml, hown, hts⟩ (c_Sw_isPlayer l D cI cZ cJ cS aT ceT  pl ) (va_cwS 1 hts (tb_3 wd_299 wd_300 wd_1 (tb_c wd_301)) rfl rfl rfl ⟨by decide, by decide, by decide +kernel⟩ ⟨Nat.le_of_ble_eq_true rfl, Nat.le_of_ble_eq_true rfl⟩) (tP_S hK hX hXH hPc) rfl rfl hl.1 rfl (lv_room (Nat.le_of_ble_eq_true rfl)) d_Sw_order_1 ⟨Nat.le_of_ble_eq_true rfl, Nat.le_of_ble_eq_true rfl⟩)) (fun r1 hr9 => ?_)
  rcases hr9 with ⟨rfl, hq2⟩ | ⟨rfl, hq2⟩
  · -- 1: true
    refine lv_if_eq (tgt := 27) hx hb d_Sw_order_4 (by decide) (fun h0 => absurd h0 (by decide)) (fun _ => ?_)
    refine lv_aload_n hx hb d_Sw_order_7 rfl (lv_at hl 0 rfl) ?_
    refine va_get (D := D) (ci := 5) (v := .ref hm) (C := R_Sw) (T := T_Sw) (N := 6) hx hb hts hin_Sw hown hK hP 0 rfl rfl 0 (by decide) (hts _ wd_201) (fun _ h9 => h9) rfl d_Sw_order_8 ?_
    refine lv_iload_n hx hb d_Sw_order_11 rfl (lv_at hl 2 rfl) ?_
    have hPc := hP.sub (ws' := [(hm, .inr (4, [.int n, .int seas, .int cen, .ref qh, .ref qn]))]) [1] rfl
    refine vp_callSi (va_Run.run (va_runV (As := [.int a]) (rest := []) ⟨hx, hb, hml, hown, hts⟩ (c_Wm_has l D cI cZ cJ cS aT ceT  hm qh qn n seas cen a ) (cwV 1 hts (tb_4 wd_224 wd_225 wd_226 wd_2 (tb_c wd_227)) rfl rfl rfl ⟨rfl, by decide, by decide, by decide +kernel⟩ ⟨Nat.le_of_ble_eq_true rfl, Nat.le_of_ble_eq_true rfl⟩) (tP_V hK hX hXH hPc (q := 0) rfl rfl) rfl rfl hl.1 rfl (lv_room (Nat.le_of_ble_eq_true rfl)) d_Sw_order_12 ⟨Nat.le_of_ble_eq_true rfl, Nat.le_of_ble_eq_true rfl⟩)) (fun r4 hr9 => ?_)
    rcases hr9 with ⟨rfl, hq5⟩ | ⟨rfl, hq5⟩
    · -- 12: true
      refine lv_if_eq (tgt := 27) hx hb d_Sw_order_15 (by decide) (fun h0 => absurd h0 (by decide)) (fun _ => ?_)
      refine lv_iload_n hx hb d_Sw_order_18 rfl (lv_at hl 3 rfl) ?_
      refine lv_if_lt (tgt := 27) hx hb d_Sw_order_19 (by decide) (fun hc7 => ?_) (fun hc7 => ?_)
      · -- 19 taken
        exact tx_throwNew (n := 6) hx hb hno hfl hlocks hown (by decide) (by decide) (tx_own1 hts hX) (hts _ wd_328) (hts _ wd_329) (hts _ wd_12) (hl.1.trans hml.symm) d_Sw_order_27 d_Sw_order_30 d_Sw_order_31 d_Sw_order_34 (Nat.le_of_ble_eq_true rfl) (Nat.le_of_ble_eq_true rfl) (Nat.le_of_ble_eq_true rfl) (Nat.le_of_ble_eq_true rfl) (Nat.le_refl _)
      · -- 19 not taken
        refine lv_iload_n hx hb d_Sw_order_22 rfl (lv_at hl 3 rfl) ?_
        refine lv_iconst (v := 3) hx hb d_Sw_order_23 (by decide) ?_
        refine lv_icmp_le (tgt := 35) hx hb d_Sw_order_24 (by decide) (fun hc8 => ?_) (fun hc8 => ?_)
        · -- 24 taken
          refine lv_iload_n hx hb d_Sw_order_35 rfl (lv_at hl 3 rfl) ?_
          have hPc := hP.sub (ws' := []) [] rfl
          refine vp_callSi (va_Run.run (va_runS (As := [.int k]) (rest := []) ⟨hx, hb, hml, hown, hts⟩ (c_Sw_hasX l D cI cZ cJ cS aT ceT  k ) (va_cwS 1 hts (tb_3 wd_459 wd_460 wd_1 (tb_c wd_461)) rfl rfl rfl ⟨by decide, by decide, by decide +kernel⟩ ⟨Nat.le_of_ble_eq_true rfl, Nat.le_of_ble_eq_true rfl⟩) (tP_S hK hX hXH hPc) rfl rfl hl.1 rfl (lv_room (Nat.le_of_ble_eq_true rfl)) d_Sw_order_36 ⟨Nat.le_of_ble_eq_true rfl, Nat.le_of_ble_eq_true rfl⟩)) (fun r9 hr9 => ?_)
          rcases hr9 with ⟨rfl, hq10⟩ | ⟨rfl, hq10⟩
          · -- 36: true
            refine lv_if_eq (tgt := 54) hx hb d_Sw_order_39 (by decide) (fun h0 => absurd h0 (by decide)) (fun _ => ?_)
            refine lv_aload_n hx hb d_Sw_order_42 rfl (lv_at hl 0 rfl) ?_
            refine va_get (D := D) (ci := 5) (v := .ref hm) (C := R_Sw) (T := T_Sw) (N := 6) hx hb hts hin_Sw hown hK hP 0 rfl rfl 0 (by decide) (hts _ wd_201) (fun _ h9 => h9) rfl d_Sw_order_43 ?_
            refine lv_iload hx hb d_Sw_order_46 (lv_at hl 4 rfl) ?_
            have hPc := hP.sub (ws' := [(hm, .inr (4, [.int n, .int seas, .int cen, .ref qh, .ref qn]))]) [1] rfl
            refine vp_callSi (va_Run.run (va_runV (As := [.int x]) (rest := []) ⟨hx, hb, hml, hown, hts⟩ (c_Wm_has l D cI cZ cJ cS aT ceT  hm qh qn n seas cen x ) (cwV 1 hts (tb_4 wd_224 wd_225 wd_226 wd_2 (tb_c wd_227)) rfl rfl rfl ⟨rfl, by decide, by decide, by decide +kernel⟩ ⟨Nat.le_of_ble_eq_true rfl, Nat.le_of_ble_eq_true rfl⟩) (tP_V hK hX hXH hPc (q := 0) rfl rfl) rfl rfl hl.1 rfl (lv_room (Nat.le_of_ble_eq_true rfl)) d_Sw_order_48 ⟨Nat.le_of_ble_eq_true rfl, Nat.le_of_ble_eq_true rfl⟩)) (fun r12 hr9 => ?_)
            rcases hr9 with ⟨rfl, hq13⟩ | ⟨rfl, hq13⟩
            · -- 48: true
              refine lv_if_eq (tgt := 73) hx hb d_Sw_order_51 (by decide) (fun h0 => absurd h0 (by decide)) (fun _ => ?_)
              refine lv_iload_n hx hb d_Sw_order_54 rfl (lv_at hl 3 rfl) ?_
              have hPc := hP.sub (ws' := []) [] rfl
              refine vp_callSi (va_Run.run (va_runS (As := [.int k]) (rest := []) ⟨hx, hb, hml, hown, hts⟩ (c_Sw_hasY l D cI cZ cJ cS aT ceT  k ) (va_cwS 1 hts (tb_3 wd_462 wd_463 wd_1 (tb_c wd_464)) rfl rfl rfl ⟨by decide, by decide, by decide +kernel⟩ ⟨Nat.le_of_ble_eq_true rfl, Nat.le_of_ble_eq_true rfl⟩) (tP_S hK hX hXH hPc) rfl rfl hl.1 rfl (lv_room (Nat.le_of_ble_eq_true rfl)) d_Sw_order_55 ⟨Nat.le_of_ble_eq_true rfl, Nat.le_of_ble_eq_true rfl⟩)) (fun r15 hr9 => ?_)
              rcases hr9 with ⟨rfl, hq16⟩ | ⟨rfl, hq16⟩
              · -- 55: true
                refine lv_if_eq (tgt := 81) hx hb d_Sw_order_58 (by decide) (fun h0 => absurd h0 (by decide)) (fun _ => ?_)
                refine lv_aload_n hx hb d_Sw_order_61 rfl (lv_at hl 0 rfl) ?_
                refine va_get (D := D) (ci := 5) (v := .ref hm) (C := R_Sw) (T := T_Sw) (N := 6) hx hb hts hin_Sw hown hK hP 0 rfl rfl 0 (by decide) (hts _ wd_201) (fun _ h9 => h9) rfl d_Sw_order_62 ?_
                refine lv_iload hx hb d_Sw_order_65 (lv_at hl 5 rfl) ?_
                have hPc := hP.sub (ws' := [(hm, .inr (4, [.int n, .int seas, .int cen, .ref qh, .ref qn]))]) [1] rfl
                refine vp_callSi (va_Run.run (va_runV (As := [.int y]) (rest := []) ⟨hx, hb, hml, hown, hts⟩ (c_Wm_has l D cI cZ cJ cS aT ceT  hm qh qn n seas cen y ) (cwV 1 hts (tb_4 wd_224 wd_225 wd_226 wd_2 (tb_c wd_227)) rfl rfl rfl ⟨rfl, by decide, by decide, by decide +kernel⟩ ⟨Nat.le_of_ble_eq_true rfl, Nat.le_of_ble_eq_true rfl⟩) (tP_V hK hX hXH hPc (q := 0) rfl rfl) rfl rfl hl.1 rfl (lv_room (Nat.le_of_ble_eq_true rfl)) d_Sw_order_67 ⟨Nat.le_of_ble_eq_true rfl, Nat.le_of_ble_eq_true rfl⟩)) (fun r18 hr9 => ?_)
                rcases hr9 with ⟨rfl, hq19⟩ | ⟨rfl, hq19⟩
                · -- 67: true
                  refine lv_if_ne (tgt := 81) hx hb d_Sw_order_70 (by decide) (fun _ => ?_) (fun h0 => absurd h0 (by decide))
                  exact absurd (by unfold okO; revert hq2 hq5 hc7 hc8 hq10 hq13 hq16 hq19; simp only [Int32.lt_iff_toInt_lt, Int32.le_iff_toInt_le, ← Int32.toInt_inj, Int32.reduceToInt, i32_m1]; omega) hno9
                · -- 67: false
                  refine lv_if_ne (tgt := 81) hx hb d_Sw_order_70 (by decide) (fun h0 => absurd (by decide) h0) (fun _ => ?_)
                  exact tx_throwNew (n := 6) hx hb hno hfl hlocks hown (by decide) (by decide) (tx_own1 hts hX) (hts _ wd_328) (hts _ wd_329) (hts _ wd_12) (hl.1.trans hml.symm) d_Sw_order_73 d_Sw_order_76 d_Sw_order_77 d_Sw_order_80 (Nat.le_of_ble_eq_true rfl) (Nat.le_of_ble_eq_true rfl) (Nat.le_of_ble_eq_true rfl) (Nat.le_of_ble_eq_true rfl) (Nat.le_refl _)
              · -- 55: false
                refine lv_if_eq (tgt := 81) hx hb d_Sw_order_58 (by decide) (fun _ => ?_) (fun h0 => absurd (by decide) h0)
                exact absurd (by unfold okO; revert hq2 hq5 hc7 hc8 hq10 hq13 hq16; simp only [Int32.lt_iff_toInt_lt, Int32.le_iff_toInt_le, ← Int32.toInt_inj, Int32.reduceToInt, i32_m1]; omega) hno9
            · -- 48: false
              refine lv_if_eq (tgt := 73) hx hb d_Sw_order_51 (by decide) (fun _ => ?_) (fun h0 => absurd (by decide) h0)
              exact tx_throwNew (n := 6) hx hb hno hfl hlocks hown (by decide) (by decide) (tx_own1 hts hX) (hts _ wd_328) (hts _ wd_329) (hts _ wd_12) (hl.1.trans hml.symm) d_Sw_order_73 d_Sw_order_76 d_Sw_order_77 d_Sw_order_80 (Nat.le_of_ble_eq_true rfl) (Nat.le_of_ble_eq_true rfl) (Nat.le_of_ble_eq_true rfl) (Nat.le_of_ble_eq_true rfl) (Nat.le_refl _)
          · -- 36: false
            refine lv_if_eq (tgt := 54) hx hb d_Sw_order_39 (by decide) (fun _ => ?_) (fun h0 => absurd (by decide) h0)
            refine lv_iload_n hx hb d_Sw_order_54 rfl (lv_at hl 3 rfl) ?_
            have hPc := hP.sub (ws' := []) [] rfl
            refine vp_callSi (va_Run.run (va_runS (As := [.int k]) (rest := []) ⟨hx, hb, hml, hown, hts⟩ (c_Sw_hasY l D cI cZ cJ cS aT ceT  k ) (va_cwS 1 hts (tb_3 wd_462 wd_463 wd_1 (tb_c wd_464)) rfl rfl rfl ⟨by decide, by decide, by decide +kernel⟩ ⟨Nat.le_of_ble_eq_true rfl, Nat.le_of_ble_eq_true rfl⟩) (tP_S hK hX hXH hPc) rfl rfl hl.1 rfl (lv_room (Nat.le_of_ble_eq_true rfl)) d_Sw_order_55 ⟨Nat.le_of_ble_eq_true rfl, Nat.le_of_ble_eq_true rfl⟩)) (fun r25 hr9 => ?_)
            rcases hr9 with ⟨rfl, hq26⟩ | ⟨rfl, hq26⟩
            · -- 55: true
              refine lv_if_eq (tgt := 81) hx hb d_Sw_order_58 (by decide) (fun h0 => absurd h0 (by decide)) (fun _ => ?_)
              refine lv_aload_n hx hb d_Sw_order_61 rfl (lv_at hl 0 rfl) ?_
              refine va_get (D := D) (ci := 5) (v := .ref hm) (C := R_Sw) (T := T_Sw) (N := 6) hx hb hts hin_Sw hown hK hP 0 rfl rfl 0 (by decide) (hts _ wd_201) (fun _ h9 => h9) rfl d_Sw_order_62 ?_
              refine lv_iload hx hb d_Sw_order_65 (lv_at hl 5 rfl) ?_
              have hPc := hP.sub (ws' := [(hm, .inr (4, [.int n, .int seas, .int cen, .ref qh, .ref qn]))]) [1] rfl
              refine vp_callSi (va_Run.run (va_runV (As := [.int y]) (rest := []) ⟨hx, hb, hml, hown, hts⟩ (c_Wm_has l D cI cZ cJ cS aT ceT  hm qh qn n seas cen y ) (cwV 1 hts (tb_4 wd_224 wd_225 wd_226 wd_2 (tb_c wd_227)) rfl rfl rfl ⟨rfl, by decide, by decide, by decide +kernel⟩ ⟨Nat.le_of_ble_eq_true rfl, Nat.le_of_ble_eq_true rfl⟩) (tP_V hK hX hXH hPc (q := 0) rfl rfl) rfl rfl hl.1 rfl (lv_room (Nat.le_of_ble_eq_true rfl)) d_Sw_order_67 ⟨Nat.le_of_ble_eq_true rfl, Nat.le_of_ble_eq_true rfl⟩)) (fun r28 hr9 => ?_)
              rcases hr9 with ⟨rfl, hq29⟩ | ⟨rfl, hq29⟩
              · -- 67: true
                refine lv_if_ne (tgt := 81) hx hb d_Sw_order_70 (by decide) (fun _ => ?_) (fun h0 => absurd h0 (by decide))
                exact absurd (by unfold okO; revert hq2 hq5 hc7 hc8 hq10 hq26 hq29; simp only [Int32.lt_iff_toInt_lt, Int32.le_iff_toInt_le, ← Int32.toInt_inj, Int32.reduceToInt, i32_m1]; omega) hno9
              · -- 67: false
                refine lv_if_ne (tgt := 81) hx hb d_Sw_order_70 (by decide) (fun h0 => absurd (by decide) h0) (fun _ => ?_)
                exact tx_throwNew (n := 6) hx hb hno hfl hlocks hown (by decide) (by decide) (tx_own1 hts hX) (hts _ wd_328) (hts _ wd_329) (hts _ wd_12) (hl.1.trans hml.symm) d_Sw_order_73 d_Sw_order_76 d_Sw_order_77 d_Sw_order_80 (Nat.le_of_ble_eq_true rfl) (Nat.le_of_ble_eq_true rfl) (Nat.le_of_ble_eq_true rfl) (Nat.le_of_ble_eq_true rfl) (Nat.le_refl _)
            · -- 55: false
              refine lv_if_eq (tgt := 81) hx hb d_Sw_order_58 (by decide) (fun _ => ?_) (fun h0 => absurd (by decide) h0)
              exact absurd (by unfold okO; revert hq2 hq5 hc7 hc8 hq10 hq26; simp only [Int32.lt_iff_toInt_lt, Int32.le_iff_toInt_le, ← Int32.toInt_inj, Int32.reduceToInt, i32_m1]; omega) hno9
        · -- 24 not taken
          exact tx_throwNew (n := 6) hx hb hno hfl hlocks hown (by decide) (by decide) (tx_own1 hts hX) (hts _ wd_328) (hts _ wd_329) (hts _ wd_12) (hl.1.trans hml.symm) d_Sw_order_27 d_Sw_order_30 d_Sw_order_31 d_Sw_order_34 (Nat.le_of_ble_eq_true rfl) (Nat.le_of_ble_eq_true rfl) (Nat.le_of_ble_eq_true rfl) (Nat.le_of_ble_eq_true rfl) (Nat.le_refl _)
    · -- 12: false
      refine lv_if_eq (tgt := 27) hx hb d_Sw_order_15 (by decide) (fun _ => ?_) (fun h0 => absurd (by decide) h0)
      exact tx_throwNew (n := 6) hx hb hno hfl hlocks hown (by decide) (by decide) (tx_own1 hts hX) (hts _ wd_328) (hts _ wd_329) (hts _ wd_12) (hl.1.trans hml.symm) d_Sw_order_27 d_Sw_order_30 d_Sw_order_31 d_Sw_order_34 (Nat.le_of_ble_eq_true rfl) (Nat.le_of_ble_eq_true rfl) (Nat.le_of_ble_eq_true rfl) (Nat.le_of_ble_eq_true rfl) (Nat.le_refl _)
  · -- 1: false
    refine lv_if_eq (tgt := 27) hx hb d_Sw_order_4 (by decide) (fun _ => ?_) (fun h0 => absurd (by decide) h0)
    exact tx_throwNew (n := 6) hx hb hno hfl hlocks hown (by decide) (by decide) (tx_own1 hts hX) (hts _ wd_328) (hts _ wd_329) (hts _ wd_12) (hl.1.trans hml.symm) d_Sw_order_27 d_Sw_order_30 d_Sw_order_31 d_Sw_order_34 (Nat.le_of_ble_eq_true rfl) (Nat.le_of_ble_eq_true rfl) (Nat.le_of_ble_eq_true rfl) (Nat.le_of_ble_eq_true rfl) (Nat.le_refl _)


set_option maxHeartbeats 4000000 in
set_option maxRecDepth 100000 in
theorem c_Sw_retreat_t1 (l : Launch) (D : va_G) (cI cZ cJ cS : ClassId) (aT : Nat) (ceT : Cell) (h0 hm hh he ha hp : Nat) (ph : Int32) (qh qn : Nat) (n seas cen : Int32) (pl a b : Int32) (hno9 : ¬ okT pl a b n) (hfl : l.flags = pinnedFlags ++ [noTraceFlag]) : MetT l y_Sw_retreat w_Sw_retreat ({ frames := 6, cells := 1, slots := 6, locals := 82 }) (tP D cI cZ cJ cS aT ceT [.ref h0, .int pl, .int a, .int b] [(h0, .inr (5, [.ref hm, .ref hh, .ref he, .ref ha, .ref hp, .int ph])), (hm, .inr (4, [.int n, .int seas, .int cen, .ref qh, .ref qn]))]) tx_iae 1 6 := by
  refine MetT.ofW (cc := b_Sw_retreat) (maxL := 4) (ret := (some .int)) (by decide) rfl ?_
  intro p e s m args below meth c s₁ B hml hv
  obtain ⟨rfl, hP, hK, hX⟩ := hv
  have hx := B.exec
  have hb := B.bytes
  have hr := B.returns
  have hts0 := atoms_spec (ws := w_Sw_retreat) B.pre
  have hts : ∀ w ∈ TB, w.before _ s = true := fun w h => hts0 w (List.mem_cons_of_mem _ h)
  have hno := B.noHandlers (hts0 _ (List.mem_cons_self ..))
  have hown : s.vm.findClass R_Sw = some m.cls := findClass_of_methodNamed B.named
  have hlocks := B.notSynchronized
  have hXH : s.heap[aT]? = s.heap[aT]? := rfl
  have hl := lv_entry ([.ref h0, .int pl, .int a, .int b]) (n := 4) (Nat.le_of_ble_eq_true rfl)
  rw [lg_entry_eq]
  generalize (lg_sl ([.ref h0, .int pl, .int a, .int b]) ++ List.replicate (4 - (lg_sl ([.ref h0, .int pl, .int a, .int b])).length) Slot.unset).toArray = ls at hl ⊢
  have hl : lv_has ls 4 [(0, .ref h0), (1, .int pl), (2, .int a), (3, .int b)] := hl
  refine lv_iload_n hx hb d_Sw_retreat_0 rfl (lv_at hl 1 rfl) ?_
  have hPc := hP.sub (ws' := []) [] rfl
  refine vp_callSi (va_Run.run (va_runS (As := [.int pl]) (rest := []) ⟨hx, hb, hml, hown, hts⟩ (c_Sw_isPlayer l D cI cZ cJ cS aT ceT  pl ) (va_cwS 1 hts (tb_3 wd_299 wd_300 wd_1 (tb_c wd_301)) rfl rfl rfl ⟨by decide, by decide, by decide +kernel⟩ ⟨Nat.le_of_ble_eq_true rfl, Nat.le_of_ble_eq_true rfl⟩) (tP_S hK hX hXH hPc) rfl rfl hl.1 rfl (lv_room (Nat.le_of_ble_eq_true rfl)) d_Sw_retreat_1 ⟨Nat.le_of_ble_eq_true rfl, Nat.le_of_ble_eq_true rfl⟩)) (fun r1 hr9 => ?_)
  rcases hr9 with ⟨rfl, hq2⟩ | ⟨rfl, hq2⟩
  · -- 1: true
    refine lv_if_eq (tgt := 29) hx hb d_Sw_retreat_4 (by decide) (fun h0 => absurd h0 (by decide)) (fun _ => ?_)
    refine lv_aload_n hx hb d_Sw_retreat_7 rfl (lv_at hl 0 rfl) ?_
    refine va_get (D := D) (ci := 5) (v := .ref hm) (C := R_Sw) (T := T_Sw) (N := 6) hx hb hts hin_Sw hown hK hP 0 rfl rfl 0 (by decide) (hts _ wd_201) (fun _ h9 => h9) rfl d_Sw_retreat_8 ?_
    refine lv_iload_n hx hb d_Sw_retreat_11 rfl (lv_at hl 2 rfl) ?_
    have hPc := hP.sub (ws' := [(hm, .inr (4, [.int n, .int seas, .int cen, .ref qh, .ref qn]))]) [1] rfl
    refine vp_callSi (va_Run.run (va_runV (As := [.int a]) (rest := []) ⟨hx, hb, hml, hown, hts⟩ (c_Wm_has l D cI cZ cJ cS aT ceT  hm qh qn n seas cen a ) (cwV 1 hts (tb_4 wd_224 wd_225 wd_226 wd_2 (tb_c wd_227)) rfl rfl rfl ⟨rfl, by decide, by decide, by decide +kernel⟩ ⟨Nat.le_of_ble_eq_true rfl, Nat.le_of_ble_eq_true rfl⟩) (tP_V hK hX hXH hPc (q := 0) rfl rfl) rfl rfl hl.1 rfl (lv_room (Nat.le_of_ble_eq_true rfl)) d_Sw_retreat_12 ⟨Nat.le_of_ble_eq_true rfl, Nat.le_of_ble_eq_true rfl⟩)) (fun r4 hr9 => ?_)
    rcases hr9 with ⟨rfl, hq5⟩ | ⟨rfl, hq5⟩
    · -- 12: true
      refine lv_if_eq (tgt := 29) hx hb d_Sw_retreat_15 (by decide) (fun h0 => absurd h0 (by decide)) (fun _ => ?_)
      refine lv_aload_n hx hb d_Sw_retreat_18 rfl (lv_at hl 0 rfl) ?_
      refine va_get (D := D) (ci := 5) (v := .ref hm) (C := R_Sw) (T := T_Sw) (N := 6) hx hb hts hin_Sw hown hK hP 0 rfl rfl 0 (by decide) (hts _ wd_201) (fun _ h9 => h9) rfl d_Sw_retreat_19 ?_
      refine lv_iload_n hx hb d_Sw_retreat_22 rfl (lv_at hl 3 rfl) ?_
      have hPc := hP.sub (ws' := [(hm, .inr (4, [.int n, .int seas, .int cen, .ref qh, .ref qn]))]) [1] rfl
      refine vp_callSi (va_Run.run (va_runV (As := [.int b]) (rest := []) ⟨hx, hb, hml, hown, hts⟩ (c_Wm_has l D cI cZ cJ cS aT ceT  hm qh qn n seas cen b ) (cwV 1 hts (tb_4 wd_224 wd_225 wd_226 wd_2 (tb_c wd_227)) rfl rfl rfl ⟨rfl, by decide, by decide, by decide +kernel⟩ ⟨Nat.le_of_ble_eq_true rfl, Nat.le_of_ble_eq_true rfl⟩) (tP_V hK hX hXH hPc (q := 0) rfl rfl) rfl rfl hl.1 rfl (lv_room (Nat.le_of_ble_eq_true rfl)) d_Sw_retreat_23 ⟨Nat.le_of_ble_eq_true rfl, Nat.le_of_ble_eq_true rfl⟩)) (fun r7 hr9 => ?_)
      rcases hr9 with ⟨rfl, hq8⟩ | ⟨rfl, hq8⟩
      · -- 23: true
        refine lv_if_ne (tgt := 37) hx hb d_Sw_retreat_26 (by decide) (fun _ => ?_) (fun h0 => absurd h0 (by decide))
        exact absurd (by unfold okT; revert hq2 hq5 hq8; simp only [Int32.lt_iff_toInt_lt, Int32.le_iff_toInt_le, ← Int32.toInt_inj, Int32.reduceToInt, i32_m1]; omega) hno9
      · -- 23: false
        refine lv_if_ne (tgt := 37) hx hb d_Sw_retreat_26 (by decide) (fun h0 => absurd (by decide) h0) (fun _ => ?_)
        exact tx_throwNew (n := 6) hx hb hno hfl hlocks hown (by decide) (by decide) (tx_own1 hts hX) (hts _ wd_328) (hts _ wd_329) (hts _ wd_12) (hl.1.trans hml.symm) d_Sw_retreat_29 d_Sw_retreat_32 d_Sw_retreat_33 d_Sw_retreat_36 (Nat.le_of_ble_eq_true rfl) (Nat.le_of_ble_eq_true rfl) (Nat.le_of_ble_eq_true rfl) (Nat.le_of_ble_eq_true rfl) (Nat.le_refl _)
    · -- 12: false
      refine lv_if_eq (tgt := 29) hx hb d_Sw_retreat_15 (by decide) (fun _ => ?_) (fun h0 => absurd (by decide) h0)
      exact tx_throwNew (n := 6) hx hb hno hfl hlocks hown (by decide) (by decide) (tx_own1 hts hX) (hts _ wd_328) (hts _ wd_329) (hts _ wd_12) (hl.1.trans hml.symm) d_Sw_retreat_29 d_Sw_retreat_32 d_Sw_retreat_33 d_Sw_retreat_36 (Nat.le_of_ble_eq_true rfl) (Nat.le_of_ble_eq_true rfl) (Nat.le_of_ble_eq_true rfl) (Nat.le_of_ble_eq_true rfl) (Nat.le_refl _)
  · -- 1: false
    refine lv_if_eq (tgt := 29) hx hb d_Sw_retreat_4 (by decide) (fun _ => ?_) (fun h0 => absurd (by decide) h0)
    exact tx_throwNew (n := 6) hx hb hno hfl hlocks hown (by decide) (by decide) (tx_own1 hts hX) (hts _ wd_328) (hts _ wd_329) (hts _ wd_12) (hl.1.trans hml.symm) d_Sw_retreat_29 d_Sw_retreat_32 d_Sw_retreat_33 d_Sw_retreat_36 (Nat.le_of_ble_eq_true rfl) (Nat.le_of_ble_eq_true rfl) (Nat.le_of_ble_eq_true rfl) (Nat.le_of_ble_eq_true rfl) (Nat.le_refl _)


set_option maxHeartbeats 4000000 in
set_option maxRecDepth 100000 in
theorem c_Sw_build_t1 (l : Launch) (D : va_G) (cI cZ cJ cS : ClassId) (aT : Nat) (ceT : Cell) (h0 hm hh he ha hp : Nat) (ph : Int32) (qh qn : Nat) (n seas cen : Int32) (pl a k : Int32) (hno9 : ¬ okB pl a k n) (hfl : l.flags = pinnedFlags ++ [noTraceFlag]) : MetT l y_Sw_build w_Sw_build ({ frames := 6, cells := 1, slots := 6, locals := 82 }) (tP D cI cZ cJ cS aT ceT [.ref h0, .int pl, .int a, .int k] [(h0, .inr (5, [.ref hm, .ref hh, .ref he, .ref ha, .ref hp, .int ph])), (hm, .inr (4, [.int n, .int seas, .int cen, .ref qh, .ref qn]))]) tx_iae 1 6 := by
  refine MetT.ofW (cc := b_Sw_build) (maxL := 4) (ret := (some .int)) (by decide) rfl ?_
  intro p e s m args below meth c s₁ B hml hv
  obtain ⟨rfl, hP, hK, hX⟩ := hv
  have hx := B.exec
  have hb := B.bytes
  have hr := B.returns
  have hts0 := atoms_spec (ws := w_Sw_build) B.pre
  have hts : ∀ w ∈ TB, w.before _ s = true := fun w h => hts0 w (List.mem_cons_of_mem _ h)
  have hno := B.noHandlers (hts0 _ (List.mem_cons_self ..))
  have hown : s.vm.findClass R_Sw = some m.cls := findClass_of_methodNamed B.named
  have hlocks := B.notSynchronized
  have hXH : s.heap[aT]? = s.heap[aT]? := rfl
  have hl := lv_entry ([.ref h0, .int pl, .int a, .int k]) (n := 4) (Nat.le_of_ble_eq_true rfl)
  rw [lg_entry_eq]
  generalize (lg_sl ([.ref h0, .int pl, .int a, .int k]) ++ List.replicate (4 - (lg_sl ([.ref h0, .int pl, .int a, .int k])).length) Slot.unset).toArray = ls at hl ⊢
  have hl : lv_has ls 4 [(0, .ref h0), (1, .int pl), (2, .int a), (3, .int k)] := hl
  refine lv_iload_n hx hb d_Sw_build_0 rfl (lv_at hl 1 rfl) ?_
  have hPc := hP.sub (ws' := []) [] rfl
  refine vp_callSi (va_Run.run (va_runS (As := [.int pl]) (rest := []) ⟨hx, hb, hml, hown, hts⟩ (c_Sw_isPlayer l D cI cZ cJ cS aT ceT  pl ) (va_cwS 1 hts (tb_3 wd_299 wd_300 wd_1 (tb_c wd_301)) rfl rfl rfl ⟨by decide, by decide, by decide +kernel⟩ ⟨Nat.le_of_ble_eq_true rfl, Nat.le_of_ble_eq_true rfl⟩) (tP_S hK hX hXH hPc) rfl rfl hl.1 rfl (lv_room (Nat.le_of_ble_eq_true rfl)) d_Sw_build_1 ⟨Nat.le_of_ble_eq_true rfl, Nat.le_of_ble_eq_true rfl⟩)) (fun r1 hr9 => ?_)
  rcases hr9 with ⟨rfl, hq2⟩ | ⟨rfl, hq2⟩
  · -- 1: true
    refine lv_if_eq (tgt := 27) hx hb d_Sw_build_4 (by decide) (fun h0 => absurd h0 (by decide)) (fun _ => ?_)
    refine lv_aload_n hx hb d_Sw_build_7 rfl (lv_at hl 0 rfl) ?_
    refine va_get (D := D) (ci := 5) (v := .ref hm) (C := R_Sw) (T := T_Sw) (N := 6) hx hb hts hin_Sw hown hK hP 0 rfl rfl 0 (by decide) (hts _ wd_201) (fun _ h9 => h9) rfl d_Sw_build_8 ?_
    refine lv_iload_n hx hb d_Sw_build_11 rfl (lv_at hl 2 rfl) ?_
    have hPc := hP.sub (ws' := [(hm, .inr (4, [.int n, .int seas, .int cen, .ref qh, .ref qn]))]) [1] rfl
    refine vp_callSi (va_Run.run (va_runV (As := [.int a]) (rest := []) ⟨hx, hb, hml, hown, hts⟩ (c_Wm_has l D cI cZ cJ cS aT ceT  hm qh qn n seas cen a ) (cwV 1 hts (tb_4 wd_224 wd_225 wd_226 wd_2 (tb_c wd_227)) rfl rfl rfl ⟨rfl, by decide, by decide, by decide +kernel⟩ ⟨Nat.le_of_ble_eq_true rfl, Nat.le_of_ble_eq_true rfl⟩) (tP_V hK hX hXH hPc (q := 0) rfl rfl) rfl rfl hl.1 rfl (lv_room (Nat.le_of_ble_eq_true rfl)) d_Sw_build_12 ⟨Nat.le_of_ble_eq_true rfl, Nat.le_of_ble_eq_true rfl⟩)) (fun r4 hr9 => ?_)
    rcases hr9 with ⟨rfl, hq5⟩ | ⟨rfl, hq5⟩
    · -- 12: true
      refine lv_if_eq (tgt := 27) hx hb d_Sw_build_15 (by decide) (fun h0 => absurd h0 (by decide)) (fun _ => ?_)
      refine lv_iload_n hx hb d_Sw_build_18 rfl (lv_at hl 3 rfl) ?_
      refine lv_if_lt (tgt := 27) hx hb d_Sw_build_19 (by decide) (fun hc7 => ?_) (fun hc7 => ?_)
      · -- 19 taken
        exact tx_throwNew (n := 6) hx hb hno hfl hlocks hown (by decide) (by decide) (tx_own1 hts hX) (hts _ wd_328) (hts _ wd_329) (hts _ wd_12) (hl.1.trans hml.symm) d_Sw_build_27 d_Sw_build_30 d_Sw_build_31 d_Sw_build_34 (Nat.le_of_ble_eq_true rfl) (Nat.le_of_ble_eq_true rfl) (Nat.le_of_ble_eq_true rfl) (Nat.le_of_ble_eq_true rfl) (Nat.le_refl _)
      · -- 19 not taken
        refine lv_iload_n hx hb d_Sw_build_22 rfl (lv_at hl 3 rfl) ?_
        refine lv_iconst (v := 2) hx hb d_Sw_build_23 (by decide) ?_
        refine lv_icmp_le (tgt := 35) hx hb d_Sw_build_24 (by decide) (fun hc8 => ?_) (fun hc8 => ?_)
        · -- 24 taken
          exact absurd (by unfold okB; revert hq2 hq5 hc7 hc8; simp only [Int32.lt_iff_toInt_lt, Int32.le_iff_toInt_le, ← Int32.toInt_inj, Int32.reduceToInt, i32_m1]; omega) hno9
        · -- 24 not taken
          exact tx_throwNew (n := 6) hx hb hno hfl hlocks hown (by decide) (by decide) (tx_own1 hts hX) (hts _ wd_328) (hts _ wd_329) (hts _ wd_12) (hl.1.trans hml.symm) d_Sw_build_27 d_Sw_build_30 d_Sw_build_31 d_Sw_build_34 (Nat.le_of_ble_eq_true rfl) (Nat.le_of_ble_eq_true rfl) (Nat.le_of_ble_eq_true rfl) (Nat.le_of_ble_eq_true rfl) (Nat.le_refl _)
    · -- 12: false
      refine lv_if_eq (tgt := 27) hx hb d_Sw_build_15 (by decide) (fun _ => ?_) (fun h0 => absurd (by decide) h0)
      exact tx_throwNew (n := 6) hx hb hno hfl hlocks hown (by decide) (by decide) (tx_own1 hts hX) (hts _ wd_328) (hts _ wd_329) (hts _ wd_12) (hl.1.trans hml.symm) d_Sw_build_27 d_Sw_build_30 d_Sw_build_31 d_Sw_build_34 (Nat.le_of_ble_eq_true rfl) (Nat.le_of_ble_eq_true rfl) (Nat.le_of_ble_eq_true rfl) (Nat.le_of_ble_eq_true rfl) (Nat.le_refl _)
  · -- 1: false
    refine lv_if_eq (tgt := 27) hx hb d_Sw_build_4 (by decide) (fun _ => ?_) (fun h0 => absurd (by decide) h0)
    exact tx_throwNew (n := 6) hx hb hno hfl hlocks hown (by decide) (by decide) (tx_own1 hts hX) (hts _ wd_328) (hts _ wd_329) (hts _ wd_12) (hl.1.trans hml.symm) d_Sw_build_27 d_Sw_build_30 d_Sw_build_31 d_Sw_build_34 (Nat.le_of_ble_eq_true rfl) (Nat.le_of_ble_eq_true rfl) (Nat.le_of_ble_eq_true rfl) (Nat.le_of_ble_eq_true rfl) (Nat.le_refl _)


set_option maxHeartbeats 4000000 in
set_option maxRecDepth 100000 in
theorem c_Sw_order_t2 (l : Launch) (D : va_G) (cI cZ cJ cS : ClassId) (aT : Nat) (ceT : Cell) (h0 hm hh he ha hp : Nat) (ph : Int32) (qh qn : Nat) (n seas cen : Int32) (pl a k x y : Int32) (hok : okO pl a k x y n) (hph : ¬ ph = 1) (hfl : l.flags = pinnedFlags ++ [noTraceFlag]) : MetT l y_Sw_order w_Sw_order ({ frames := 6, cells := 1, slots := 6, locals := 82 }) (tP D cI cZ cJ cS aT ceT [.ref h0, .int pl, .int a, .int k, .int x, .int y] [(h0, .inr (5, [.ref hm, .ref hh, .ref he, .ref ha, .ref hp, .int ph])), (hm, .inr (4, [.int n, .int seas, .int cen, .ref qh, .ref qn]))]) tx_ise 1 6 := by
  refine MetT.ofW (cc := b_Sw_order) (maxL := 6) (ret := (some .int)) (by decide) rfl ?_
  intro p e s m args below meth c s₁ B hml hv
  obtain ⟨rfl, hP, hK, hX⟩ := hv
  have hx := B.exec
  have hb := B.bytes
  have hr := B.returns
  have hts0 := atoms_spec (ws := w_Sw_order) B.pre
  have hts : ∀ w ∈ TB, w.before _ s = true := fun w h => hts0 w (List.mem_cons_of_mem _ h)
  have hno := B.noHandlers (hts0 _ (List.mem_cons_self ..))
  have hown : s.vm.findClass R_Sw = some m.cls := findClass_of_methodNamed B.named
  have hlocks := B.notSynchronized
  have hXH : s.heap[aT]? = s.heap[aT]? := rfl
  have hl := lv_entry ([.ref h0, .int pl, .int a, .int k, .int x, .int y]) (n := 6) (Nat.le_of_ble_eq_true rfl)
  rw [lg_entry_eq]
  generalize (lg_sl ([.ref h0, .int pl, .int a, .int k, .int x, .int y]) ++ List.replicate (6 - (lg_sl ([.ref h0, .int pl, .int a, .int k, .int x, .int y])).length) Slot.unset).toArray = ls at hl ⊢
  have hl : lv_has ls 6 [(0, .ref h0), (1, .int pl), (2, .int a), (3, .int k), (4, .int x), (5, .int y)] := hl
  refine lv_iload_n hx hb d_Sw_order_0 rfl (lv_at hl 1 rfl) ?_
  have hPc := hP.sub (ws' := []) [] rfl
  refine vp_callSi (va_Run.run (va_runS (As := [.int pl]) (rest := []) ⟨hx, hb, hml, hown, hts⟩ (c_Sw_isPlayer l D cI cZ cJ cS aT ceT  pl ) (va_cwS 1 hts (tb_3 wd_299 wd_300 wd_1 (tb_c wd_301)) rfl rfl rfl ⟨by decide, by decide, by decide +kernel⟩ ⟨Nat.le_of_ble_eq_true rfl, Nat.le_of_ble_eq_true rfl⟩) (tP_S hK hX hXH hPc) rfl rfl hl.1 rfl (lv_room (Nat.le_of_ble_eq_true rfl)) d_Sw_order_1 ⟨Nat.le_of_ble_eq_true rfl, Nat.le_of_ble_eq_true rfl⟩)) (fun r1 hr9 => ?_)
  rcases hr9 with ⟨rfl, hq2⟩ | ⟨rfl, hq2⟩
  · -- 1: true
    refine lv_if_eq (tgt := 27) hx hb d_Sw_order_4 (by decide) (fun h0 => absurd h0 (by decide)) (fun _ => ?_)
    refine lv_aload_n hx hb d_Sw_order_7 rfl (lv_at hl 0 rfl) ?_
    refine va_get (D := D) (ci := 5) (v := .ref hm) (C := R_Sw) (T := T_Sw) (N := 6) hx hb hts hin_Sw hown hK hP 0 rfl rfl 0 (by decide) (hts _ wd_201) (fun _ h9 => h9) rfl d_Sw_order_8 ?_
    refine lv_iload_n hx hb d_Sw_order_11 rfl (lv_at hl 2 rfl) ?_
    have hPc := hP.sub (ws' := [(hm, .inr (4, [.int n, .int seas, .int cen, .ref qh, .ref qn]))]) [1] rfl
    refine vp_callSi (va_Run.run (va_runV (As := [.int a]) (rest := []) ⟨hx, hb, hml, hown, hts⟩ (c_Wm_has l D cI cZ cJ cS aT ceT  hm qh qn n seas cen a ) (cwV 1 hts (tb_4 wd_224 wd_225 wd_226 wd_2 (tb_c wd_227)) rfl rfl rfl ⟨rfl, by decide, by decide, by decide +kernel⟩ ⟨Nat.le_of_ble_eq_true rfl, Nat.le_of_ble_eq_true rfl⟩) (tP_V hK hX hXH hPc (q := 0) rfl rfl) rfl rfl hl.1 rfl (lv_room (Nat.le_of_ble_eq_true rfl)) d_Sw_order_12 ⟨Nat.le_of_ble_eq_true rfl, Nat.le_of_ble_eq_true rfl⟩)) (fun r4 hr9 => ?_)
    rcases hr9 with ⟨rfl, hq5⟩ | ⟨rfl, hq5⟩
    · -- 12: true
      refine lv_if_eq (tgt := 27) hx hb d_Sw_order_15 (by decide) (fun h0 => absurd h0 (by decide)) (fun _ => ?_)
      refine lv_iload_n hx hb d_Sw_order_18 rfl (lv_at hl 3 rfl) ?_
      refine lv_if_lt (tgt := 27) hx hb d_Sw_order_19 (by decide) (fun hc7 => ?_) (fun hc7 => ?_)
      · -- 19 taken
        exact False.elim (by unfold okO at hok; revert hok hq2 hq5 hc7; simp only [Int32.lt_iff_toInt_lt, Int32.le_iff_toInt_le, ← Int32.toInt_inj, Int32.reduceToInt, i32_m1]; omega)
      · -- 19 not taken
        refine lv_iload_n hx hb d_Sw_order_22 rfl (lv_at hl 3 rfl) ?_
        refine lv_iconst (v := 3) hx hb d_Sw_order_23 (by decide) ?_
        refine lv_icmp_le (tgt := 35) hx hb d_Sw_order_24 (by decide) (fun hc8 => ?_) (fun hc8 => ?_)
        · -- 24 taken
          refine lv_iload_n hx hb d_Sw_order_35 rfl (lv_at hl 3 rfl) ?_
          have hPc := hP.sub (ws' := []) [] rfl
          refine vp_callSi (va_Run.run (va_runS (As := [.int k]) (rest := []) ⟨hx, hb, hml, hown, hts⟩ (c_Sw_hasX l D cI cZ cJ cS aT ceT  k ) (va_cwS 1 hts (tb_3 wd_459 wd_460 wd_1 (tb_c wd_461)) rfl rfl rfl ⟨by decide, by decide, by decide +kernel⟩ ⟨Nat.le_of_ble_eq_true rfl, Nat.le_of_ble_eq_true rfl⟩) (tP_S hK hX hXH hPc) rfl rfl hl.1 rfl (lv_room (Nat.le_of_ble_eq_true rfl)) d_Sw_order_36 ⟨Nat.le_of_ble_eq_true rfl, Nat.le_of_ble_eq_true rfl⟩)) (fun r9 hr9 => ?_)
          rcases hr9 with ⟨rfl, hq10⟩ | ⟨rfl, hq10⟩
          · -- 36: true
            refine lv_if_eq (tgt := 54) hx hb d_Sw_order_39 (by decide) (fun h0 => absurd h0 (by decide)) (fun _ => ?_)
            refine lv_aload_n hx hb d_Sw_order_42 rfl (lv_at hl 0 rfl) ?_
            refine va_get (D := D) (ci := 5) (v := .ref hm) (C := R_Sw) (T := T_Sw) (N := 6) hx hb hts hin_Sw hown hK hP 0 rfl rfl 0 (by decide) (hts _ wd_201) (fun _ h9 => h9) rfl d_Sw_order_43 ?_
            refine lv_iload hx hb d_Sw_order_46 (lv_at hl 4 rfl) ?_
            have hPc := hP.sub (ws' := [(hm, .inr (4, [.int n, .int seas, .int cen, .ref qh, .ref qn]))]) [1] rfl
            refine vp_callSi (va_Run.run (va_runV (As := [.int x]) (rest := []) ⟨hx, hb, hml, hown, hts⟩ (c_Wm_has l D cI cZ cJ cS aT ceT  hm qh qn n seas cen x ) (cwV 1 hts (tb_4 wd_224 wd_225 wd_226 wd_2 (tb_c wd_227)) rfl rfl rfl ⟨rfl, by decide, by decide, by decide +kernel⟩ ⟨Nat.le_of_ble_eq_true rfl, Nat.le_of_ble_eq_true rfl⟩) (tP_V hK hX hXH hPc (q := 0) rfl rfl) rfl rfl hl.1 rfl (lv_room (Nat.le_of_ble_eq_true rfl)) d_Sw_order_48 ⟨Nat.le_of_ble_eq_true rfl, Nat.le_of_ble_eq_true rfl⟩)) (fun r12 hr9 => ?_)
            rcases hr9 with ⟨rfl, hq13⟩ | ⟨rfl, hq13⟩
            · -- 48: true
              refine lv_if_eq (tgt := 73) hx hb d_Sw_order_51 (by decide) (fun h0 => absurd h0 (by decide)) (fun _ => ?_)
              refine lv_iload_n hx hb d_Sw_order_54 rfl (lv_at hl 3 rfl) ?_
              have hPc := hP.sub (ws' := []) [] rfl
              refine vp_callSi (va_Run.run (va_runS (As := [.int k]) (rest := []) ⟨hx, hb, hml, hown, hts⟩ (c_Sw_hasY l D cI cZ cJ cS aT ceT  k ) (va_cwS 1 hts (tb_3 wd_462 wd_463 wd_1 (tb_c wd_464)) rfl rfl rfl ⟨by decide, by decide, by decide +kernel⟩ ⟨Nat.le_of_ble_eq_true rfl, Nat.le_of_ble_eq_true rfl⟩) (tP_S hK hX hXH hPc) rfl rfl hl.1 rfl (lv_room (Nat.le_of_ble_eq_true rfl)) d_Sw_order_55 ⟨Nat.le_of_ble_eq_true rfl, Nat.le_of_ble_eq_true rfl⟩)) (fun r15 hr9 => ?_)
              rcases hr9 with ⟨rfl, hq16⟩ | ⟨rfl, hq16⟩
              · -- 55: true
                refine lv_if_eq (tgt := 81) hx hb d_Sw_order_58 (by decide) (fun h0 => absurd h0 (by decide)) (fun _ => ?_)
                refine lv_aload_n hx hb d_Sw_order_61 rfl (lv_at hl 0 rfl) ?_
                refine va_get (D := D) (ci := 5) (v := .ref hm) (C := R_Sw) (T := T_Sw) (N := 6) hx hb hts hin_Sw hown hK hP 0 rfl rfl 0 (by decide) (hts _ wd_201) (fun _ h9 => h9) rfl d_Sw_order_62 ?_
                refine lv_iload hx hb d_Sw_order_65 (lv_at hl 5 rfl) ?_
                have hPc := hP.sub (ws' := [(hm, .inr (4, [.int n, .int seas, .int cen, .ref qh, .ref qn]))]) [1] rfl
                refine vp_callSi (va_Run.run (va_runV (As := [.int y]) (rest := []) ⟨hx, hb, hml, hown, hts⟩ (c_Wm_has l D cI cZ cJ cS aT ceT  hm qh qn n seas cen y ) (cwV 1 hts (tb_4 wd_224 wd_225 wd_226 wd_2 (tb_c wd_227)) rfl rfl rfl ⟨rfl, by decide, by decide, by decide +kernel⟩ ⟨Nat.le_of_ble_eq_true rfl, Nat.le_of_ble_eq_true rfl⟩) (tP_V hK hX hXH hPc (q := 0) rfl rfl) rfl rfl hl.1 rfl (lv_room (Nat.le_of_ble_eq_true rfl)) d_Sw_order_67 ⟨Nat.le_of_ble_eq_true rfl, Nat.le_of_ble_eq_true rfl⟩)) (fun r18 hr9 => ?_)
                rcases hr9 with ⟨rfl, hq19⟩ | ⟨rfl, hq19⟩
                · -- 67: true
                  refine lv_if_ne (tgt := 81) hx hb d_Sw_order_70 (by decide) (fun _ => ?_) (fun h0 => absurd h0 (by decide))
                  refine lv_aload_n hx hb d_Sw_order_81 rfl (lv_at hl 0 rfl) ?_
                  refine va_get (D := D) (ci := 5) (v := .int ph) (C := R_Sw) (T := T_Sw) (N := 6) hx hb hts hin_Sw hown hK hP 0 rfl rfl 5 (by decide) (hts _ wd_206) (fun _ h9 => h9) rfl d_Sw_order_82 ?_
                  refine lv_iconst (v := 1) hx hb d_Sw_order_85 (by decide) ?_
                  refine lv_icmp_eq (tgt := 97) hx hb d_Sw_order_86 (by decide) (fun hc21 => ?_) (fun hc21 => ?_)
                  · -- 86 taken
                    exact absurd hc21 hph
                  · -- 86 not taken
                    exact tx_throwNew (n := 6) hx hb hno hfl hlocks hown (by decide) (by decide) (tx_own2 hts hX) (hts _ wd_390) (hts _ wd_391) (hts _ wd_13) (hl.1.trans hml.symm) d_Sw_order_89 d_Sw_order_92 d_Sw_order_93 d_Sw_order_96 (Nat.le_of_ble_eq_true rfl) (Nat.le_of_ble_eq_true rfl) (Nat.le_of_ble_eq_true rfl) (Nat.le_of_ble_eq_true rfl) (Nat.le_refl _)
                · -- 67: false
                  refine lv_if_ne (tgt := 81) hx hb d_Sw_order_70 (by decide) (fun h0 => absurd (by decide) h0) (fun _ => ?_)
                  exact False.elim (by unfold okO at hok; revert hok hq2 hq5 hc7 hc8 hq10 hq13 hq16 hq19; simp only [Int32.lt_iff_toInt_lt, Int32.le_iff_toInt_le, ← Int32.toInt_inj, Int32.reduceToInt, i32_m1]; omega)
              · -- 55: false
                refine lv_if_eq (tgt := 81) hx hb d_Sw_order_58 (by decide) (fun _ => ?_) (fun h0 => absurd (by decide) h0)
                refine lv_aload_n hx hb d_Sw_order_81 rfl (lv_at hl 0 rfl) ?_
                refine va_get (D := D) (ci := 5) (v := .int ph) (C := R_Sw) (T := T_Sw) (N := 6) hx hb hts hin_Sw hown hK hP 0 rfl rfl 5 (by decide) (hts _ wd_206) (fun _ h9 => h9) rfl d_Sw_order_82 ?_
                refine lv_iconst (v := 1) hx hb d_Sw_order_85 (by decide) ?_
                refine lv_icmp_eq (tgt := 97) hx hb d_Sw_order_86 (by decide) (fun hc24 => ?_) (fun hc24 => ?_)
                · -- 86 taken
                  exact absurd hc24 hph
                · -- 86 not taken
                  exact tx_throwNew (n := 6) hx hb hno hfl hlocks hown (by decide) (by decide) (tx_own2 hts hX) (hts _ wd_390) (hts _ wd_391) (hts _ wd_13) (hl.1.trans hml.symm) d_Sw_order_89 d_Sw_order_92 d_Sw_order_93 d_Sw_order_96 (Nat.le_of_ble_eq_true rfl) (Nat.le_of_ble_eq_true rfl) (Nat.le_of_ble_eq_true rfl) (Nat.le_of_ble_eq_true rfl) (Nat.le_refl _)
            · -- 48: false
              refine lv_if_eq (tgt := 73) hx hb d_Sw_order_51 (by decide) (fun _ => ?_) (fun h0 => absurd (by decide) h0)
              exact False.elim (by unfold okO at hok; revert hok hq2 hq5 hc7 hc8 hq10 hq13; simp only [Int32.lt_iff_toInt_lt, Int32.le_iff_toInt_le, ← Int32.toInt_inj, Int32.reduceToInt, i32_m1]; omega)
          · -- 36: false
            refine lv_if_eq (tgt := 54) hx hb d_Sw_order_39 (by decide) (fun _ => ?_) (fun h0 => absurd (by decide) h0)
            refine lv_iload_n hx hb d_Sw_order_54 rfl (lv_at hl 3 rfl) ?_
            have hPc := hP.sub (ws' := []) [] rfl
            refine vp_callSi (va_Run.run (va_runS (As := [.int k]) (rest := []) ⟨hx, hb, hml, hown, hts⟩ (c_Sw_hasY l D cI cZ cJ cS aT ceT  k ) (va_cwS 1 hts (tb_3 wd_462 wd_463 wd_1 (tb_c wd_464)) rfl rfl rfl ⟨by decide, by decide, by decide +kernel⟩ ⟨Nat.le_of_ble_eq_true rfl, Nat.le_of_ble_eq_true rfl⟩) (tP_S hK hX hXH hPc) rfl rfl hl.1 rfl (lv_room (Nat.le_of_ble_eq_true rfl)) d_Sw_order_55 ⟨Nat.le_of_ble_eq_true rfl, Nat.le_of_ble_eq_true rfl⟩)) (fun r27 hr9 => ?_)
            rcases hr9 with ⟨rfl, hq28⟩ | ⟨rfl, hq28⟩
            · -- 55: true
              refine lv_if_eq (tgt := 81) hx hb d_Sw_order_58 (by decide) (fun h0 => absurd h0 (by decide)) (fun _ => ?_)
              refine lv_aload_n hx hb d_Sw_order_61 rfl (lv_at hl 0 rfl) ?_
              refine va_get (D := D) (ci := 5) (v := .ref hm) (C := R_Sw) (T := T_Sw) (N := 6) hx hb hts hin_Sw hown hK hP 0 rfl rfl 0 (by decide) (hts _ wd_201) (fun _ h9 => h9) rfl d_Sw_order_62 ?_
              refine lv_iload hx hb d_Sw_order_65 (lv_at hl 5 rfl) ?_
              have hPc := hP.sub (ws' := [(hm, .inr (4, [.int n, .int seas, .int cen, .ref qh, .ref qn]))]) [1] rfl
              refine vp_callSi (va_Run.run (va_runV (As := [.int y]) (rest := []) ⟨hx, hb, hml, hown, hts⟩ (c_Wm_has l D cI cZ cJ cS aT ceT  hm qh qn n seas cen y ) (cwV 1 hts (tb_4 wd_224 wd_225 wd_226 wd_2 (tb_c wd_227)) rfl rfl rfl ⟨rfl, by decide, by decide, by decide +kernel⟩ ⟨Nat.le_of_ble_eq_true rfl, Nat.le_of_ble_eq_true rfl⟩) (tP_V hK hX hXH hPc (q := 0) rfl rfl) rfl rfl hl.1 rfl (lv_room (Nat.le_of_ble_eq_true rfl)) d_Sw_order_67 ⟨Nat.le_of_ble_eq_true rfl, Nat.le_of_ble_eq_true rfl⟩)) (fun r30 hr9 => ?_)
              rcases hr9 with ⟨rfl, hq31⟩ | ⟨rfl, hq31⟩
              · -- 67: true
                refine lv_if_ne (tgt := 81) hx hb d_Sw_order_70 (by decide) (fun _ => ?_) (fun h0 => absurd h0 (by decide))
                refine lv_aload_n hx hb d_Sw_order_81 rfl (lv_at hl 0 rfl) ?_
                refine va_get (D := D) (ci := 5) (v := .int ph) (C := R_Sw) (T := T_Sw) (N := 6) hx hb hts hin_Sw hown hK hP 0 rfl rfl 5 (by decide) (hts _ wd_206) (fun _ h9 => h9) rfl d_Sw_order_82 ?_
                refine lv_iconst (v := 1) hx hb d_Sw_order_85 (by decide) ?_
                refine lv_icmp_eq (tgt := 97) hx hb d_Sw_order_86 (by decide) (fun hc33 => ?_) (fun hc33 => ?_)
                · -- 86 taken
                  exact absurd hc33 hph
                · -- 86 not taken
                  exact tx_throwNew (n := 6) hx hb hno hfl hlocks hown (by decide) (by decide) (tx_own2 hts hX) (hts _ wd_390) (hts _ wd_391) (hts _ wd_13) (hl.1.trans hml.symm) d_Sw_order_89 d_Sw_order_92 d_Sw_order_93 d_Sw_order_96 (Nat.le_of_ble_eq_true rfl) (Nat.le_of_ble_eq_true rfl) (Nat.le_of_ble_eq_true rfl) (Nat.le_of_ble_eq_true rfl) (Nat.le_refl _)
              · -- 67: false
                refine lv_if_ne (tgt := 81) hx hb d_Sw_order_70 (by decide) (fun h0 => absurd (by decide) h0) (fun _ => ?_)
                exact False.elim (by unfold okO at hok; revert hok hq2 hq5 hc7 hc8 hq10 hq28 hq31; simp only [Int32.lt_iff_toInt_lt, Int32.le_iff_toInt_le, ← Int32.toInt_inj, Int32.reduceToInt, i32_m1]; omega)
            · -- 55: false
              refine lv_if_eq (tgt := 81) hx hb d_Sw_order_58 (by decide) (fun _ => ?_) (fun h0 => absurd (by decide) h0)
              refine lv_aload_n hx hb d_Sw_order_81 rfl (lv_at hl 0 rfl) ?_
              refine va_get (D := D) (ci := 5) (v := .int ph) (C := R_Sw) (T := T_Sw) (N := 6) hx hb hts hin_Sw hown hK hP 0 rfl rfl 5 (by decide) (hts _ wd_206) (fun _ h9 => h9) rfl d_Sw_order_82 ?_
              refine lv_iconst (v := 1) hx hb d_Sw_order_85 (by decide) ?_
              refine lv_icmp_eq (tgt := 97) hx hb d_Sw_order_86 (by decide) (fun hc36 => ?_) (fun hc36 => ?_)
              · -- 86 taken
                exact absurd hc36 hph
              · -- 86 not taken
                exact tx_throwNew (n := 6) hx hb hno hfl hlocks hown (by decide) (by decide) (tx_own2 hts hX) (hts _ wd_390) (hts _ wd_391) (hts _ wd_13) (hl.1.trans hml.symm) d_Sw_order_89 d_Sw_order_92 d_Sw_order_93 d_Sw_order_96 (Nat.le_of_ble_eq_true rfl) (Nat.le_of_ble_eq_true rfl) (Nat.le_of_ble_eq_true rfl) (Nat.le_of_ble_eq_true rfl) (Nat.le_refl _)
        · -- 24 not taken
          exact False.elim (by unfold okO at hok; revert hok hq2 hq5 hc7 hc8; simp only [Int32.lt_iff_toInt_lt, Int32.le_iff_toInt_le, ← Int32.toInt_inj, Int32.reduceToInt, i32_m1]; omega)
    · -- 12: false
      refine lv_if_eq (tgt := 27) hx hb d_Sw_order_15 (by decide) (fun _ => ?_) (fun h0 => absurd (by decide) h0)
      exact False.elim (by unfold okO at hok; revert hok hq2 hq5; simp only [Int32.lt_iff_toInt_lt, Int32.le_iff_toInt_le, ← Int32.toInt_inj, Int32.reduceToInt, i32_m1]; omega)
  · -- 1: false
    refine lv_if_eq (tgt := 27) hx hb d_Sw_order_4 (by decide) (fun _ => ?_) (fun h0 => absurd (by decide) h0)
    exact False.elim (by unfold okO at hok; revert hok hq2; simp only [Int32.lt_iff_toInt_lt, Int32.le_iff_toInt_le, ← Int32.toInt_inj, Int32.reduceToInt, i32_m1]; omega)


set_option maxHeartbeats 4000000 in
set_option maxRecDepth 100000 in
theorem c_Sw_retreat_t2 (l : Launch) (D : va_G) (cI cZ cJ cS : ClassId) (aT : Nat) (ceT : Cell) (h0 hm hh he ha hp : Nat) (ph : Int32) (qh qn : Nat) (n seas cen : Int32) (pl a b : Int32) (hok : okT pl a b n) (hph : ¬ ph = 2) (hfl : l.flags = pinnedFlags ++ [noTraceFlag]) : MetT l y_Sw_retreat w_Sw_retreat ({ frames := 6, cells := 1, slots := 6, locals := 82 }) (tP D cI cZ cJ cS aT ceT [.ref h0, .int pl, .int a, .int b] [(h0, .inr (5, [.ref hm, .ref hh, .ref he, .ref ha, .ref hp, .int ph])), (hm, .inr (4, [.int n, .int seas, .int cen, .ref qh, .ref qn]))]) tx_ise 1 6 := by
  refine MetT.ofW (cc := b_Sw_retreat) (maxL := 4) (ret := (some .int)) (by decide) rfl ?_
  intro p e s m args below meth c s₁ B hml hv
  obtain ⟨rfl, hP, hK, hX⟩ := hv
  have hx := B.exec
  have hb := B.bytes
  have hr := B.returns
  have hts0 := atoms_spec (ws := w_Sw_retreat) B.pre
  have hts : ∀ w ∈ TB, w.before _ s = true := fun w h => hts0 w (List.mem_cons_of_mem _ h)
  have hno := B.noHandlers (hts0 _ (List.mem_cons_self ..))
  have hown : s.vm.findClass R_Sw = some m.cls := findClass_of_methodNamed B.named
  have hlocks := B.notSynchronized
  have hXH : s.heap[aT]? = s.heap[aT]? := rfl
  have hl := lv_entry ([.ref h0, .int pl, .int a, .int b]) (n := 4) (Nat.le_of_ble_eq_true rfl)
  rw [lg_entry_eq]
  generalize (lg_sl ([.ref h0, .int pl, .int a, .int b]) ++ List.replicate (4 - (lg_sl ([.ref h0, .int pl, .int a, .int b])).length) Slot.unset).toArray = ls at hl ⊢
  have hl : lv_has ls 4 [(0, .ref h0), (1, .int pl), (2, .int a), (3, .int b)] := hl
  refine lv_iload_n hx hb d_Sw_retreat_0 rfl (lv_at hl 1 rfl) ?_
  have hPc := hP.sub (ws' := []) [] rfl
  refine vp_callSi (va_Run.run (va_runS (As := [.int pl]) (rest := []) ⟨hx, hb, hml, hown, hts⟩ (c_Sw_isPlayer l D cI cZ cJ cS aT ceT  pl ) (va_cwS 1 hts (tb_3 wd_299 wd_300 wd_1 (tb_c wd_301)) rfl rfl rfl ⟨by decide, by decide, by decide +kernel⟩ ⟨Nat.le_of_ble_eq_true rfl, Nat.le_of_ble_eq_true rfl⟩) (tP_S hK hX hXH hPc) rfl rfl hl.1 rfl (lv_room (Nat.le_of_ble_eq_true rfl)) d_Sw_retreat_1 ⟨Nat.le_of_ble_eq_true rfl, Nat.le_of_ble_eq_true rfl⟩)) (fun r1 hr9 => ?_)
  rcases hr9 with ⟨rfl, hq2⟩ | ⟨rfl, hq2⟩
  · -- 1: true
    refine lv_if_eq (tgt := 29) hx hb d_Sw_retreat_4 (by decide) (fun h0 => absurd h0 (by decide)) (fun _ => ?_)
    refine lv_aload_n hx hb d_Sw_retreat_7 rfl (lv_at hl 0 rfl) ?_
    refine va_get (D := D) (ci := 5) (v := .ref hm) (C := R_Sw) (T := T_Sw) (N := 6) hx hb hts hin_Sw hown hK hP 0 rfl rfl 0 (by decide) (hts _ wd_201) (fun _ h9 => h9) rfl d_Sw_retreat_8 ?_
    refine lv_iload_n hx hb d_Sw_retreat_11 rfl (lv_at hl 2 rfl) ?_
    have hPc := hP.sub (ws' := [(hm, .inr (4, [.int n, .int seas, .int cen, .ref qh, .ref qn]))]) [1] rfl
    refine vp_callSi (va_Run.run (va_runV (As := [.int a]) (rest := []) ⟨hx, hb, hml, hown, hts⟩ (c_Wm_has l D cI cZ cJ cS aT ceT  hm qh qn n seas cen a ) (cwV 1 hts (tb_4 wd_224 wd_225 wd_226 wd_2 (tb_c wd_227)) rfl rfl rfl ⟨rfl, by decide, by decide, by decide +kernel⟩ ⟨Nat.le_of_ble_eq_true rfl, Nat.le_of_ble_eq_true rfl⟩) (tP_V hK hX hXH hPc (q := 0) rfl rfl) rfl rfl hl.1 rfl (lv_room (Nat.le_of_ble_eq_true rfl)) d_Sw_retreat_12 ⟨Nat.le_of_ble_eq_true rfl, Nat.le_of_ble_eq_true rfl⟩)) (fun r4 hr9 => ?_)
    rcases hr9 with ⟨rfl, hq5⟩ | ⟨rfl, hq5⟩
    · -- 12: true
      refine lv_if_eq (tgt := 29) hx hb d_Sw_retreat_15 (by decide) (fun h0 => absurd h0 (by decide)) (fun _ => ?_)
      refine lv_aload_n hx hb d_Sw_retreat_18 rfl (lv_at hl 0 rfl) ?_
      refine va_get (D := D) (ci := 5) (v := .ref hm) (C := R_Sw) (T := T_Sw) (N := 6) hx hb hts hin_Sw hown hK hP 0 rfl rfl 0 (by decide) (hts _ wd_201) (fun _ h9 => h9) rfl d_Sw_retreat_19 ?_
      refine lv_iload_n hx hb d_Sw_retreat_22 rfl (lv_at hl 3 rfl) ?_
      have hPc := hP.sub (ws' := [(hm, .inr (4, [.int n, .int seas, .int cen, .ref qh, .ref qn]))]) [1] rfl
      refine vp_callSi (va_Run.run (va_runV (As := [.int b]) (rest := []) ⟨hx, hb, hml, hown, hts⟩ (c_Wm_has l D cI cZ cJ cS aT ceT  hm qh qn n seas cen b ) (cwV 1 hts (tb_4 wd_224 wd_225 wd_226 wd_2 (tb_c wd_227)) rfl rfl rfl ⟨rfl, by decide, by decide, by decide +kernel⟩ ⟨Nat.le_of_ble_eq_true rfl, Nat.le_of_ble_eq_true rfl⟩) (tP_V hK hX hXH hPc (q := 0) rfl rfl) rfl rfl hl.1 rfl (lv_room (Nat.le_of_ble_eq_true rfl)) d_Sw_retreat_23 ⟨Nat.le_of_ble_eq_true rfl, Nat.le_of_ble_eq_true rfl⟩)) (fun r7 hr9 => ?_)
      rcases hr9 with ⟨rfl, hq8⟩ | ⟨rfl, hq8⟩
      · -- 23: true
        refine lv_if_ne (tgt := 37) hx hb d_Sw_retreat_26 (by decide) (fun _ => ?_) (fun h0 => absurd h0 (by decide))
        refine lv_aload_n hx hb d_Sw_retreat_37 rfl (lv_at hl 0 rfl) ?_
        refine va_get (D := D) (ci := 5) (v := .int ph) (C := R_Sw) (T := T_Sw) (N := 6) hx hb hts hin_Sw hown hK hP 0 rfl rfl 5 (by decide) (hts _ wd_206) (fun _ h9 => h9) rfl d_Sw_retreat_38 ?_
        refine lv_iconst (v := 2) hx hb d_Sw_retreat_41 (by decide) ?_
        refine lv_icmp_eq (tgt := 53) hx hb d_Sw_retreat_42 (by decide) (fun hc10 => ?_) (fun hc10 => ?_)
        · -- 42 taken
          exact absurd hc10 hph
        · -- 42 not taken
          exact tx_throwNew (n := 6) hx hb hno hfl hlocks hown (by decide) (by decide) (tx_own2 hts hX) (hts _ wd_390) (hts _ wd_391) (hts _ wd_13) (hl.1.trans hml.symm) d_Sw_retreat_45 d_Sw_retreat_48 d_Sw_retreat_49 d_Sw_retreat_52 (Nat.le_of_ble_eq_true rfl) (Nat.le_of_ble_eq_true rfl) (Nat.le_of_ble_eq_true rfl) (Nat.le_of_ble_eq_true rfl) (Nat.le_refl _)
      · -- 23: false
        refine lv_if_ne (tgt := 37) hx hb d_Sw_retreat_26 (by decide) (fun h0 => absurd (by decide) h0) (fun _ => ?_)
        exact False.elim (by unfold okT at hok; revert hok hq2 hq5 hq8; simp only [Int32.lt_iff_toInt_lt, Int32.le_iff_toInt_le, ← Int32.toInt_inj, Int32.reduceToInt, i32_m1]; omega)
    · -- 12: false
      refine lv_if_eq (tgt := 29) hx hb d_Sw_retreat_15 (by decide) (fun _ => ?_) (fun h0 => absurd (by decide) h0)
      exact False.elim (by unfold okT at hok; revert hok hq2 hq5; simp only [Int32.lt_iff_toInt_lt, Int32.le_iff_toInt_le, ← Int32.toInt_inj, Int32.reduceToInt, i32_m1]; omega)
  · -- 1: false
    refine lv_if_eq (tgt := 29) hx hb d_Sw_retreat_4 (by decide) (fun _ => ?_) (fun h0 => absurd (by decide) h0)
    exact False.elim (by unfold okT at hok; revert hok hq2; simp only [Int32.lt_iff_toInt_lt, Int32.le_iff_toInt_le, ← Int32.toInt_inj, Int32.reduceToInt, i32_m1]; omega)


set_option maxHeartbeats 4000000 in
set_option maxRecDepth 100000 in
theorem c_Sw_build_t2 (l : Launch) (D : va_G) (cI cZ cJ cS : ClassId) (aT : Nat) (ceT : Cell) (h0 hm hh he ha hp : Nat) (ph : Int32) (qh qn : Nat) (n seas cen : Int32) (pl a k : Int32) (hok : okB pl a k n) (hph : ¬ ph = 3) (hfl : l.flags = pinnedFlags ++ [noTraceFlag]) : MetT l y_Sw_build w_Sw_build ({ frames := 6, cells := 1, slots := 6, locals := 82 }) (tP D cI cZ cJ cS aT ceT [.ref h0, .int pl, .int a, .int k] [(h0, .inr (5, [.ref hm, .ref hh, .ref he, .ref ha, .ref hp, .int ph])), (hm, .inr (4, [.int n, .int seas, .int cen, .ref qh, .ref qn]))]) tx_ise 1 6 := by
  refine MetT.ofW (cc := b_Sw_build) (maxL := 4) (ret := (some .int)) (by decide) rfl ?_
  intro p e s m args below meth c s₁ B hml hv
  obtain ⟨rfl, hP, hK, hX⟩ := hv
  have hx := B.exec
  have hb := B.bytes
  have hr := B.returns
  have hts0 := atoms_spec (ws := w_Sw_build) B.pre
  have hts : ∀ w ∈ TB, w.before _ s = true := fun w h => hts0 w (List.mem_cons_of_mem _ h)
  have hno := B.noHandlers (hts0 _ (List.mem_cons_self ..))
  have hown : s.vm.findClass R_Sw = some m.cls := findClass_of_methodNamed B.named
  have hlocks := B.notSynchronized
  have hXH : s.heap[aT]? = s.heap[aT]? := rfl
  have hl := lv_entry ([.ref h0, .int pl, .int a, .int k]) (n := 4) (Nat.le_of_ble_eq_true rfl)
  rw [lg_entry_eq]
  generalize (lg_sl ([.ref h0, .int pl, .int a, .int k]) ++ List.replicate (4 - (lg_sl ([.ref h0, .int pl, .int a, .int k])).length) Slot.unset).toArray = ls at hl ⊢
  have hl : lv_has ls 4 [(0, .ref h0), (1, .int pl), (2, .int a), (3, .int k)] := hl
  refine lv_iload_n hx hb d_Sw_build_0 rfl (lv_at hl 1 rfl) ?_
  have hPc := hP.sub (ws' := []) [] rfl
  refine vp_callSi (va_Run.run (va_runS (As := [.int pl]) (rest := []) ⟨hx, hb, hml, hown, hts⟩ (c_Sw_isPlayer l D cI cZ cJ cS aT ceT  pl ) (va_cwS 1 hts (tb_3 wd_299 wd_300 wd_1 (tb_c wd_301)) rfl rfl rfl ⟨by decide, by decide, by decide +kernel⟩ ⟨Nat.le_of_ble_eq_true rfl, Nat.le_of_ble_eq_true rfl⟩) (tP_S hK hX hXH hPc) rfl rfl hl.1 rfl (lv_room (Nat.le_of_ble_eq_true rfl)) d_Sw_build_1 ⟨Nat.le_of_ble_eq_true rfl, Nat.le_of_ble_eq_true rfl⟩)) (fun r1 hr9 => ?_)
  rcases hr9 with ⟨rfl, hq2⟩ | ⟨rfl, hq2⟩
  · -- 1: true
    refine lv_if_eq (tgt := 27) hx hb d_Sw_build_4 (by decide) (fun h0 => absurd h0 (by decide)) (fun _ => ?_)
    refine lv_aload_n hx hb d_Sw_build_7 rfl (lv_at hl 0 rfl) ?_
    refine va_get (D := D) (ci := 5) (v := .ref hm) (C := R_Sw) (T := T_Sw) (N := 6) hx hb hts hin_Sw hown hK hP 0 rfl rfl 0 (by decide) (hts _ wd_201) (fun _ h9 => h9) rfl d_Sw_build_8 ?_
    refine lv_iload_n hx hb d_Sw_build_11 rfl (lv_at hl 2 rfl) ?_
    have hPc := hP.sub (ws' := [(hm, .inr (4, [.int n, .int seas, .int cen, .ref qh, .ref qn]))]) [1] rfl
    refine vp_callSi (va_Run.run (va_runV (As := [.int a]) (rest := []) ⟨hx, hb, hml, hown, hts⟩ (c_Wm_has l D cI cZ cJ cS aT ceT  hm qh qn n seas cen a ) (cwV 1 hts (tb_4 wd_224 wd_225 wd_226 wd_2 (tb_c wd_227)) rfl rfl rfl ⟨rfl, by decide, by decide, by decide +kernel⟩ ⟨Nat.le_of_ble_eq_true rfl, Nat.le_of_ble_eq_true rfl⟩) (tP_V hK hX hXH hPc (q := 0) rfl rfl) rfl rfl hl.1 rfl (lv_room (Nat.le_of_ble_eq_true rfl)) d_Sw_build_12 ⟨Nat.le_of_ble_eq_true rfl, Nat.le_of_ble_eq_true rfl⟩)) (fun r4 hr9 => ?_)
    rcases hr9 with ⟨rfl, hq5⟩ | ⟨rfl, hq5⟩
    · -- 12: true
      refine lv_if_eq (tgt := 27) hx hb d_Sw_build_15 (by decide) (fun h0 => absurd h0 (by decide)) (fun _ => ?_)
      refine lv_iload_n hx hb d_Sw_build_18 rfl (lv_at hl 3 rfl) ?_
      refine lv_if_lt (tgt := 27) hx hb d_Sw_build_19 (by decide) (fun hc7 => ?_) (fun hc7 => ?_)
      · -- 19 taken
        exact False.elim (by unfold okB at hok; revert hok hq2 hq5 hc7; simp only [Int32.lt_iff_toInt_lt, Int32.le_iff_toInt_le, ← Int32.toInt_inj, Int32.reduceToInt, i32_m1]; omega)
      · -- 19 not taken
        refine lv_iload_n hx hb d_Sw_build_22 rfl (lv_at hl 3 rfl) ?_
        refine lv_iconst (v := 2) hx hb d_Sw_build_23 (by decide) ?_
        refine lv_icmp_le (tgt := 35) hx hb d_Sw_build_24 (by decide) (fun hc8 => ?_) (fun hc8 => ?_)
        · -- 24 taken
          refine lv_aload_n hx hb d_Sw_build_35 rfl (lv_at hl 0 rfl) ?_
          refine va_get (D := D) (ci := 5) (v := .int ph) (C := R_Sw) (T := T_Sw) (N := 6) hx hb hts hin_Sw hown hK hP 0 rfl rfl 5 (by decide) (hts _ wd_206) (fun _ h9 => h9) rfl d_Sw_build_36 ?_
          refine lv_iconst (v := 3) hx hb d_Sw_build_39 (by decide) ?_
          refine lv_icmp_eq (tgt := 51) hx hb d_Sw_build_40 (by decide) (fun hc9 => ?_) (fun hc9 => ?_)
          · -- 40 taken
            exact absurd hc9 hph
          · -- 40 not taken
            exact tx_throwNew (n := 6) hx hb hno hfl hlocks hown (by decide) (by decide) (tx_own2 hts hX) (hts _ wd_390) (hts _ wd_391) (hts _ wd_13) (hl.1.trans hml.symm) d_Sw_build_43 d_Sw_build_46 d_Sw_build_47 d_Sw_build_50 (Nat.le_of_ble_eq_true rfl) (Nat.le_of_ble_eq_true rfl) (Nat.le_of_ble_eq_true rfl) (Nat.le_of_ble_eq_true rfl) (Nat.le_refl _)
        · -- 24 not taken
          exact False.elim (by unfold okB at hok; revert hok hq2 hq5 hc7 hc8; simp only [Int32.lt_iff_toInt_lt, Int32.le_iff_toInt_le, ← Int32.toInt_inj, Int32.reduceToInt, i32_m1]; omega)
    · -- 12: false
      refine lv_if_eq (tgt := 27) hx hb d_Sw_build_15 (by decide) (fun _ => ?_) (fun h0 => absurd (by decide) h0)
      exact False.elim (by unfold okB at hok; revert hok hq2 hq5; simp only [Int32.lt_iff_toInt_lt, Int32.le_iff_toInt_le, ← Int32.toInt_inj, Int32.reduceToInt, i32_m1]; omega)
  · -- 1: false
    refine lv_if_eq (tgt := 27) hx hb d_Sw_build_4 (by decide) (fun _ => ?_) (fun h0 => absurd (by decide) h0)
    exact False.elim (by unfold okB at hok; revert hok hq2; simp only [Int32.lt_iff_toInt_lt, Int32.le_iff_toInt_le, ← Int32.toInt_inj, Int32.reduceToInt, i32_m1]; omega)


set_option maxHeartbeats 4000000 in
set_option maxRecDepth 100000 in
theorem c_Sw_border_t2 (l : Launch) (D : va_G) (cI cZ cJ cS : ClassId) (aT : Nat) (ceT : Cell) (h0 hm hh he ha hp : Nat) (ph : Int32) (qh qn : Nat) (n seas cen : Int32) (a b : Int32) (hok : ((0 ≤ a ∧ a < n) ∧ (0 ≤ b ∧ b < n) ∧ ¬ a = b)) (hph : ¬ ph = 0) (hfl : l.flags = pinnedFlags ++ [noTraceFlag]) : MetT l y_Sw_border w_Sw_border ({ frames := 6, cells := 1, slots := 6, locals := 82 }) (tP D cI cZ cJ cS aT ceT [.ref h0, .int a, .int b] [(h0, .inr (5, [.ref hm, .ref hh, .ref he, .ref ha, .ref hp, .int ph])), (hm, .inr (4, [.int n, .int seas, .int cen, .ref qh, .ref qn]))]) tx_ise 1 6 := by
  refine MetT.ofW (cc := b_Sw_border) (maxL := 3) (ret := (some .boolean)) (by decide) rfl ?_
  intro p e s m args below meth c s₁ B hml hv
  obtain ⟨rfl, hP, hK, hX⟩ := hv
  have hx := B.exec
  have hb := B.bytes
  have hr := B.returns
  have hts0 := atoms_spec (ws := w_Sw_border) B.pre
  have hts : ∀ w ∈ TB, w.before _ s = true := fun w h => hts0 w (List.mem_cons_of_mem _ h)
  have hno := B.noHandlers (hts0 _ (List.mem_cons_self ..))
  have hown : s.vm.findClass R_Sw = some m.cls := findClass_of_methodNamed B.named
  have hlocks := B.notSynchronized
  have hXH : s.heap[aT]? = s.heap[aT]? := rfl
  have hl := lv_entry ([.ref h0, .int a, .int b]) (n := 3) (Nat.le_of_ble_eq_true rfl)
  rw [lg_entry_eq]
  generalize (lg_sl ([.ref h0, .int a, .int b]) ++ List.replicate (3 - (lg_sl ([.ref h0, .int a, .int b])).length) Slot.unset).toArray = ls at hl ⊢
  have hl : lv_has ls 3 [(0, .ref h0), (1, .int a), (2, .int b)] := hl
  refine lv_aload_n hx hb d_Sw_border_0 rfl (lv_at hl 0 rfl) ?_
  refine va_get (D := D) (ci := 5) (v := .ref hm) (C := R_Sw) (T := T_Sw) (N := 6) hx hb hts hin_Sw hown hK hP 0 rfl rfl 0 (by decide) (hts _ wd_201) (fun _ h9 => h9) rfl d_Sw_border_1 ?_
  refine lv_iload_n hx hb d_Sw_border_4 rfl (lv_at hl 1 rfl) ?_
  have hPc := hP.sub (ws' := [(hm, .inr (4, [.int n, .int seas, .int cen, .ref qh, .ref qn]))]) [1] rfl
  refine vp_callSi (va_Run.run (va_runV (As := [.int a]) (rest := []) ⟨hx, hb, hml, hown, hts⟩ (c_Wm_has l D cI cZ cJ cS aT ceT  hm qh qn n seas cen a ) (cwV 1 hts (tb_4 wd_224 wd_225 wd_226 wd_2 (tb_c wd_227)) rfl rfl rfl ⟨rfl, by decide, by decide, by decide +kernel⟩ ⟨Nat.le_of_ble_eq_true rfl, Nat.le_of_ble_eq_true rfl⟩) (tP_V hK hX hXH hPc (q := 0) rfl rfl) rfl rfl hl.1 rfl (lv_room (Nat.le_of_ble_eq_true rfl)) d_Sw_border_5 ⟨Nat.le_of_ble_eq_true rfl, Nat.le_of_ble_eq_true rfl⟩)) (fun r1 hr9 => ?_)
  rcases hr9 with ⟨rfl, hq2⟩ | ⟨rfl, hq2⟩
  · -- 5: true
    refine lv_if_eq (tgt := 27) hx hb d_Sw_border_8 (by decide) (fun h0 => absurd h0 (by decide)) (fun _ => ?_)
    refine lv_aload_n hx hb d_Sw_border_11 rfl (lv_at hl 0 rfl) ?_
    refine va_get (D := D) (ci := 5) (v := .ref hm) (C := R_Sw) (T := T_Sw) (N := 6) hx hb hts hin_Sw hown hK hP 0 rfl rfl 0 (by decide) (hts _ wd_201) (fun _ h9 => h9) rfl d_Sw_border_12 ?_
    refine lv_iload_n hx hb d_Sw_border_15 rfl (lv_at hl 2 rfl) ?_
    have hPc := hP.sub (ws' := [(hm, .inr (4, [.int n, .int seas, .int cen, .ref qh, .ref qn]))]) [1] rfl
    refine vp_callSi (va_Run.run (va_runV (As := [.int b]) (rest := []) ⟨hx, hb, hml, hown, hts⟩ (c_Wm_has l D cI cZ cJ cS aT ceT  hm qh qn n seas cen b ) (cwV 1 hts (tb_4 wd_224 wd_225 wd_226 wd_2 (tb_c wd_227)) rfl rfl rfl ⟨rfl, by decide, by decide, by decide +kernel⟩ ⟨Nat.le_of_ble_eq_true rfl, Nat.le_of_ble_eq_true rfl⟩) (tP_V hK hX hXH hPc (q := 0) rfl rfl) rfl rfl hl.1 rfl (lv_room (Nat.le_of_ble_eq_true rfl)) d_Sw_border_16 ⟨Nat.le_of_ble_eq_true rfl, Nat.le_of_ble_eq_true rfl⟩)) (fun r4 hr9 => ?_)
    rcases hr9 with ⟨rfl, hq5⟩ | ⟨rfl, hq5⟩
    · -- 16: true
      refine lv_if_eq (tgt := 27) hx hb d_Sw_border_19 (by decide) (fun h0 => absurd h0 (by decide)) (fun _ => ?_)
      refine lv_iload_n hx hb d_Sw_border_22 rfl (lv_at hl 1 rfl) ?_
      refine lv_iload_n hx hb d_Sw_border_23 rfl (lv_at hl 2 rfl) ?_
      refine lv_icmp_ne (tgt := 35) hx hb d_Sw_border_24 (by decide) (fun hc7 => ?_) (fun hc7 => ?_)
      · -- 24 taken
        refine lv_aload_n hx hb d_Sw_border_35 rfl (lv_at hl 0 rfl) ?_
        refine va_get (D := D) (ci := 5) (v := .int ph) (C := R_Sw) (T := T_Sw) (N := 6) hx hb hts hin_Sw hown hK hP 0 rfl rfl 5 (by decide) (hts _ wd_206) (fun _ h9 => h9) rfl d_Sw_border_36 ?_
        refine lv_if_eq (tgt := 50) hx hb d_Sw_border_39 (by decide) (fun hc8 => ?_) (fun hc8 => ?_)
        · -- 39 taken
          exact absurd hc8 hph
        · -- 39 not taken
          exact tx_throwNew (n := 6) hx hb hno hfl hlocks hown (by decide) (by decide) (tx_own2 hts hX) (hts _ wd_390) (hts _ wd_391) (hts _ wd_13) (hl.1.trans hml.symm) d_Sw_border_42 d_Sw_border_45 d_Sw_border_46 d_Sw_border_49 (Nat.le_of_ble_eq_true rfl) (Nat.le_of_ble_eq_true rfl) (Nat.le_of_ble_eq_true rfl) (Nat.le_of_ble_eq_true rfl) (Nat.le_refl _)
      · -- 24 not taken
        exact False.elim (by revert hok hq2 hq5 hc7; simp only [Int32.lt_iff_toInt_lt, Int32.le_iff_toInt_le, ← Int32.toInt_inj, Int32.reduceToInt, i32_m1]; omega)
    · -- 16: false
      refine lv_if_eq (tgt := 27) hx hb d_Sw_border_19 (by decide) (fun _ => ?_) (fun h0 => absurd (by decide) h0)
      exact False.elim (by revert hok hq2 hq5; simp only [Int32.lt_iff_toInt_lt, Int32.le_iff_toInt_le, ← Int32.toInt_inj, Int32.reduceToInt, i32_m1]; omega)
  · -- 5: false
    refine lv_if_eq (tgt := 27) hx hb d_Sw_border_8 (by decide) (fun _ => ?_) (fun h0 => absurd (by decide) h0)
    exact False.elim (by revert hok hq2; simp only [Int32.lt_iff_toInt_lt, Int32.le_iff_toInt_le, ← Int32.toInt_inj, Int32.reduceToInt, i32_m1]; omega)


set_option maxHeartbeats 4000000 in
set_option maxRecDepth 100000 in
theorem c_Sw_area_t2 (l : Launch) (D : va_G) (cI cZ cJ cS : ClassId) (aT : Nat) (ceT : Cell) (h0 hm hh he ha hp : Nat) (ph : Int32) (qh qn : Nat) (n seas cen : Int32) (k ce h : Int32) (hok : okA k ce h) (hph : ¬ (ph = 0 ∧ n < 12)) (hfl : l.flags = pinnedFlags ++ [noTraceFlag]) : MetT l y_Sw_area w_Sw_area ({ frames := 6, cells := 1, slots := 6, locals := 82 }) (tP D cI cZ cJ cS aT ceT [.ref h0, .int k, .int ce, .int h] [(h0, .inr (5, [.ref hm, .ref hh, .ref he, .ref ha, .ref hp, .int ph])), (hm, .inr (4, [.int n, .int seas, .int cen, .ref qh, .ref qn]))]) tx_ise 1 6 := by
  refine MetT.ofW (cc := b_Sw_area) (maxL := 4) (ret := (some .int)) (by decide) rfl ?_
  intro p e s m args below meth c s₁ B hml hv
  obtain ⟨rfl, hP, hK, hX⟩ := hv
  have hx := B.exec
  have hb := B.bytes
  have hr := B.returns
  have hts0 := atoms_spec (ws := w_Sw_area) B.pre
  have hts : ∀ w ∈ TB, w.before _ s = true := fun w h => hts0 w (List.mem_cons_of_mem _ h)
  have hno := B.noHandlers (hts0 _ (List.mem_cons_self ..))
  have hown : s.vm.findClass R_Sw = some m.cls := findClass_of_methodNamed B.named
  have hlocks := B.notSynchronized
  have hXH : s.heap[aT]? = s.heap[aT]? := rfl
  have hl := lv_entry ([.ref h0, .int k, .int ce, .int h]) (n := 4) (Nat.le_of_ble_eq_true rfl)
  rw [lg_entry_eq]
  generalize (lg_sl ([.ref h0, .int k, .int ce, .int h]) ++ List.replicate (4 - (lg_sl ([.ref h0, .int k, .int ce, .int h])).length) Slot.unset).toArray = ls at hl ⊢
  have hl : lv_has ls 4 [(0, .ref h0), (1, .int k), (2, .int ce), (3, .int h)] := hl
  refine lv_iload_n hx hb d_Sw_area_0 rfl (lv_at hl 1 rfl) ?_
  refine lv_if_eq (tgt := 17) hx hb d_Sw_area_1 (by decide) (fun hc1 => ?_) (fun hc1 => ?_)
  · -- 1 taken
    refine lv_iload_n hx hb d_Sw_area_17 rfl (lv_at hl 3 rfl) ?_
    refine lv_iconst (v := (-1)) hx hb d_Sw_area_18 (by decide) ?_
    refine lv_icmp_eq (tgt := 37) hx hb d_Sw_area_19 (by decide) (fun hc2 => ?_) (fun hc2 => ?_)
    · -- 19 taken
      refine lv_iload_n hx hb d_Sw_area_37 rfl (lv_at hl 2 rfl) ?_
      refine lv_if_eq (tgt := 49) hx hb d_Sw_area_38 (by decide) (fun hc3 => ?_) (fun hc3 => ?_)
      · -- 38 taken
        refine lv_iload_n hx hb d_Sw_area_49 rfl (lv_at hl 3 rfl) ?_
        refine lv_iconst (v := (-1)) hx hb d_Sw_area_50 (by decide) ?_
        refine lv_icmp_eq (tgt := 62) hx hb d_Sw_area_51 (by decide) (fun _ => ?_) (fun h0 => absurd hc2 h0)
        refine lv_aload_n hx hb d_Sw_area_62 rfl (lv_at hl 0 rfl) ?_
        refine va_get (D := D) (ci := 5) (v := .int ph) (C := R_Sw) (T := T_Sw) (N := 6) hx hb hts hin_Sw hown hK hP 0 rfl rfl 5 (by decide) (hts _ wd_206) (fun _ h9 => h9) rfl d_Sw_area_63 ?_
        refine lv_if_ne (tgt := 81) hx hb d_Sw_area_66 (by decide) (fun hc5 => ?_) (fun hc5 => ?_)
        · -- 66 taken
          exact tx_throwNew (n := 6) hx hb hno hfl hlocks hown (by decide) (by decide) (tx_own2 hts hX) (hts _ wd_390) (hts _ wd_391) (hts _ wd_13) (hl.1.trans hml.symm) d_Sw_area_81 d_Sw_area_84 d_Sw_area_85 d_Sw_area_88 (Nat.le_of_ble_eq_true rfl) (Nat.le_of_ble_eq_true rfl) (Nat.le_of_ble_eq_true rfl) (Nat.le_of_ble_eq_true rfl) (Nat.le_refl _)
        · -- 66 not taken
          refine lv_aload_n hx hb d_Sw_area_69 rfl (lv_at hl 0 rfl) ?_
          refine va_get (D := D) (ci := 5) (v := .ref hm) (C := R_Sw) (T := T_Sw) (N := 6) hx hb hts hin_Sw hown hK hP 0 rfl rfl 0 (by decide) (hts _ wd_201) (fun _ h9 => h9) rfl d_Sw_area_70 ?_
          refine va_get (D := D) (ci := 4) (v := .int n) (C := R_Wm) (T := T_Wm) (N := 5) hx hb hts hin_Wm hown hK hP 1 rfl rfl 0 (by decide) (hts _ wd_32) (fun _ h9 => h9) rfl d_Sw_area_73 ?_
          refine lv_bipush (v := 12) hx hb d_Sw_area_76 (by decide) ?_
          refine lv_icmp_lt (tgt := 89) hx hb d_Sw_area_78 (by decide) (fun hc6 => ?_) (fun hc6 => ?_)
          · -- 78 taken
            exact absurd (by revert hc1 hc2 hc3 hc5 hc6; simp only [Int32.lt_iff_toInt_lt, Int32.le_iff_toInt_le, ← Int32.toInt_inj, Int32.reduceToInt, i32_m1]; omega) hph
          · -- 78 not taken
            exact tx_throwNew (n := 6) hx hb hno hfl hlocks hown (by decide) (by decide) (tx_own2 hts hX) (hts _ wd_390) (hts _ wd_391) (hts _ wd_13) (hl.1.trans hml.symm) d_Sw_area_81 d_Sw_area_84 d_Sw_area_85 d_Sw_area_88 (Nat.le_of_ble_eq_true rfl) (Nat.le_of_ble_eq_true rfl) (Nat.le_of_ble_eq_true rfl) (Nat.le_of_ble_eq_true rfl) (Nat.le_refl _)
      · -- 38 not taken
        refine lv_iload_n hx hb d_Sw_area_41 rfl (lv_at hl 1 rfl) ?_
        refine lv_iconst (v := 1) hx hb d_Sw_area_42 (by decide) ?_
        refine lv_icmp_ne (tgt := 62) hx hb d_Sw_area_43 (by decide) (fun hc7 => ?_) (fun hc7 => ?_)
        · -- 43 taken
          refine lv_aload_n hx hb d_Sw_area_62 rfl (lv_at hl 0 rfl) ?_
          refine va_get (D := D) (ci := 5) (v := .int ph) (C := R_Sw) (T := T_Sw) (N := 6) hx hb hts hin_Sw hown hK hP 0 rfl rfl 5 (by decide) (hts _ wd_206) (fun _ h9 => h9) rfl d_Sw_area_63 ?_
          refine lv_if_ne (tgt := 81) hx hb d_Sw_area_66 (by decide) (fun hc8 => ?_) (fun hc8 => ?_)
          · -- 66 taken
            exact tx_throwNew (n := 6) hx hb hno hfl hlocks hown (by decide) (by decide) (tx_own2 hts hX) (hts _ wd_390) (hts _ wd_391) (hts _ wd_13) (hl.1.trans hml.symm) d_Sw_area_81 d_Sw_area_84 d_Sw_area_85 d_Sw_area_88 (Nat.le_of_ble_eq_true rfl) (Nat.le_of_ble_eq_true rfl) (Nat.le_of_ble_eq_true rfl) (Nat.le_of_ble_eq_true rfl) (Nat.le_refl _)
          · -- 66 not taken
            refine lv_aload_n hx hb d_Sw_area_69 rfl (lv_at hl 0 rfl) ?_
            refine va_get (D := D) (ci := 5) (v := .ref hm) (C := R_Sw) (T := T_Sw) (N := 6) hx hb hts hin_Sw hown hK hP 0 rfl rfl 0 (by decide) (hts _ wd_201) (fun _ h9 => h9) rfl d_Sw_area_70 ?_
            refine va_get (D := D) (ci := 4) (v := .int n) (C := R_Wm) (T := T_Wm) (N := 5) hx hb hts hin_Wm hown hK hP 1 rfl rfl 0 (by decide) (hts _ wd_32) (fun _ h9 => h9) rfl d_Sw_area_73 ?_
            refine lv_bipush (v := 12) hx hb d_Sw_area_76 (by decide) ?_
            refine lv_icmp_lt (tgt := 89) hx hb d_Sw_area_78 (by decide) (fun hc9 => ?_) (fun hc9 => ?_)
            · -- 78 taken
              exact absurd (by revert hc1 hc2 hc3 hc7 hc8 hc9; simp only [Int32.lt_iff_toInt_lt, Int32.le_iff_toInt_le, ← Int32.toInt_inj, Int32.reduceToInt, i32_m1]; omega) hph
            · -- 78 not taken
              exact tx_throwNew (n := 6) hx hb hno hfl hlocks hown (by decide) (by decide) (tx_own2 hts hX) (hts _ wd_390) (hts _ wd_391) (hts _ wd_13) (hl.1.trans hml.symm) d_Sw_area_81 d_Sw_area_84 d_Sw_area_85 d_Sw_area_88 (Nat.le_of_ble_eq_true rfl) (Nat.le_of_ble_eq_true rfl) (Nat.le_of_ble_eq_true rfl) (Nat.le_of_ble_eq_true rfl) (Nat.le_refl _)
        · -- 43 not taken
          refine lv_goto (tgt := 54) hx hb d_Sw_area_46 (by decide) ?_
          exact False.elim (by unfold okA at hok; revert hok hc1 hc2 hc3 hc7; simp only [Int32.lt_iff_toInt_lt, Int32.le_iff_toInt_le, ← Int32.toInt_inj, Int32.reduceToInt, i32_m1]; omega)
    · -- 19 not taken
      refine lv_iload_n hx hb d_Sw_area_22 rfl (lv_at hl 3 rfl) ?_
      have hPc := hP.sub (ws' := []) [] rfl
      refine vp_callSi (va_Run.run (va_runS (As := [.int h]) (rest := []) ⟨hx, hb, hml, hown, hts⟩ (c_Sw_isPlayer l D cI cZ cJ cS aT ceT  h ) (va_cwS 1 hts (tb_3 wd_299 wd_300 wd_1 (tb_c wd_301)) rfl rfl rfl ⟨by decide, by decide, by decide +kernel⟩ ⟨Nat.le_of_ble_eq_true rfl, Nat.le_of_ble_eq_true rfl⟩) (tP_S hK hX hXH hPc) rfl rfl hl.1 rfl (lv_room (Nat.le_of_ble_eq_true rfl)) d_Sw_area_23 ⟨Nat.le_of_ble_eq_true rfl, Nat.le_of_ble_eq_true rfl⟩)) (fun r10 hr9 => ?_)
      rcases hr9 with ⟨rfl, hq11⟩ | ⟨rfl, hq11⟩
      · -- 23: true
        refine lv_if_ne (tgt := 37) hx hb d_Sw_area_26 (by decide) (fun _ => ?_) (fun h0 => absurd h0 (by decide))
        refine lv_iload_n hx hb d_Sw_area_37 rfl (lv_at hl 2 rfl) ?_
        refine lv_if_eq (tgt := 49) hx hb d_Sw_area_38 (by decide) (fun hc13 => ?_) (fun hc13 => ?_)
        · -- 38 taken
          refine lv_iload_n hx hb d_Sw_area_49 rfl (lv_at hl 3 rfl) ?_
          refine lv_iconst (v := (-1)) hx hb d_Sw_area_50 (by decide) ?_
          refine lv_icmp_eq (tgt := 62) hx hb d_Sw_area_51 (by decide) (fun h0 => absurd h0 hc2) (fun _ => ?_)
          exact False.elim (by unfold okA at hok; revert hok hc1 hc2 hq11 hc13; simp only [Int32.lt_iff_toInt_lt, Int32.le_iff_toInt_le, ← Int32.toInt_inj, Int32.reduceToInt, i32_m1]; omega)
        · -- 38 not taken
          refine lv_iload_n hx hb d_Sw_area_41 rfl (lv_at hl 1 rfl) ?_
          refine lv_iconst (v := 1) hx hb d_Sw_area_42 (by decide) ?_
          refine lv_icmp_ne (tgt := 62) hx hb d_Sw_area_43 (by decide) (fun hc15 => ?_) (fun hc15 => ?_)
          · -- 43 taken
            refine lv_aload_n hx hb d_Sw_area_62 rfl (lv_at hl 0 rfl) ?_
            refine va_get (D := D) (ci := 5) (v := .int ph) (C := R_Sw) (T := T_Sw) (N := 6) hx hb hts hin_Sw hown hK hP 0 rfl rfl 5 (by decide) (hts _ wd_206) (fun _ h9 => h9) rfl d_Sw_area_63 ?_
            refine lv_if_ne (tgt := 81) hx hb d_Sw_area_66 (by decide) (fun hc16 => ?_) (fun hc16 => ?_)
            · -- 66 taken
              exact tx_throwNew (n := 6) hx hb hno hfl hlocks hown (by decide) (by decide) (tx_own2 hts hX) (hts _ wd_390) (hts _ wd_391) (hts _ wd_13) (hl.1.trans hml.symm) d_Sw_area_81 d_Sw_area_84 d_Sw_area_85 d_Sw_area_88 (Nat.le_of_ble_eq_true rfl) (Nat.le_of_ble_eq_true rfl) (Nat.le_of_ble_eq_true rfl) (Nat.le_of_ble_eq_true rfl) (Nat.le_refl _)
            · -- 66 not taken
              refine lv_aload_n hx hb d_Sw_area_69 rfl (lv_at hl 0 rfl) ?_
              refine va_get (D := D) (ci := 5) (v := .ref hm) (C := R_Sw) (T := T_Sw) (N := 6) hx hb hts hin_Sw hown hK hP 0 rfl rfl 0 (by decide) (hts _ wd_201) (fun _ h9 => h9) rfl d_Sw_area_70 ?_
              refine va_get (D := D) (ci := 4) (v := .int n) (C := R_Wm) (T := T_Wm) (N := 5) hx hb hts hin_Wm hown hK hP 1 rfl rfl 0 (by decide) (hts _ wd_32) (fun _ h9 => h9) rfl d_Sw_area_73 ?_
              refine lv_bipush (v := 12) hx hb d_Sw_area_76 (by decide) ?_
              refine lv_icmp_lt (tgt := 89) hx hb d_Sw_area_78 (by decide) (fun hc17 => ?_) (fun hc17 => ?_)
              · -- 78 taken
                exact absurd (by revert hc1 hc2 hq11 hc13 hc15 hc16 hc17; simp only [Int32.lt_iff_toInt_lt, Int32.le_iff_toInt_le, ← Int32.toInt_inj, Int32.reduceToInt, i32_m1]; omega) hph
              · -- 78 not taken
                exact tx_throwNew (n := 6) hx hb hno hfl hlocks hown (by decide) (by decide) (tx_own2 hts hX) (hts _ wd_390) (hts _ wd_391) (hts _ wd_13) (hl.1.trans hml.symm) d_Sw_area_81 d_Sw_area_84 d_Sw_area_85 d_Sw_area_88 (Nat.le_of_ble_eq_true rfl) (Nat.le_of_ble_eq_true rfl) (Nat.le_of_ble_eq_true rfl) (Nat.le_of_ble_eq_true rfl) (Nat.le_refl _)
          · -- 43 not taken
            refine lv_goto (tgt := 54) hx hb d_Sw_area_46 (by decide) ?_
            exact False.elim (by unfold okA at hok; revert hok hc1 hc2 hq11 hc13 hc15; simp only [Int32.lt_iff_toInt_lt, Int32.le_iff_toInt_le, ← Int32.toInt_inj, Int32.reduceToInt, i32_m1]; omega)
      · -- 23: false
        refine lv_if_ne (tgt := 37) hx hb d_Sw_area_26 (by decide) (fun h0 => absurd (by decide) h0) (fun _ => ?_)
        exact False.elim (by unfold okA at hok; revert hok hc1 hc2 hq11; simp only [Int32.lt_iff_toInt_lt, Int32.le_iff_toInt_le, ← Int32.toInt_inj, Int32.reduceToInt, i32_m1]; omega)
  · -- 1 not taken
    refine lv_iload_n hx hb d_Sw_area_4 rfl (lv_at hl 1 rfl) ?_
    refine lv_iconst (v := 1) hx hb d_Sw_area_5 (by decide) ?_
    refine lv_icmp_eq (tgt := 17) hx hb d_Sw_area_6 (by decide) (fun hc19 => ?_) (fun hc19 => ?_)
    · -- 6 taken
      refine lv_iload_n hx hb d_Sw_area_17 rfl (lv_at hl 3 rfl) ?_
      refine lv_iconst (v := (-1)) hx hb d_Sw_area_18 (by decide) ?_
      refine lv_icmp_eq (tgt := 37) hx hb d_Sw_area_19 (by decide) (fun hc20 => ?_) (fun hc20 => ?_)
      · -- 19 taken
        refine lv_iload_n hx hb d_Sw_area_37 rfl (lv_at hl 2 rfl) ?_
        refine lv_if_eq (tgt := 49) hx hb d_Sw_area_38 (by decide) (fun hc21 => ?_) (fun hc21 => ?_)
        · -- 38 taken
          refine lv_iload_n hx hb d_Sw_area_49 rfl (lv_at hl 3 rfl) ?_
          refine lv_iconst (v := (-1)) hx hb d_Sw_area_50 (by decide) ?_
          refine lv_icmp_eq (tgt := 62) hx hb d_Sw_area_51 (by decide) (fun _ => ?_) (fun h0 => absurd hc20 h0)
          refine lv_aload_n hx hb d_Sw_area_62 rfl (lv_at hl 0 rfl) ?_
          refine va_get (D := D) (ci := 5) (v := .int ph) (C := R_Sw) (T := T_Sw) (N := 6) hx hb hts hin_Sw hown hK hP 0 rfl rfl 5 (by decide) (hts _ wd_206) (fun _ h9 => h9) rfl d_Sw_area_63 ?_
          refine lv_if_ne (tgt := 81) hx hb d_Sw_area_66 (by decide) (fun hc23 => ?_) (fun hc23 => ?_)
          · -- 66 taken
            exact tx_throwNew (n := 6) hx hb hno hfl hlocks hown (by decide) (by decide) (tx_own2 hts hX) (hts _ wd_390) (hts _ wd_391) (hts _ wd_13) (hl.1.trans hml.symm) d_Sw_area_81 d_Sw_area_84 d_Sw_area_85 d_Sw_area_88 (Nat.le_of_ble_eq_true rfl) (Nat.le_of_ble_eq_true rfl) (Nat.le_of_ble_eq_true rfl) (Nat.le_of_ble_eq_true rfl) (Nat.le_refl _)
          · -- 66 not taken
            refine lv_aload_n hx hb d_Sw_area_69 rfl (lv_at hl 0 rfl) ?_
            refine va_get (D := D) (ci := 5) (v := .ref hm) (C := R_Sw) (T := T_Sw) (N := 6) hx hb hts hin_Sw hown hK hP 0 rfl rfl 0 (by decide) (hts _ wd_201) (fun _ h9 => h9) rfl d_Sw_area_70 ?_
            refine va_get (D := D) (ci := 4) (v := .int n) (C := R_Wm) (T := T_Wm) (N := 5) hx hb hts hin_Wm hown hK hP 1 rfl rfl 0 (by decide) (hts _ wd_32) (fun _ h9 => h9) rfl d_Sw_area_73 ?_
            refine lv_bipush (v := 12) hx hb d_Sw_area_76 (by decide) ?_
            refine lv_icmp_lt (tgt := 89) hx hb d_Sw_area_78 (by decide) (fun hc24 => ?_) (fun hc24 => ?_)
            · -- 78 taken
              exact absurd (by revert hc1 hc19 hc20 hc21 hc23 hc24; simp only [Int32.lt_iff_toInt_lt, Int32.le_iff_toInt_le, ← Int32.toInt_inj, Int32.reduceToInt, i32_m1]; omega) hph
            · -- 78 not taken
              exact tx_throwNew (n := 6) hx hb hno hfl hlocks hown (by decide) (by decide) (tx_own2 hts hX) (hts _ wd_390) (hts _ wd_391) (hts _ wd_13) (hl.1.trans hml.symm) d_Sw_area_81 d_Sw_area_84 d_Sw_area_85 d_Sw_area_88 (Nat.le_of_ble_eq_true rfl) (Nat.le_of_ble_eq_true rfl) (Nat.le_of_ble_eq_true rfl) (Nat.le_of_ble_eq_true rfl) (Nat.le_refl _)
        · -- 38 not taken
          refine lv_iload_n hx hb d_Sw_area_41 rfl (lv_at hl 1 rfl) ?_
          refine lv_iconst (v := 1) hx hb d_Sw_area_42 (by decide) ?_
          refine lv_icmp_ne (tgt := 62) hx hb d_Sw_area_43 (by decide) (fun h0 => absurd hc19 h0) (fun _ => ?_)
          refine lv_goto (tgt := 54) hx hb d_Sw_area_46 (by decide) ?_
          exact False.elim (by unfold okA at hok; revert hok hc1 hc19 hc20 hc21; simp only [Int32.lt_iff_toInt_lt, Int32.le_iff_toInt_le, ← Int32.toInt_inj, Int32.reduceToInt, i32_m1]; omega)
      · -- 19 not taken
        refine lv_iload_n hx hb d_Sw_area_22 rfl (lv_at hl 3 rfl) ?_
        have hPc := hP.sub (ws' := []) [] rfl
        refine vp_callSi (va_Run.run (va_runS (As := [.int h]) (rest := []) ⟨hx, hb, hml, hown, hts⟩ (c_Sw_isPlayer l D cI cZ cJ cS aT ceT  h ) (va_cwS 1 hts (tb_3 wd_299 wd_300 wd_1 (tb_c wd_301)) rfl rfl rfl ⟨by decide, by decide, by decide +kernel⟩ ⟨Nat.le_of_ble_eq_true rfl, Nat.le_of_ble_eq_true rfl⟩) (tP_S hK hX hXH hPc) rfl rfl hl.1 rfl (lv_room (Nat.le_of_ble_eq_true rfl)) d_Sw_area_23 ⟨Nat.le_of_ble_eq_true rfl, Nat.le_of_ble_eq_true rfl⟩)) (fun r26 hr9 => ?_)
        rcases hr9 with ⟨rfl, hq27⟩ | ⟨rfl, hq27⟩
        · -- 23: true
          refine lv_if_ne (tgt := 37) hx hb d_Sw_area_26 (by decide) (fun _ => ?_) (fun h0 => absurd h0 (by decide))
          refine lv_iload_n hx hb d_Sw_area_37 rfl (lv_at hl 2 rfl) ?_
          refine lv_if_eq (tgt := 49) hx hb d_Sw_area_38 (by decide) (fun hc29 => ?_) (fun hc29 => ?_)
          · -- 38 taken
            refine lv_iload_n hx hb d_Sw_area_49 rfl (lv_at hl 3 rfl) ?_
            refine lv_iconst (v := (-1)) hx hb d_Sw_area_50 (by decide) ?_
            refine lv_icmp_eq (tgt := 62) hx hb d_Sw_area_51 (by decide) (fun h0 => absurd h0 hc20) (fun _ => ?_)
            exact False.elim (by unfold okA at hok; revert hok hc1 hc19 hc20 hq27 hc29; simp only [Int32.lt_iff_toInt_lt, Int32.le_iff_toInt_le, ← Int32.toInt_inj, Int32.reduceToInt, i32_m1]; omega)
          · -- 38 not taken
            refine lv_iload_n hx hb d_Sw_area_41 rfl (lv_at hl 1 rfl) ?_
            refine lv_iconst (v := 1) hx hb d_Sw_area_42 (by decide) ?_
            refine lv_icmp_ne (tgt := 62) hx hb d_Sw_area_43 (by decide) (fun h0 => absurd hc19 h0) (fun _ => ?_)
            refine lv_goto (tgt := 54) hx hb d_Sw_area_46 (by decide) ?_
            exact False.elim (by unfold okA at hok; revert hok hc1 hc19 hc20 hq27 hc29; simp only [Int32.lt_iff_toInt_lt, Int32.le_iff_toInt_le, ← Int32.toInt_inj, Int32.reduceToInt, i32_m1]; omega)
        · -- 23: false
          refine lv_if_ne (tgt := 37) hx hb d_Sw_area_26 (by decide) (fun h0 => absurd (by decide) h0) (fun _ => ?_)
          exact False.elim (by unfold okA at hok; revert hok hc1 hc19 hc20 hq27; simp only [Int32.lt_iff_toInt_lt, Int32.le_iff_toInt_le, ← Int32.toInt_inj, Int32.reduceToInt, i32_m1]; omega)
    · -- 6 not taken
      exact False.elim (by unfold okA at hok; revert hok hc1 hc19; simp only [Int32.lt_iff_toInt_lt, Int32.le_iff_toInt_le, ← Int32.toInt_inj, Int32.reduceToInt, i32_m1]; omega)
